set_option maxHeartbeats 4000000 in
set_option maxRecDepth 100000 in
theorem law_c22 {p : Program} {l : Launch} {e : Env} {s : State} {m : MethodId} {below : List Frame} {meth : Method} {c : Code} {b L : Nat} {xs : Nat → Int32} (hL : L ≤ 3072) (C0 : lw_At p s m meth c b L xs) {dC : Nat → ClassId} {dI : Nat → Nat → Nat} {cyI cyB cyJ cyZ cyH cyN cyM : ClassId} {tR tF : Nat} {aK aV : Nat → Nat} {tg : Nat → Nat} {SZ x0 m0 : Nat} (hFIX : FIX dC dI cyI cyB cyJ cyZ cyH cyN cyM tR tF aK aV tg SZ s) {i : Int32} (hi0 : 0 ≤ i.toInt) (hi : i.toInt + 6 ≤ (L : Int)) {ls : Array Slot} (hl : lv_has ls 4 [(3, .int i), (2, .ref m0), (1, .ref x0), (0, .ref b)]) (kk : ∀ (H : Heap) (locs : List Loc) (cells slots : Nat), INV dC dI cyI cyB cyJ cyZ cyH cyN cyM tg SZ x0 m0 H cells slots → va_S (fun q : Nat => s.heap.size ≤ q) s.heap H locs → W p l e room_1 s m #[Value.ref b] below meth c H locs cells slots (lw_Z below #[Value.ref b] s) (F0 m 1930 ls [])) {H : Heap} {locs : List Loc} {cells slots : Nat} (hI : INV dC dI cyI cyB cyJ cyZ cyH cyN cyM tg SZ x0 m0 H cells slots) (hS : va_S (fun q : Nat => s.heap.size ≤ q) s.heap H locs) : W p l e room_1 s m #[Value.ref b] below meth c H locs cells slots (lw_Z below #[Value.ref b] s) (F0 m 818 ls []) := by
  obtain ⟨hx, hb, hr, hml, hown, hts0, hX, hbl, hlocks, hgv⟩ := id C0
  have hts : ∀ w ∈ uU, w.before #[Value.ref b] s = true := fun w h => hts0 w (uU_in h)
  have hbA : ¬ (fun q : Nat => s.heap.size ≤ q) b := Nat.not_le.mpr hbl
  refine lv_aload_n hx hb dL_law_818 rfl (lv_at hl 2 rfl) ?_
  refine lv_aload_n hx hb dL_law_819 rfl (lv_at hl 3 rfl) ?_
  refine lv_iload_n hx hb dL_law_820 rfl (lv_at hl 0 rfl) ?_
  refine lv_iconst (v := 1) hx hb dL_law_821 (by decide) ?_
  refine lv_iadd hx hb dL_law_822 ?_
  refine va_sld hx hb hX hbl hbA hS (lw_ix hi0 hi hL (by decide)) dL_law_823 ?_
  refine lv_topi (fun v_1 ev_1 => ?_)
  obtain ⟨sl, ke_f, s_fm, s_fl, s_fw, m_isKept, m_many, m_width, hXE, hMI, hRR, hSZ, hsl, hce, hso⟩ := hI
  have cont : ∀ (r : Int32) (H : Heap) (locs : List Loc) (cells slots sl : Nat) (ke_1 fm_1 fl_1 fw_1 : Nat → Int32), (True) → (ke_1 = ke_f ∧ fm_1 = s_fm ∧ fl_1 = s_fl ∧ fw_1 = s_fw) → XE dC dI cyI cyB cyJ cyZ cyH cyN cyM tg x0 sl ke_1 fm_1 fl_1 fw_1 H → MI dC dI cyI cyB cyJ cyZ cyH cyN cyM tg m0 m_isKept m_many m_width H → SZ ≤ H.size → (sl = 0 ∨ sl = 1) → cells ≤ 110 + 16 * sl → slots ≤ 15598 + 40501 * sl → va_S (fun q : Nat => s.heap.size ≤ q) s.heap H locs → W p l e room_1 s m #[Value.ref b] below meth c H locs cells slots (lw_Z below #[Value.ref b] s) (F0 m 827 ls [.int r]) := by
    intro r H locs cells slots sl ke_1 fm_1 fl_1 fw_1 hw1 hrel hXE hMI hSZ hsl hce hso hS
    refine lv_pop hx hb dL_law_827 rfl ?_
    refine lv_aload_n hx hb dL_law_828 rfl (lv_at hl 1 rfl) ?_
    refine lv_aload_n hx hb dL_law_829 rfl (lv_at hl 3 rfl) ?_
    refine lv_iload_n hx hb dL_law_830 rfl (lv_at hl 0 rfl) ?_
    refine lv_iconst (v := 1) hx hb dL_law_831 (by decide) ?_
    refine lv_iadd hx hb dL_law_832 ?_
    refine va_sld hx hb hX hbl hbA hS (lw_ix hi0 hi hL (by decide)) dL_law_833 ?_
    refine lv_topi (fun v_101 ev_101 => ?_)
    refine va_calli (va_runV (As := [.int v_101]) (rest := []) ⟨hx, hb, hml, hown, hts⟩ (wm_ring l dC dI cyI cyB cyJ cyZ cyH cyN cyM tg H.size m0 m_isKept m_many m_width v_101) (cwV 1 hts (gdV wd_7_207 wd_7_208 wd_7_209 wd_1_11 wd_7_210) rfl rfl rfl (by decide +kernel) ⟨Nat.le_of_ble_eq_true rfl, Nat.le_of_ble_eq_true rfl⟩) (mp_pre hFIX hMI) rfl rfl hl.1 rfl (lv_room (Nat.le_of_ble_eq_true rfl)) dL_law_834 ⟨show cells + 0 ≤ 600000 by omega, show slots + 0 ≤ 7302250 by omega⟩) hS (fun q _ h => am_old hFIX hS q h) (am_old hFIX hS) (fun r2 u t H1 locs1 ht hvm hw hB hz1 hk1 hS1 => ?_)
    replace hB : MI dC dI cyI cyB cyJ cyZ cyH cyN cyM tg m0 m_isKept m_many m_width t.heap := hB
    rw [ht] at hB
    have hXE2 := hXE.go (fun q h1 h2 => hk1 q h1 (am_not h1 h2))
    have hRR2 : RR ke_1 fm_1 fl_1 fw_1 m_isKept m_many m_width := by
      rw [hrel.1, hrel.2.1, hrel.2.2.1, hrel.2.2.2]
      exact hRR
    refine lv_pop hx hb dL_law_837 rfl ?_
    refine lv_goto (tgt := 1930) hx hb dL_law_838 (by decide) ?_
    exact kk _ _ _ _ ⟨sl, ke_1, fm_1, fl_1, fw_1, m_isKept, m_many, m_width, hXE2, hB, hRR2, Nat.le_trans hSZ hz1, hsl, hce, hso⟩ hS1
  refine va_calli (va_runV (As := [.int v_1]) (rest := []) ⟨hx, hb, hml, hown, hts⟩ (wx_ring l dC dI cyI cyB cyJ cyZ cyH cyN cyM tR tF aK aV tg H.size x0 sl ke_f s_fm s_fl s_fw v_1) (cwV 1 hts (gdV wd_3_231 wd_3_232 wd_3_233 wd_1_1 wd_3_234) rfl rfl rfl (by decide +kernel) ⟨Nat.le_of_ble_eq_true rfl, Nat.le_of_ble_eq_true rfl⟩) (xp_pre hFIX hS hXE) rfl rfl hl.1 rfl (lv_room (Nat.le_of_ble_eq_true rfl)) dL_law_824 ⟨show cells + 0 ≤ 600000 by omega, show slots + 0 ≤ 7302250 by omega⟩) hS (fun q _ h => ax_old hFIX hS q h) (ax_old hFIX hS) (fun r1 u t H1 locs1 ht hvm hw hB hz1 hk1 hS1 => ?_)
  replace hB : XE dC dI cyI cyB cyJ cyZ cyH cyN cyM tg x0 sl ke_f s_fm s_fl s_fw t.heap := hB
  rw [ht] at hB
  exact cont r1 H1 locs1 _ _ sl ke_f s_fm s_fl s_fw trivial ⟨rfl, rfl, rfl, rfl⟩ hB (hMI.go (fun q h1 h2 => hk1 q h1 (ax_not h1 h2))) (Nat.le_trans hSZ hz1) hsl (by omega) (by omega) hS1
set_option maxHeartbeats 4000000 in
set_option maxRecDepth 100000 in
theorem law_c23 {p : Program} {l : Launch} {e : Env} {s : State} {m : MethodId} {below : List Frame} {meth : Method} {c : Code} {b L : Nat} {xs : Nat → Int32} (hL : L ≤ 3072) (C0 : lw_At p s m meth c b L xs) {dC : Nat → ClassId} {dI : Nat → Nat → Nat} {cyI cyB cyJ cyZ cyH cyN cyM : ClassId} {tR tF : Nat} {aK aV : Nat → Nat} {tg : Nat → Nat} {SZ x0 m0 : Nat} (hFIX : FIX dC dI cyI cyB cyJ cyZ cyH cyN cyM tR tF aK aV tg SZ s) {i : Int32} (hi0 : 0 ≤ i.toInt) (hi : i.toInt + 6 ≤ (L : Int)) {ls : Array Slot} (hl : lv_has ls 4 [(3, .int i), (2, .ref m0), (1, .ref x0), (0, .ref b)]) (kk : ∀ (H : Heap) (locs : List Loc) (cells slots : Nat), INV dC dI cyI cyB cyJ cyZ cyH cyN cyM tg SZ x0 m0 H cells slots → va_S (fun q : Nat => s.heap.size ≤ q) s.heap H locs → W p l e room_1 s m #[Value.ref b] below meth c H locs cells slots (lw_Z below #[Value.ref b] s) (F0 m 1930 ls [])) {H : Heap} {locs : List Loc} {cells slots : Nat} (hI : INV dC dI cyI cyB cyJ cyZ cyH cyN cyM tg SZ x0 m0 H cells slots) (hS : va_S (fun q : Nat => s.heap.size ≤ q) s.heap H locs) : W p l e room_1 s m #[Value.ref b] below meth c H locs cells slots (lw_Z below #[Value.ref b] s) (F0 m 841 ls []) := by
  obtain ⟨hx, hb, hr, hml, hown, hts0, hX, hbl, hlocks, hgv⟩ := id C0
  have hts : ∀ w ∈ uU, w.before #[Value.ref b] s = true := fun w h => hts0 w (uU_in h)
  have hbA : ¬ (fun q : Nat => s.heap.size ≤ q) b := Nat.not_le.mpr hbl
  refine lv_aload_n hx hb dL_law_841 rfl (lv_at hl 2 rfl) ?_
  refine lv_aload_n hx hb dL_law_842 rfl (lv_at hl 3 rfl) ?_
  refine lv_iload_n hx hb dL_law_843 rfl (lv_at hl 0 rfl) ?_
  refine lv_iconst (v := 1) hx hb dL_law_844 (by decide) ?_
  refine lv_iadd hx hb dL_law_845 ?_
  refine va_sld hx hb hX hbl hbA hS (lw_ix hi0 hi hL (by decide)) dL_law_846 ?_
  refine lv_topi (fun v_1 ev_1 => ?_)
  obtain ⟨sl, ke_f, s_fm, s_fl, s_fw, m_isKept, m_many, m_width, hXE, hMI, hRR, hSZ, hsl, hce, hso⟩ := hI
  have cont : ∀ (r : Int32) (H : Heap) (locs : List Loc) (cells slots sl : Nat) (ke_1 fm_1 fl_1 fw_1 : Nat → Int32), (True) → (ke_1 = ke_f ∧ fm_1 = s_fm ∧ fl_1 = s_fl ∧ fw_1 = s_fw) → XE dC dI cyI cyB cyJ cyZ cyH cyN cyM tg x0 sl ke_1 fm_1 fl_1 fw_1 H → MI dC dI cyI cyB cyJ cyZ cyH cyN cyM tg m0 m_isKept m_many m_width H → SZ ≤ H.size → (sl = 0 ∨ sl = 1) → cells ≤ 110 + 16 * sl → slots ≤ 15598 + 40501 * sl → va_S (fun q : Nat => s.heap.size ≤ q) s.heap H locs → W p l e room_1 s m #[Value.ref b] below meth c H locs cells slots (lw_Z below #[Value.ref b] s) (F0 m 850 ls [.int r]) := by
    intro r H locs cells slots sl ke_1 fm_1 fl_1 fw_1 hw1 hrel hXE hMI hSZ hsl hce hso hS
    refine lv_pop hx hb dL_law_850 rfl ?_
    refine lv_aload_n hx hb dL_law_851 rfl (lv_at hl 1 rfl) ?_
    refine lv_aload_n hx hb dL_law_852 rfl (lv_at hl 3 rfl) ?_
    refine lv_iload_n hx hb dL_law_853 rfl (lv_at hl 0 rfl) ?_
    refine lv_iconst (v := 1) hx hb dL_law_854 (by decide) ?_
    refine lv_iadd hx hb dL_law_855 ?_
    refine va_sld hx hb hX hbl hbA hS (lw_ix hi0 hi hL (by decide)) dL_law_856 ?_
    refine lv_topi (fun v_101 ev_101 => ?_)
    refine va_calli (va_runV (As := [.int v_101]) (rest := []) ⟨hx, hb, hml, hown, hts⟩ (wm_away l dC dI cyI cyB cyJ cyZ cyH cyN cyM tg H.size m0 m_isKept m_many m_width v_101) (cwV 1 hts (gdV wd_7_211 wd_7_212 wd_7_213 wd_1_11 wd_7_214) rfl rfl rfl (by decide +kernel) ⟨Nat.le_of_ble_eq_true rfl, Nat.le_of_ble_eq_true rfl⟩) (mp_pre hFIX hMI) rfl rfl hl.1 rfl (lv_room (Nat.le_of_ble_eq_true rfl)) dL_law_857 ⟨show cells + 0 ≤ 600000 by omega, show slots + 0 ≤ 7302250 by omega⟩) hS (fun q _ h => am_old hFIX hS q h) (am_old hFIX hS) (fun r2 u t H1 locs1 ht hvm hw hB hz1 hk1 hS1 => ?_)
    replace hB : MI dC dI cyI cyB cyJ cyZ cyH cyN cyM tg m0 m_isKept m_many m_width t.heap := hB
    rw [ht] at hB
    have hXE2 := hXE.go (fun q h1 h2 => hk1 q h1 (am_not h1 h2))
    have hRR2 : RR ke_1 fm_1 fl_1 fw_1 m_isKept m_many m_width := by
      rw [hrel.1, hrel.2.1, hrel.2.2.1, hrel.2.2.2]
      exact hRR
    refine lv_pop hx hb dL_law_860 rfl ?_
    refine lv_goto (tgt := 1930) hx hb dL_law_861 (by decide) ?_
    exact kk _ _ _ _ ⟨sl, ke_1, fm_1, fl_1, fw_1, m_isKept, m_many, m_width, hXE2, hB, hRR2, Nat.le_trans hSZ hz1, hsl, hce, hso⟩ hS1
  refine va_calli (va_runV (As := [.int v_1]) (rest := []) ⟨hx, hb, hml, hown, hts⟩ (wx_away l dC dI cyI cyB cyJ cyZ cyH cyN cyM tR tF aK aV tg H.size x0 sl ke_f s_fm s_fl s_fw v_1) (cwV 1 hts (gdV wd_3_235 wd_3_236 wd_3_237 wd_1_1 wd_3_238) rfl rfl rfl (by decide +kernel) ⟨Nat.le_of_ble_eq_true rfl, Nat.le_of_ble_eq_true rfl⟩) (xp_pre hFIX hS hXE) rfl rfl hl.1 rfl (lv_room (Nat.le_of_ble_eq_true rfl)) dL_law_847 ⟨show cells + 0 ≤ 600000 by omega, show slots + 0 ≤ 7302250 by omega⟩) hS (fun q _ h => ax_old hFIX hS q h) (ax_old hFIX hS) (fun r1 u t H1 locs1 ht hvm hw hB hz1 hk1 hS1 => ?_)
  replace hB : XE dC dI cyI cyB cyJ cyZ cyH cyN cyM tg x0 sl ke_f s_fm s_fl s_fw t.heap := hB
  rw [ht] at hB
  exact cont r1 H1 locs1 _ _ sl ke_f s_fm s_fl s_fw trivial ⟨rfl, rfl, rfl, rfl⟩ hB (hMI.go (fun q h1 h2 => hk1 q h1 (ax_not h1 h2))) (Nat.le_trans hSZ hz1) hsl (by omega) (by omega) hS1
set_option maxHeartbeats 4000000 in
set_option maxRecDepth 100000 in
theorem law_c24 {p : Program} {l : Launch} {e : Env} {s : State} {m : MethodId} {below : List Frame} {meth : Method} {c : Code} {b L : Nat} {xs : Nat → Int32} (hL : L ≤ 3072) (C0 : lw_At p s m meth c b L xs) {dC : Nat → ClassId} {dI : Nat → Nat → Nat} {cyI cyB cyJ cyZ cyH cyN cyM : ClassId} {tR tF : Nat} {aK aV : Nat → Nat} {tg : Nat → Nat} {SZ x0 m0 : Nat} (hFIX : FIX dC dI cyI cyB cyJ cyZ cyH cyN cyM tR tF aK aV tg SZ s) {i : Int32} (hi0 : 0 ≤ i.toInt) (hi : i.toInt + 6 ≤ (L : Int)) {ls : Array Slot} (hl : lv_has ls 4 [(3, .int i), (2, .ref m0), (1, .ref x0), (0, .ref b)]) (kk : ∀ (H : Heap) (locs : List Loc) (cells slots : Nat), INV dC dI cyI cyB cyJ cyZ cyH cyN cyM tg SZ x0 m0 H cells slots → va_S (fun q : Nat => s.heap.size ≤ q) s.heap H locs → W p l e room_1 s m #[Value.ref b] below meth c H locs cells slots (lw_Z below #[Value.ref b] s) (F0 m 1930 ls [])) {H : Heap} {locs : List Loc} {cells slots : Nat} (hI : INV dC dI cyI cyB cyJ cyZ cyH cyN cyM tg SZ x0 m0 H cells slots) (hS : va_S (fun q : Nat => s.heap.size ≤ q) s.heap H locs) : W p l e room_1 s m #[Value.ref b] below meth c H locs cells slots (lw_Z below #[Value.ref b] s) (F0 m 864 ls []) := by
  obtain ⟨hx, hb, hr, hml, hown, hts0, hX, hbl, hlocks, hgv⟩ := id C0
  have hts : ∀ w ∈ uU, w.before #[Value.ref b] s = true := fun w h => hts0 w (uU_in h)
  have hbA : ¬ (fun q : Nat => s.heap.size ≤ q) b := Nat.not_le.mpr hbl
  refine lv_aload_n hx hb dL_law_864 rfl (lv_at hl 2 rfl) ?_
  obtain ⟨sl, ke_f, s_fm, s_fl, s_fw, m_isKept, m_many, m_width, hXE, hMI, hRR, hSZ, hsl, hce, hso⟩ := hI
  have cont : ∀ (r : Int32) (H : Heap) (locs : List Loc) (cells slots sl : Nat) (ke_1 fm_1 fl_1 fw_1 : Nat → Int32), (True) → (ke_1 = ke_f ∧ fm_1 = s_fm ∧ fl_1 = s_fl ∧ fw_1 = s_fw) → XE dC dI cyI cyB cyJ cyZ cyH cyN cyM tg x0 sl ke_1 fm_1 fl_1 fw_1 H → MI dC dI cyI cyB cyJ cyZ cyH cyN cyM tg m0 m_isKept m_many m_width H → SZ ≤ H.size → (sl = 0 ∨ sl = 1) → cells ≤ 110 + 16 * sl → slots ≤ 15598 + 40501 * sl → va_S (fun q : Nat => s.heap.size ≤ q) s.heap H locs → W p l e room_1 s m #[Value.ref b] below meth c H locs cells slots (lw_Z below #[Value.ref b] s) (F0 m 868 ls [.int r]) := by
    intro r H locs cells slots sl ke_1 fm_1 fl_1 fw_1 hw1 hrel hXE hMI hSZ hsl hce hso hS
    refine lv_pop hx hb dL_law_868 rfl ?_
    refine lv_aload_n hx hb dL_law_869 rfl (lv_at hl 1 rfl) ?_
    refine va_calli (va_runV (As := []) (rest := []) ⟨hx, hb, hml, hown, hts⟩ (wm_lost l dC dI cyI cyB cyJ cyZ cyH cyN cyM tg H.size m0 m_isKept m_many m_width ) (cwV 0 hts (gdV wd_7_219 wd_7_220 wd_7_221 wd_1_11 wd_7_222) rfl rfl rfl (by decide +kernel) ⟨Nat.le_of_ble_eq_true rfl, Nat.le_of_ble_eq_true rfl⟩) (mp_pre hFIX hMI) rfl rfl hl.1 rfl (lv_room (Nat.le_of_ble_eq_true rfl)) dL_law_870 ⟨show cells + 0 ≤ 600000 by omega, show slots + 0 ≤ 7302250 by omega⟩) hS (fun q _ h => am_old hFIX hS q h) (am_old hFIX hS) (fun r2 u t H1 locs1 ht hvm hw hB hz1 hk1 hS1 => ?_)
    replace hB : MI dC dI cyI cyB cyJ cyZ cyH cyN cyM tg m0 m_isKept m_many m_width t.heap := hB
    rw [ht] at hB
    have hXE2 := hXE.go (fun q h1 h2 => hk1 q h1 (am_not h1 h2))
    have hRR2 : RR ke_1 fm_1 fl_1 fw_1 m_isKept m_many m_width := by
      rw [hrel.1, hrel.2.1, hrel.2.2.1, hrel.2.2.2]
      exact hRR
    refine lv_pop hx hb dL_law_873 rfl ?_
    refine lv_goto (tgt := 1930) hx hb dL_law_874 (by decide) ?_
    exact kk _ _ _ _ ⟨sl, ke_1, fm_1, fl_1, fw_1, m_isKept, m_many, m_width, hXE2, hB, hRR2, Nat.le_trans hSZ hz1, hsl, hce, hso⟩ hS1
  refine va_calli (va_runV (As := []) (rest := []) ⟨hx, hb, hml, hown, hts⟩ (wx_lost l dC dI cyI cyB cyJ cyZ cyH cyN cyM tR tF aK aV tg H.size x0 sl ke_f s_fm s_fl s_fw ) (cwV 0 hts (gdV wd_4_0 wd_4_1 wd_4_2 wd_1_1 wd_4_3) rfl rfl rfl (by decide +kernel) ⟨Nat.le_of_ble_eq_true rfl, Nat.le_of_ble_eq_true rfl⟩) (xp_pre hFIX hS hXE) rfl rfl hl.1 rfl (lv_room (Nat.le_of_ble_eq_true rfl)) dL_law_865 ⟨show cells + 0 ≤ 600000 by omega, show slots + 0 ≤ 7302250 by omega⟩) hS (fun q _ h => ax_old hFIX hS q h) (ax_old hFIX hS) (fun r1 u t H1 locs1 ht hvm hw hB hz1 hk1 hS1 => ?_)
  replace hB : XE dC dI cyI cyB cyJ cyZ cyH cyN cyM tg x0 sl ke_f s_fm s_fl s_fw t.heap := hB
  rw [ht] at hB
  exact cont r1 H1 locs1 _ _ sl ke_f s_fm s_fl s_fw trivial ⟨rfl, rfl, rfl, rfl⟩ hB (hMI.go (fun q h1 h2 => hk1 q h1 (ax_not h1 h2))) (Nat.le_trans hSZ hz1) hsl (by omega) (by omega) hS1
set_option maxHeartbeats 4000000 in
set_option maxRecDepth 100000 in
theorem law_c25 {p : Program} {l : Launch} {e : Env} {s : State} {m : MethodId} {below : List Frame} {meth : Method} {c : Code} {b L : Nat} {xs : Nat → Int32} (hL : L ≤ 3072) (C0 : lw_At p s m meth c b L xs) {dC : Nat → ClassId} {dI : Nat → Nat → Nat} {cyI cyB cyJ cyZ cyH cyN cyM : ClassId} {tR tF : Nat} {aK aV : Nat → Nat} {tg : Nat → Nat} {SZ x0 m0 : Nat} (hFIX : FIX dC dI cyI cyB cyJ cyZ cyH cyN cyM tR tF aK aV tg SZ s) {i : Int32} (hi0 : 0 ≤ i.toInt) (hi : i.toInt + 6 ≤ (L : Int)) {ls : Array Slot} (hl : lv_has ls 4 [(3, .int i), (2, .ref m0), (1, .ref x0), (0, .ref b)]) (kk : ∀ (H : Heap) (locs : List Loc) (cells slots : Nat), INV dC dI cyI cyB cyJ cyZ cyH cyN cyM tg SZ x0 m0 H cells slots → va_S (fun q : Nat => s.heap.size ≤ q) s.heap H locs → W p l e room_1 s m #[Value.ref b] below meth c H locs cells slots (lw_Z below #[Value.ref b] s) (F0 m 1930 ls [])) {H : Heap} {locs : List Loc} {cells slots : Nat} (hI : INV dC dI cyI cyB cyJ cyZ cyH cyN cyM tg SZ x0 m0 H cells slots) (hS : va_S (fun q : Nat => s.heap.size ≤ q) s.heap H locs) : W p l e room_1 s m #[Value.ref b] below meth c H locs cells slots (lw_Z below #[Value.ref b] s) (F0 m 877 ls []) := by
  obtain ⟨hx, hb, hr, hml, hown, hts0, hX, hbl, hlocks, hgv⟩ := id C0
  have hts : ∀ w ∈ uU, w.before #[Value.ref b] s = true := fun w h => hts0 w (uU_in h)
  have hbA : ¬ (fun q : Nat => s.heap.size ≤ q) b := Nat.not_le.mpr hbl
  refine lv_aload_n hx hb dL_law_877 rfl (lv_at hl 2 rfl) ?_
  refine lv_aload_n hx hb dL_law_878 rfl (lv_at hl 3 rfl) ?_
  refine lv_iload_n hx hb dL_law_879 rfl (lv_at hl 0 rfl) ?_
  refine lv_iconst (v := 1) hx hb dL_law_880 (by decide) ?_
  refine lv_iadd hx hb dL_law_881 ?_
  refine va_sld hx hb hX hbl hbA hS (lw_ix hi0 hi hL (by decide)) dL_law_882 ?_
  refine lv_topi (fun v_1 ev_1 => ?_)
  obtain ⟨sl, ke_f, s_fm, s_fl, s_fw, m_isKept, m_many, m_width, hXE, hMI, hRR, hSZ, hsl, hce, hso⟩ := hI
  have cont : ∀ (r : Int32) (H : Heap) (locs : List Loc) (cells slots sl : Nat) (ke_1 fm_1 fl_1 fw_1 : Nat → Int32), (True) → (ke_1 = ke_f ∧ fm_1 = s_fm ∧ fl_1 = s_fl ∧ fw_1 = s_fw) → XE dC dI cyI cyB cyJ cyZ cyH cyN cyM tg x0 sl ke_1 fm_1 fl_1 fw_1 H → MI dC dI cyI cyB cyJ cyZ cyH cyN cyM tg m0 m_isKept m_many m_width H → SZ ≤ H.size → (sl = 0 ∨ sl = 1) → cells ≤ 110 + 16 * sl → slots ≤ 15598 + 40501 * sl → va_S (fun q : Nat => s.heap.size ≤ q) s.heap H locs → W p l e room_1 s m #[Value.ref b] below meth c H locs cells slots (lw_Z below #[Value.ref b] s) (F0 m 886 ls [.int r]) := by
    intro r H locs cells slots sl ke_1 fm_1 fl_1 fw_1 hw1 hrel hXE hMI hSZ hsl hce hso hS
    refine lv_pop hx hb dL_law_886 rfl ?_
    refine lv_aload_n hx hb dL_law_887 rfl (lv_at hl 1 rfl) ?_
    refine lv_aload_n hx hb dL_law_888 rfl (lv_at hl 3 rfl) ?_
    refine lv_iload_n hx hb dL_law_889 rfl (lv_at hl 0 rfl) ?_
    refine lv_iconst (v := 1) hx hb dL_law_890 (by decide) ?_
    refine lv_iadd hx hb dL_law_891 ?_
    refine va_sld hx hb hX hbl hbA hS (lw_ix hi0 hi hL (by decide)) dL_law_892 ?_
    refine lv_topi (fun v_101 ev_101 => ?_)
    refine va_calli (va_runV (As := [.int v_101]) (rest := []) ⟨hx, hb, hml, hown, hts⟩ (wm_beside l dC dI cyI cyB cyJ cyZ cyH cyN cyM tg H.size m0 m_isKept m_many m_width v_101) (cwV 1 hts (gdV wd_7_223 wd_7_224 wd_7_225 wd_1_11 wd_7_226) rfl rfl rfl (by decide +kernel) ⟨Nat.le_of_ble_eq_true rfl, Nat.le_of_ble_eq_true rfl⟩) (mp_pre hFIX hMI) rfl rfl hl.1 rfl (lv_room (Nat.le_of_ble_eq_true rfl)) dL_law_893 ⟨show cells + 0 ≤ 600000 by omega, show slots + 0 ≤ 7302250 by omega⟩) hS (fun q _ h => am_old hFIX hS q h) (am_old hFIX hS) (fun r2 u t H1 locs1 ht hvm hw hB hz1 hk1 hS1 => ?_)
    replace hB : MI dC dI cyI cyB cyJ cyZ cyH cyN cyM tg m0 m_isKept m_many m_width t.heap := hB
    rw [ht] at hB
    have hXE2 := hXE.go (fun q h1 h2 => hk1 q h1 (am_not h1 h2))
    have hRR2 : RR ke_1 fm_1 fl_1 fw_1 m_isKept m_many m_width := by
      rw [hrel.1, hrel.2.1, hrel.2.2.1, hrel.2.2.2]
      exact hRR
    refine lv_pop hx hb dL_law_896 rfl ?_
    refine lv_goto (tgt := 1930) hx hb dL_law_897 (by decide) ?_
    exact kk _ _ _ _ ⟨sl, ke_1, fm_1, fl_1, fw_1, m_isKept, m_many, m_width, hXE2, hB, hRR2, Nat.le_trans hSZ hz1, hsl, hce, hso⟩ hS1
  refine va_calli (va_runV (As := [.int v_1]) (rest := []) ⟨hx, hb, hml, hown, hts⟩ (wx_beside l dC dI cyI cyB cyJ cyZ cyH cyN cyM tR tF aK aV tg H.size x0 sl ke_f s_fm s_fl s_fw v_1) (cwV 1 hts (gdV wd_4_4 wd_4_5 wd_4_6 wd_1_1 wd_4_7) rfl rfl rfl (by decide +kernel) ⟨Nat.le_of_ble_eq_true rfl, Nat.le_of_ble_eq_true rfl⟩) (xp_pre hFIX hS hXE) rfl rfl hl.1 rfl (lv_room (Nat.le_of_ble_eq_true rfl)) dL_law_883 ⟨show cells + 0 ≤ 600000 by omega, show slots + 0 ≤ 7302250 by omega⟩) hS (fun q _ h => ax_old hFIX hS q h) (ax_old hFIX hS) (fun r1 u t H1 locs1 ht hvm hw hB hz1 hk1 hS1 => ?_)
  replace hB : XE dC dI cyI cyB cyJ cyZ cyH cyN cyM tg x0 sl ke_f s_fm s_fl s_fw t.heap := hB
  rw [ht] at hB
  exact cont r1 H1 locs1 _ _ sl ke_f s_fm s_fl s_fw trivial ⟨rfl, rfl, rfl, rfl⟩ hB (hMI.go (fun q h1 h2 => hk1 q h1 (ax_not h1 h2))) (Nat.le_trans hSZ hz1) hsl (by omega) (by omega) hS1
set_option maxHeartbeats 4000000 in
set_option maxRecDepth 100000 in
theorem law_c26 {p : Program} {l : Launch} {e : Env} {s : State} {m : MethodId} {below : List Frame} {meth : Method} {c : Code} {b L : Nat} {xs : Nat → Int32} (hL : L ≤ 3072) (C0 : lw_At p s m meth c b L xs) {dC : Nat → ClassId} {dI : Nat → Nat → Nat} {cyI cyB cyJ cyZ cyH cyN cyM : ClassId} {tR tF : Nat} {aK aV : Nat → Nat} {tg : Nat → Nat} {SZ x0 m0 : Nat} (hFIX : FIX dC dI cyI cyB cyJ cyZ cyH cyN cyM tR tF aK aV tg SZ s) {i : Int32} (hi0 : 0 ≤ i.toInt) (hi : i.toInt + 6 ≤ (L : Int)) {ls : Array Slot} (hl : lv_has ls 4 [(3, .int i), (2, .ref m0), (1, .ref x0), (0, .ref b)]) (kk : ∀ (H : Heap) (locs : List Loc) (cells slots : Nat), INV dC dI cyI cyB cyJ cyZ cyH cyN cyM tg SZ x0 m0 H cells slots → va_S (fun q : Nat => s.heap.size ≤ q) s.heap H locs → W p l e room_1 s m #[Value.ref b] below meth c H locs cells slots (lw_Z below #[Value.ref b] s) (F0 m 1930 ls [])) {H : Heap} {locs : List Loc} {cells slots : Nat} (hI : INV dC dI cyI cyB cyJ cyZ cyH cyN cyM tg SZ x0 m0 H cells slots) (hS : va_S (fun q : Nat => s.heap.size ≤ q) s.heap H locs) : W p l e room_1 s m #[Value.ref b] below meth c H locs cells slots (lw_Z below #[Value.ref b] s) (F0 m 900 ls []) := by
  obtain ⟨hx, hb, hr, hml, hown, hts0, hX, hbl, hlocks, hgv⟩ := id C0
  have hts : ∀ w ∈ uU, w.before #[Value.ref b] s = true := fun w h => hts0 w (uU_in h)
  have hbA : ¬ (fun q : Nat => s.heap.size ≤ q) b := Nat.not_le.mpr hbl
  refine lv_aload_n hx hb dL_law_900 rfl (lv_at hl 2 rfl) ?_
  obtain ⟨sl, ke_f, s_fm, s_fl, s_fw, m_isKept, m_many, m_width, hXE, hMI, hRR, hSZ, hsl, hce, hso⟩ := hI
  have cont : ∀ (r : Int32) (H : Heap) (locs : List Loc) (cells slots sl : Nat) (ke_1 fm_1 fl_1 fw_1 : Nat → Int32), (True) → (ke_1 = ke_f ∧ fm_1 = s_fm ∧ fl_1 = s_fl ∧ fw_1 = s_fw) → XE dC dI cyI cyB cyJ cyZ cyH cyN cyM tg x0 sl ke_1 fm_1 fl_1 fw_1 H → MI dC dI cyI cyB cyJ cyZ cyH cyN cyM tg m0 m_isKept m_many m_width H → SZ ≤ H.size → (sl = 0 ∨ sl = 1) → cells ≤ 110 + 16 * sl → slots ≤ 15598 + 40501 * sl → va_S (fun q : Nat => s.heap.size ≤ q) s.heap H locs → W p l e room_1 s m #[Value.ref b] below meth c H locs cells slots (lw_Z below #[Value.ref b] s) (F0 m 904 ls [.int r]) := by
    intro r H locs cells slots sl ke_1 fm_1 fl_1 fw_1 hw1 hrel hXE hMI hSZ hsl hce hso hS
    refine lv_pop hx hb dL_law_904 rfl ?_
    refine lv_aload_n hx hb dL_law_905 rfl (lv_at hl 1 rfl) ?_
    refine va_calli (va_runV (As := []) (rest := []) ⟨hx, hb, hml, hown, hts⟩ (wm_quarrels l dC dI cyI cyB cyJ cyZ cyH cyN cyM tg H.size m0 m_isKept m_many m_width ) (cwV 0 hts (gdV wd_7_231 wd_7_232 wd_7_233 wd_1_11 wd_7_234) rfl rfl rfl (by decide +kernel) ⟨Nat.le_of_ble_eq_true rfl, Nat.le_of_ble_eq_true rfl⟩) (mp_pre hFIX hMI) rfl rfl hl.1 rfl (lv_room (Nat.le_of_ble_eq_true rfl)) dL_law_906 ⟨show cells + 0 ≤ 600000 by omega, show slots + 0 ≤ 7302250 by omega⟩) hS (fun q _ h => am_old hFIX hS q h) (am_old hFIX hS) (fun r2 u t H1 locs1 ht hvm hw hB hz1 hk1 hS1 => ?_)
    replace hB : MI dC dI cyI cyB cyJ cyZ cyH cyN cyM tg m0 m_isKept m_many m_width t.heap := hB
    rw [ht] at hB
    have hXE2 := hXE.go (fun q h1 h2 => hk1 q h1 (am_not h1 h2))
    have hRR2 : RR ke_1 fm_1 fl_1 fw_1 m_isKept m_many m_width := by
      rw [hrel.1, hrel.2.1, hrel.2.2.1, hrel.2.2.2]
      exact hRR
    refine lv_pop hx hb dL_law_909 rfl ?_
    refine lv_goto (tgt := 1930) hx hb dL_law_910 (by decide) ?_
    exact kk _ _ _ _ ⟨sl, ke_1, fm_1, fl_1, fw_1, m_isKept, m_many, m_width, hXE2, hB, hRR2, Nat.le_trans hSZ hz1, hsl, hce, hso⟩ hS1
  refine va_calli (va_runV (As := []) (rest := []) ⟨hx, hb, hml, hown, hts⟩ (wx_quarrels l dC dI cyI cyB cyJ cyZ cyH cyN cyM tR tF aK aV tg H.size x0 sl ke_f s_fm s_fl s_fw ) (cwV 0 hts (gdV wd_4_8 wd_4_9 wd_4_10 wd_1_1 wd_4_11) rfl rfl rfl (by decide +kernel) ⟨Nat.le_of_ble_eq_true rfl, Nat.le_of_ble_eq_true rfl⟩) (xp_pre hFIX hS hXE) rfl rfl hl.1 rfl (lv_room (Nat.le_of_ble_eq_true rfl)) dL_law_901 ⟨show cells + 0 ≤ 600000 by omega, show slots + 0 ≤ 7302250 by omega⟩) hS (fun q _ h => ax_old hFIX hS q h) (ax_old hFIX hS) (fun r1 u t H1 locs1 ht hvm hw hB hz1 hk1 hS1 => ?_)
  replace hB : XE dC dI cyI cyB cyJ cyZ cyH cyN cyM tg x0 sl ke_f s_fm s_fl s_fw t.heap := hB
  rw [ht] at hB
  exact cont r1 H1 locs1 _ _ sl ke_f s_fm s_fl s_fw trivial ⟨rfl, rfl, rfl, rfl⟩ hB (hMI.go (fun q h1 h2 => hk1 q h1 (ax_not h1 h2))) (Nat.le_trans hSZ hz1) hsl (by omega) (by omega) hS1
set_option maxHeartbeats 4000000 in
set_option maxRecDepth 100000 in
theorem law_c27 {p : Program} {l : Launch} {e : Env} {s : State} {m : MethodId} {below : List Frame} {meth : Method} {c : Code} {b L : Nat} {xs : Nat → Int32} (hL : L ≤ 3072) (C0 : lw_At p s m meth c b L xs) {dC : Nat → ClassId} {dI : Nat → Nat → Nat} {cyI cyB cyJ cyZ cyH cyN cyM : ClassId} {tR tF : Nat} {aK aV : Nat → Nat} {tg : Nat → Nat} {SZ x0 m0 : Nat} (hFIX : FIX dC dI cyI cyB cyJ cyZ cyH cyN cyM tR tF aK aV tg SZ s) {i : Int32} (hi0 : 0 ≤ i.toInt) (hi : i.toInt + 6 ≤ (L : Int)) {ls : Array Slot} (hl : lv_has ls 4 [(3, .int i), (2, .ref m0), (1, .ref x0), (0, .ref b)]) (kk : ∀ (H : Heap) (locs : List Loc) (cells slots : Nat), INV dC dI cyI cyB cyJ cyZ cyH cyN cyM tg SZ x0 m0 H cells slots → va_S (fun q : Nat => s.heap.size ≤ q) s.heap H locs → W p l e room_1 s m #[Value.ref b] below meth c H locs cells slots (lw_Z below #[Value.ref b] s) (F0 m 1930 ls [])) {H : Heap} {locs : List Loc} {cells slots : Nat} (hI : INV dC dI cyI cyB cyJ cyZ cyH cyN cyM tg SZ x0 m0 H cells slots) (hS : va_S (fun q : Nat => s.heap.size ≤ q) s.heap H locs) : W p l e room_1 s m #[Value.ref b] below meth c H locs cells slots (lw_Z below #[Value.ref b] s) (F0 m 913 ls []) := by
  obtain ⟨hx, hb, hr, hml, hown, hts0, hX, hbl, hlocks, hgv⟩ := id C0
  have hts : ∀ w ∈ uU, w.before #[Value.ref b] s = true := fun w h => hts0 w (uU_in h)
  have hbA : ¬ (fun q : Nat => s.heap.size ≤ q) b := Nat.not_le.mpr hbl
  refine lv_aload_n hx hb dL_law_913 rfl (lv_at hl 2 rfl) ?_
  refine lv_aload_n hx hb dL_law_914 rfl (lv_at hl 3 rfl) ?_
  refine lv_iload_n hx hb dL_law_915 rfl (lv_at hl 0 rfl) ?_
  refine lv_iconst (v := 1) hx hb dL_law_916 (by decide) ?_
  refine lv_iadd hx hb dL_law_917 ?_
  refine va_sld hx hb hX hbl hbA hS (lw_ix hi0 hi hL (by decide)) dL_law_918 ?_
  refine lv_topi (fun v_1 ev_1 => ?_)
  obtain ⟨sl, ke_f, s_fm, s_fl, s_fw, m_isKept, m_many, m_width, hXE, hMI, hRR, hSZ, hsl, hce, hso⟩ := hI
  have cont : ∀ (r : Int32) (H : Heap) (locs : List Loc) (cells slots sl : Nat) (ke_1 fm_1 fl_1 fw_1 : Nat → Int32), (True) → (ke_1 = ke_f ∧ fm_1 = s_fm ∧ fl_1 = s_fl ∧ fw_1 = s_fw) → XE dC dI cyI cyB cyJ cyZ cyH cyN cyM tg x0 sl ke_1 fm_1 fl_1 fw_1 H → MI dC dI cyI cyB cyJ cyZ cyH cyN cyM tg m0 m_isKept m_many m_width H → SZ ≤ H.size → (sl = 0 ∨ sl = 1) → cells ≤ 110 + 16 * sl → slots ≤ 15598 + 40501 * sl → va_S (fun q : Nat => s.heap.size ≤ q) s.heap H locs → W p l e room_1 s m #[Value.ref b] below meth c H locs cells slots (lw_Z below #[Value.ref b] s) (F0 m 922 ls [.int r]) := by
    intro r H locs cells slots sl ke_1 fm_1 fl_1 fw_1 hw1 hrel hXE hMI hSZ hsl hce hso hS
    refine lv_pop hx hb dL_law_922 rfl ?_
    refine lv_aload_n hx hb dL_law_923 rfl (lv_at hl 1 rfl) ?_
    refine lv_aload_n hx hb dL_law_924 rfl (lv_at hl 3 rfl) ?_
    refine lv_iload_n hx hb dL_law_925 rfl (lv_at hl 0 rfl) ?_
    refine lv_iconst (v := 1) hx hb dL_law_926 (by decide) ?_
    refine lv_iadd hx hb dL_law_927 ?_
    refine va_sld hx hb hX hbl hbA hS (lw_ix hi0 hi hL (by decide)) dL_law_928 ?_
    refine lv_topi (fun v_101 ev_101 => ?_)
    refine va_calli (va_runV (As := [.int v_101]) (rest := []) ⟨hx, hb, hml, hown, hts⟩ (wm_finest l dC dI cyI cyB cyJ cyZ cyH cyN cyM tg H.size m0 m_isKept m_many m_width v_101) (cwV 1 hts (gdV wd_7_235 wd_7_236 wd_7_237 wd_1_11 wd_7_238) rfl rfl rfl (by decide +kernel) ⟨Nat.le_of_ble_eq_true rfl, Nat.le_of_ble_eq_true rfl⟩) (mp_pre hFIX hMI) rfl rfl hl.1 rfl (lv_room (Nat.le_of_ble_eq_true rfl)) dL_law_929 ⟨show cells + 0 ≤ 600000 by omega, show slots + 0 ≤ 7302250 by omega⟩) hS (fun q _ h => am_old hFIX hS q h) (am_old hFIX hS) (fun r2 u t H1 locs1 ht hvm hw hB hz1 hk1 hS1 => ?_)
    replace hB : MI dC dI cyI cyB cyJ cyZ cyH cyN cyM tg m0 m_isKept m_many m_width t.heap := hB
    rw [ht] at hB
    have hXE2 := hXE.go (fun q h1 h2 => hk1 q h1 (am_not h1 h2))
    have hRR2 : RR ke_1 fm_1 fl_1 fw_1 m_isKept m_many m_width := by
      rw [hrel.1, hrel.2.1, hrel.2.2.1, hrel.2.2.2]
      exact hRR
    refine lv_pop hx hb dL_law_932 rfl ?_
    refine lv_goto (tgt := 1930) hx hb dL_law_933 (by decide) ?_
    exact kk _ _ _ _ ⟨sl, ke_1, fm_1, fl_1, fw_1, m_isKept, m_many, m_width, hXE2, hB, hRR2, Nat.le_trans hSZ hz1, hsl, hce, hso⟩ hS1
  refine va_calli (va_runV (As := [.int v_1]) (rest := []) ⟨hx, hb, hml, hown, hts⟩ (wx_finest l dC dI cyI cyB cyJ cyZ cyH cyN cyM tR tF aK aV tg H.size x0 sl ke_f s_fm s_fl s_fw v_1) (cwV 1 hts (gdV wd_4_16 wd_4_17 wd_4_18 wd_1_1 wd_4_19) rfl rfl rfl (by decide +kernel) ⟨Nat.le_of_ble_eq_true rfl, Nat.le_of_ble_eq_true rfl⟩) (xp_pre hFIX hS hXE) rfl rfl hl.1 rfl (lv_room (Nat.le_of_ble_eq_true rfl)) dL_law_919 ⟨show cells + 0 ≤ 600000 by omega, show slots + 0 ≤ 7302250 by omega⟩) hS (fun q _ h => ax_old hFIX hS q h) (ax_old hFIX hS) (fun r1 u t H1 locs1 ht hvm hw hB hz1 hk1 hS1 => ?_)
  replace hB : XE dC dI cyI cyB cyJ cyZ cyH cyN cyM tg x0 sl ke_f s_fm s_fl s_fw t.heap := hB
  rw [ht] at hB
  exact cont r1 H1 locs1 _ _ sl ke_f s_fm s_fl s_fw trivial ⟨rfl, rfl, rfl, rfl⟩ hB (hMI.go (fun q h1 h2 => hk1 q h1 (ax_not h1 h2))) (Nat.le_trans hSZ hz1) hsl (by omega) (by omega) hS1
set_option maxHeartbeats 4000000 in
set_option maxRecDepth 100000 in
theorem law_c28 {p : Program} {l : Launch} {e : Env} {s : State} {m : MethodId} {below : List Frame} {meth : Method} {c : Code} {b L : Nat} {xs : Nat → Int32} (hL : L ≤ 3072) (C0 : lw_At p s m meth c b L xs) {dC : Nat → ClassId} {dI : Nat → Nat → Nat} {cyI cyB cyJ cyZ cyH cyN cyM : ClassId} {tR tF : Nat} {aK aV : Nat → Nat} {tg : Nat → Nat} {SZ x0 m0 : Nat} (hFIX : FIX dC dI cyI cyB cyJ cyZ cyH cyN cyM tR tF aK aV tg SZ s) {i : Int32} (hi0 : 0 ≤ i.toInt) (hi : i.toInt + 6 ≤ (L : Int)) {ls : Array Slot} (hl : lv_has ls 4 [(3, .int i), (2, .ref m0), (1, .ref x0), (0, .ref b)]) (kk : ∀ (H : Heap) (locs : List Loc) (cells slots : Nat), INV dC dI cyI cyB cyJ cyZ cyH cyN cyM tg SZ x0 m0 H cells slots → va_S (fun q : Nat => s.heap.size ≤ q) s.heap H locs → W p l e room_1 s m #[Value.ref b] below meth c H locs cells slots (lw_Z below #[Value.ref b] s) (F0 m 1930 ls [])) {H : Heap} {locs : List Loc} {cells slots : Nat} (hI : INV dC dI cyI cyB cyJ cyZ cyH cyN cyM tg SZ x0 m0 H cells slots) (hS : va_S (fun q : Nat => s.heap.size ≤ q) s.heap H locs) : W p l e room_1 s m #[Value.ref b] below meth c H locs cells slots (lw_Z below #[Value.ref b] s) (F0 m 936 ls []) := by
  obtain ⟨hx, hb, hr, hml, hown, hts0, hX, hbl, hlocks, hgv⟩ := id C0
  have hts : ∀ w ∈ uU, w.before #[Value.ref b] s = true := fun w h => hts0 w (uU_in h)
  have hbA : ¬ (fun q : Nat => s.heap.size ≤ q) b := Nat.not_le.mpr hbl
  refine lv_aload_n hx hb dL_law_936 rfl (lv_at hl 2 rfl) ?_
  refine lv_aload_n hx hb dL_law_937 rfl (lv_at hl 3 rfl) ?_
  refine lv_iload_n hx hb dL_law_938 rfl (lv_at hl 0 rfl) ?_
  refine lv_iconst (v := 1) hx hb dL_law_939 (by decide) ?_
  refine lv_iadd hx hb dL_law_940 ?_
  refine va_sld hx hb hX hbl hbA hS (lw_ix hi0 hi hL (by decide)) dL_law_941 ?_
  refine lv_topi (fun v_1 ev_1 => ?_)
  refine lv_aload_n hx hb dL_law_942 rfl (lv_at hl 3 rfl) ?_
  refine lv_iload_n hx hb dL_law_943 rfl (lv_at hl 0 rfl) ?_
  refine lv_iconst (v := 2) hx hb dL_law_944 (by decide) ?_
  refine lv_iadd hx hb dL_law_945 ?_
  refine va_sld hx hb hX hbl hbA hS (lw_ix hi0 hi hL (by decide)) dL_law_946 ?_
  refine lv_topi (fun v_2 ev_2 => ?_)
  obtain ⟨sl, ke_f, s_fm, s_fl, s_fw, m_isKept, m_many, m_width, hXE, hMI, hRR, hSZ, hsl, hce, hso⟩ := hI
  have cont : ∀ (r : Int32) (H : Heap) (locs : List Loc) (cells slots sl : Nat) (ke_1 fm_1 fl_1 fw_1 : Nat → Int32), (True) → (ke_1 = ke_f ∧ fm_1 = s_fm ∧ fl_1 = s_fl ∧ fw_1 = s_fw) → XE dC dI cyI cyB cyJ cyZ cyH cyN cyM tg x0 sl ke_1 fm_1 fl_1 fw_1 H → MI dC dI cyI cyB cyJ cyZ cyH cyN cyM tg m0 m_isKept m_many m_width H → SZ ≤ H.size → (sl = 0 ∨ sl = 1) → cells ≤ 110 + 16 * sl → slots ≤ 15598 + 40501 * sl → va_S (fun q : Nat => s.heap.size ≤ q) s.heap H locs → W p l e room_1 s m #[Value.ref b] below meth c H locs cells slots (lw_Z below #[Value.ref b] s) (F0 m 950 ls [.int r]) := by
    intro r H locs cells slots sl ke_1 fm_1 fl_1 fw_1 hw1 hrel hXE hMI hSZ hsl hce hso hS
    refine lv_pop hx hb dL_law_950 rfl ?_
    refine lv_aload_n hx hb dL_law_951 rfl (lv_at hl 1 rfl) ?_
    refine lv_aload_n hx hb dL_law_952 rfl (lv_at hl 3 rfl) ?_
    refine lv_iload_n hx hb dL_law_953 rfl (lv_at hl 0 rfl) ?_
    refine lv_iconst (v := 1) hx hb dL_law_954 (by decide) ?_
    refine lv_iadd hx hb dL_law_955 ?_
    refine va_sld hx hb hX hbl hbA hS (lw_ix hi0 hi hL (by decide)) dL_law_956 ?_
    refine lv_topi (fun v_101 ev_101 => ?_)
    refine lv_aload_n hx hb dL_law_957 rfl (lv_at hl 3 rfl) ?_
    refine lv_iload_n hx hb dL_law_958 rfl (lv_at hl 0 rfl) ?_
    refine lv_iconst (v := 2) hx hb dL_law_959 (by decide) ?_
    refine lv_iadd hx hb dL_law_960 ?_
    refine va_sld hx hb hX hbl hbA hS (lw_ix hi0 hi hL (by decide)) dL_law_961 ?_
    refine lv_topi (fun v_102 ev_102 => ?_)
    refine va_calli (va_runV (As := [.int v_101, .int v_102]) (rest := []) ⟨hx, hb, hml, hown, hts⟩ (wm_spells l dC dI cyI cyB cyJ cyZ cyH cyN cyM tg H.size m0 m_isKept m_many m_width v_101 v_102) (cwV 2 hts (gdV wd_8_0 wd_8_1 wd_8_2 wd_1_11 wd_8_3) rfl rfl rfl (by decide +kernel) ⟨Nat.le_of_ble_eq_true rfl, Nat.le_of_ble_eq_true rfl⟩) (mp_pre hFIX hMI) rfl rfl hl.1 rfl (lv_room (Nat.le_of_ble_eq_true rfl)) dL_law_962 ⟨show cells + 0 ≤ 600000 by omega, show slots + 0 ≤ 7302250 by omega⟩) hS (fun q _ h => am_old hFIX hS q h) (am_old hFIX hS) (fun r2 u t H1 locs1 ht hvm hw hB hz1 hk1 hS1 => ?_)
    replace hB : MI dC dI cyI cyB cyJ cyZ cyH cyN cyM tg m0 m_isKept m_many m_width t.heap := hB
    rw [ht] at hB
    have hXE2 := hXE.go (fun q h1 h2 => hk1 q h1 (am_not h1 h2))
    have hRR2 : RR ke_1 fm_1 fl_1 fw_1 m_isKept m_many m_width := by
      rw [hrel.1, hrel.2.1, hrel.2.2.1, hrel.2.2.2]
      exact hRR
    refine lv_pop hx hb dL_law_965 rfl ?_
    refine lv_goto (tgt := 1930) hx hb dL_law_966 (by decide) ?_
    exact kk _ _ _ _ ⟨sl, ke_1, fm_1, fl_1, fw_1, m_isKept, m_many, m_width, hXE2, hB, hRR2, Nat.le_trans hSZ hz1, hsl, hce, hso⟩ hS1
  refine va_calli (va_runV (As := [.int v_1, .int v_2]) (rest := []) ⟨hx, hb, hml, hown, hts⟩ (wx_spells l dC dI cyI cyB cyJ cyZ cyH cyN cyM tR tF aK aV tg H.size x0 sl ke_f s_fm s_fl s_fw v_1 v_2) (cwV 2 hts (gdV wd_4_21 wd_4_22 wd_4_23 wd_1_1 wd_4_24) rfl rfl rfl (by decide +kernel) ⟨Nat.le_of_ble_eq_true rfl, Nat.le_of_ble_eq_true rfl⟩) (xp_pre hFIX hS hXE) rfl rfl hl.1 rfl (lv_room (Nat.le_of_ble_eq_true rfl)) dL_law_947 ⟨show cells + 0 ≤ 600000 by omega, show slots + 0 ≤ 7302250 by omega⟩) hS (fun q _ h => ax_old hFIX hS q h) (ax_old hFIX hS) (fun r1 u t H1 locs1 ht hvm hw hB hz1 hk1 hS1 => ?_)
  replace hB : XE dC dI cyI cyB cyJ cyZ cyH cyN cyM tg x0 sl ke_f s_fm s_fl s_fw t.heap := hB
  rw [ht] at hB
  exact cont r1 H1 locs1 _ _ sl ke_f s_fm s_fl s_fw trivial ⟨rfl, rfl, rfl, rfl⟩ hB (hMI.go (fun q h1 h2 => hk1 q h1 (ax_not h1 h2))) (Nat.le_trans hSZ hz1) hsl (by omega) (by omega) hS1
set_option maxHeartbeats 4000000 in
set_option maxRecDepth 100000 in
theorem law_c29 {p : Program} {l : Launch} {e : Env} {s : State} {m : MethodId} {below : List Frame} {meth : Method} {c : Code} {b L : Nat} {xs : Nat → Int32} (hL : L ≤ 3072) (C0 : lw_At p s m meth c b L xs) {dC : Nat → ClassId} {dI : Nat → Nat → Nat} {cyI cyB cyJ cyZ cyH cyN cyM : ClassId} {tR tF : Nat} {aK aV : Nat → Nat} {tg : Nat → Nat} {SZ x0 m0 : Nat} (hFIX : FIX dC dI cyI cyB cyJ cyZ cyH cyN cyM tR tF aK aV tg SZ s) {i : Int32} (hi0 : 0 ≤ i.toInt) (hi : i.toInt + 6 ≤ (L : Int)) {ls : Array Slot} (hl : lv_has ls 4 [(3, .int i), (2, .ref m0), (1, .ref x0), (0, .ref b)]) (kk : ∀ (H : Heap) (locs : List Loc) (cells slots : Nat), INV dC dI cyI cyB cyJ cyZ cyH cyN cyM tg SZ x0 m0 H cells slots → va_S (fun q : Nat => s.heap.size ≤ q) s.heap H locs → W p l e room_1 s m #[Value.ref b] below meth c H locs cells slots (lw_Z below #[Value.ref b] s) (F0 m 1930 ls [])) {H : Heap} {locs : List Loc} {cells slots : Nat} (hI : INV dC dI cyI cyB cyJ cyZ cyH cyN cyM tg SZ x0 m0 H cells slots) (hS : va_S (fun q : Nat => s.heap.size ≤ q) s.heap H locs) : W p l e room_1 s m #[Value.ref b] below meth c H locs cells slots (lw_Z below #[Value.ref b] s) (F0 m 969 ls []) := by
  obtain ⟨hx, hb, hr, hml, hown, hts0, hX, hbl, hlocks, hgv⟩ := id C0
  have hts : ∀ w ∈ uU, w.before #[Value.ref b] s = true := fun w h => hts0 w (uU_in h)
  have hbA : ¬ (fun q : Nat => s.heap.size ≤ q) b := Nat.not_le.mpr hbl
  refine lv_aload_n hx hb dL_law_969 rfl (lv_at hl 2 rfl) ?_
  refine lv_aload_n hx hb dL_law_970 rfl (lv_at hl 3 rfl) ?_
  refine lv_iload_n hx hb dL_law_971 rfl (lv_at hl 0 rfl) ?_
  refine lv_iconst (v := 1) hx hb dL_law_972 (by decide) ?_
  refine lv_iadd hx hb dL_law_973 ?_
  refine va_sld hx hb hX hbl hbA hS (lw_ix hi0 hi hL (by decide)) dL_law_974 ?_
  refine lv_topi (fun v_1 ev_1 => ?_)
  obtain ⟨sl, ke_f, s_fm, s_fl, s_fw, m_isKept, m_many, m_width, hXE, hMI, hRR, hSZ, hsl, hce, hso⟩ := hI
  have cont : ∀ (r : Int32) (H : Heap) (locs : List Loc) (cells slots sl : Nat) (ke_1 fm_1 fl_1 fw_1 : Nat → Int32), (True) → (ke_1 = ke_f ∧ fm_1 = s_fm ∧ fl_1 = s_fl ∧ fw_1 = s_fw) → XE dC dI cyI cyB cyJ cyZ cyH cyN cyM tg x0 sl ke_1 fm_1 fl_1 fw_1 H → MI dC dI cyI cyB cyJ cyZ cyH cyN cyM tg m0 m_isKept m_many m_width H → SZ ≤ H.size → (sl = 0 ∨ sl = 1) → cells ≤ 110 + 16 * sl → slots ≤ 15598 + 40501 * sl → va_S (fun q : Nat => s.heap.size ≤ q) s.heap H locs → W p l e room_1 s m #[Value.ref b] below meth c H locs cells slots (lw_Z below #[Value.ref b] s) (F0 m 978 ls [.int r]) := by
    intro r H locs cells slots sl ke_1 fm_1 fl_1 fw_1 hw1 hrel hXE hMI hSZ hsl hce hso hS
    refine lv_pop hx hb dL_law_978 rfl ?_
    refine lv_aload_n hx hb dL_law_979 rfl (lv_at hl 1 rfl) ?_
    refine lv_aload_n hx hb dL_law_980 rfl (lv_at hl 3 rfl) ?_
    refine lv_iload_n hx hb dL_law_981 rfl (lv_at hl 0 rfl) ?_
    refine lv_iconst (v := 1) hx hb dL_law_982 (by decide) ?_
    refine lv_iadd hx hb dL_law_983 ?_
    refine va_sld hx hb hX hbl hbA hS (lw_ix hi0 hi hL (by decide)) dL_law_984 ?_
    refine lv_topi (fun v_101 ev_101 => ?_)
    refine va_calli (va_runV (As := [.int v_101]) (rest := []) ⟨hx, hb, hml, hown, hts⟩ (wm_slide l dC dI cyI cyB cyJ cyZ cyH cyN cyM tg H.size m0 m_isKept m_many m_width v_101) (cwV 1 hts (gdV wd_8_4 wd_8_5 wd_8_6 wd_1_11 wd_8_7) rfl rfl rfl (by decide +kernel) ⟨Nat.le_of_ble_eq_true rfl, Nat.le_of_ble_eq_true rfl⟩) (mp_pre hFIX hMI) rfl rfl hl.1 rfl (lv_room (Nat.le_of_ble_eq_true rfl)) dL_law_985 ⟨show cells + 0 ≤ 600000 by omega, show slots + 0 ≤ 7302250 by omega⟩) hS (fun q _ h => am_old hFIX hS q h) (am_old hFIX hS) (fun r2 u t H1 locs1 ht hvm hw hB hz1 hk1 hS1 => ?_)
    replace hB : MI dC dI cyI cyB cyJ cyZ cyH cyN cyM tg m0 m_isKept m_many m_width t.heap := hB
    rw [ht] at hB
    have hXE2 := hXE.go (fun q h1 h2 => hk1 q h1 (am_not h1 h2))
    have hRR2 : RR ke_1 fm_1 fl_1 fw_1 m_isKept m_many m_width := by
      rw [hrel.1, hrel.2.1, hrel.2.2.1, hrel.2.2.2]
      exact hRR
    refine lv_pop hx hb dL_law_988 rfl ?_
    refine lv_goto (tgt := 1930) hx hb dL_law_989 (by decide) ?_
    exact kk _ _ _ _ ⟨sl, ke_1, fm_1, fl_1, fw_1, m_isKept, m_many, m_width, hXE2, hB, hRR2, Nat.le_trans hSZ hz1, hsl, hce, hso⟩ hS1
  rcases hsl with rfl | rfl
  · obtain ⟨a_pl, s_n0, s_n1, s_n2, s_n3, hXI⟩ := hXE
    by_cases hT : TOK v_1 a_pl s_fm s_fl s_n0 s_n1 s_n2 s_n3
    · skip
      refine va_calli (va_runV (As := [.int v_1]) (rest := []) ⟨hx, hb, hml, hown, hts⟩ (wx_slide0 l dC dI cyI cyB cyJ cyZ cyH cyN cyM tR tF aK aV tg H.size (fun q h => hFIX.2.2.2.2 q (Nat.le_trans hSZ h)) x0 a_pl ke_f s_fm s_fl s_fw s_n0 s_n1 s_n2 s_n3 v_1 hT) (cwV 1 hts (gdV wd_4_25 wd_4_26 wd_4_27 wd_1_1 wd_4_28) rfl rfl rfl (by decide +kernel) ⟨Nat.le_of_ble_eq_true rfl, Nat.le_of_ble_eq_true rfl⟩) (xpi_pre hFIX hS hXI) rfl rfl hl.1 rfl (lv_room (Nat.le_of_ble_eq_true rfl)) dL_law_975 ⟨show cells + 16 ≤ 600000 by omega, show slots + 40501 ≤ 7302250 by omega⟩) hS (fun q _ h => ax_old hFIX hS q h) (ax_old hFIX hS) (fun r1 u t H1 locs1 ht hvm hw hB hz1 hk1 hS1 => ?_)
      replace hB : XE dC dI cyI cyB cyJ cyZ cyH cyN cyM tg x0 1 ke_f s_fm s_fl s_fw t.heap := hB
      rw [ht] at hB
      exact cont r1 H1 locs1 _ _ 1 ke_f s_fm s_fl s_fw trivial ⟨rfl, rfl, rfl, rfl⟩ hB (hMI.go (fun q h1 h2 => hk1 q h1 (ax_not h1 h2))) (Nat.le_trans hSZ hz1) (Or.inr rfl) (by omega) (by omega) hS1
    · skip
      refine va_calli (va_runV (As := [.int v_1]) (rest := []) ⟨hx, hb, hml, hown, hts⟩ (wx_slideN l dC dI cyI cyB cyJ cyZ cyH cyN cyM tR tF aK aV tg H.size x0 a_pl ke_f s_fm s_fl s_fw s_n0 s_n1 s_n2 s_n3 v_1 hT) (cwV 1 hts (gdV wd_4_25 wd_4_26 wd_4_27 wd_1_1 wd_4_28) rfl rfl rfl (by decide +kernel) ⟨Nat.le_of_ble_eq_true rfl, Nat.le_of_ble_eq_true rfl⟩) (xpi_pre hFIX hS hXI) rfl rfl hl.1 rfl (lv_room (Nat.le_of_ble_eq_true rfl)) dL_law_975 ⟨show cells + 0 ≤ 600000 by omega, show slots + 0 ≤ 7302250 by omega⟩) hS (fun q _ h => ax_old hFIX hS q h) (ax_old hFIX hS) (fun r1 u t H1 locs1 ht hvm hw hB hz1 hk1 hS1 => ?_)
      replace hB : XE dC dI cyI cyB cyJ cyZ cyH cyN cyM tg x0 0 ke_f s_fm s_fl s_fw t.heap := hB
      rw [ht] at hB
      exact cont r1 H1 locs1 _ _ 0 ke_f s_fm s_fl s_fw trivial ⟨rfl, rfl, rfl, rfl⟩ hB (hMI.go (fun q h1 h2 => hk1 q h1 (ax_not h1 h2))) (Nat.le_trans hSZ hz1) (Or.inl rfl) (by omega) (by omega) hS1
  · skip
    refine va_calli (va_runV (As := [.int v_1]) (rest := []) ⟨hx, hb, hml, hown, hts⟩ (wx_slide1 l dC dI cyI cyB cyJ cyZ cyH cyN cyM tR tF aK aV tg H.size x0 ke_f s_fm s_fl s_fw v_1) (cwV 1 hts (gdV wd_4_25 wd_4_26 wd_4_27 wd_1_1 wd_4_28) rfl rfl rfl (by decide +kernel) ⟨Nat.le_of_ble_eq_true rfl, Nat.le_of_ble_eq_true rfl⟩) (xp_pre hFIX hS hXE) rfl rfl hl.1 rfl (lv_room (Nat.le_of_ble_eq_true rfl)) dL_law_975 ⟨show cells + 0 ≤ 600000 by omega, show slots + 0 ≤ 7302250 by omega⟩) hS (fun q _ h => ax_old hFIX hS q h) (ax_old hFIX hS) (fun r1 u t H1 locs1 ht hvm hw hB hz1 hk1 hS1 => ?_)
    replace hB : XE dC dI cyI cyB cyJ cyZ cyH cyN cyM tg x0 1 ke_f s_fm s_fl s_fw t.heap := hB
    rw [ht] at hB
    exact cont r1 H1 locs1 _ _ 1 ke_f s_fm s_fl s_fw trivial ⟨rfl, rfl, rfl, rfl⟩ hB (hMI.go (fun q h1 h2 => hk1 q h1 (ax_not h1 h2))) (Nat.le_trans hSZ hz1) (Or.inr rfl) (by omega) (by omega) hS1
set_option maxHeartbeats 4000000 in
set_option maxRecDepth 100000 in
theorem law_c30 {p : Program} {l : Launch} {e : Env} {s : State} {m : MethodId} {below : List Frame} {meth : Method} {c : Code} {b L : Nat} {xs : Nat → Int32} (hL : L ≤ 3072) (C0 : lw_At p s m meth c b L xs) {dC : Nat → ClassId} {dI : Nat → Nat → Nat} {cyI cyB cyJ cyZ cyH cyN cyM : ClassId} {tR tF : Nat} {aK aV : Nat → Nat} {tg : Nat → Nat} {SZ x0 m0 : Nat} (hFIX : FIX dC dI cyI cyB cyJ cyZ cyH cyN cyM tR tF aK aV tg SZ s) {i : Int32} (hi0 : 0 ≤ i.toInt) (hi : i.toInt + 6 ≤ (L : Int)) {ls : Array Slot} (hl : lv_has ls 4 [(3, .int i), (2, .ref m0), (1, .ref x0), (0, .ref b)]) (kk : ∀ (H : Heap) (locs : List Loc) (cells slots : Nat), INV dC dI cyI cyB cyJ cyZ cyH cyN cyM tg SZ x0 m0 H cells slots → va_S (fun q : Nat => s.heap.size ≤ q) s.heap H locs → W p l e room_1 s m #[Value.ref b] below meth c H locs cells slots (lw_Z below #[Value.ref b] s) (F0 m 1930 ls [])) {H : Heap} {locs : List Loc} {cells slots : Nat} (hI : INV dC dI cyI cyB cyJ cyZ cyH cyN cyM tg SZ x0 m0 H cells slots) (hS : va_S (fun q : Nat => s.heap.size ≤ q) s.heap H locs) : W p l e room_1 s m #[Value.ref b] below meth c H locs cells slots (lw_Z below #[Value.ref b] s) (F0 m 992 ls []) := by
  obtain ⟨hx, hb, hr, hml, hown, hts0, hX, hbl, hlocks, hgv⟩ := id C0
  have hts : ∀ w ∈ uU, w.before #[Value.ref b] s = true := fun w h => hts0 w (uU_in h)
  have hbA : ¬ (fun q : Nat => s.heap.size ≤ q) b := Nat.not_le.mpr hbl
  refine lv_aload_n hx hb dL_law_992 rfl (lv_at hl 2 rfl) ?_
  refine lv_aload_n hx hb dL_law_993 rfl (lv_at hl 3 rfl) ?_
  refine lv_iload_n hx hb dL_law_994 rfl (lv_at hl 0 rfl) ?_
  refine lv_iconst (v := 1) hx hb dL_law_995 (by decide) ?_
  refine lv_iadd hx hb dL_law_996 ?_
  refine va_sld hx hb hX hbl hbA hS (lw_ix hi0 hi hL (by decide)) dL_law_997 ?_
  refine lv_topi (fun v_1 ev_1 => ?_)
  refine lv_aload_n hx hb dL_law_998 rfl (lv_at hl 3 rfl) ?_
  refine lv_iload_n hx hb dL_law_999 rfl (lv_at hl 0 rfl) ?_
  refine lv_iconst (v := 2) hx hb dL_law_1000 (by decide) ?_
  refine lv_iadd hx hb dL_law_1001 ?_
  refine va_sld hx hb hX hbl hbA hS (lw_ix hi0 hi hL (by decide)) dL_law_1002 ?_
  refine lv_topi (fun v_2 ev_2 => ?_)
  obtain ⟨sl, ke_f, s_fm, s_fl, s_fw, m_isKept, m_many, m_width, hXE, hMI, hRR, hSZ, hsl, hce, hso⟩ := hI
  have cont : ∀ (r : Int32) (H : Heap) (locs : List Loc) (cells slots sl : Nat) (ke_1 fm_1 fl_1 fw_1 : Nat → Int32), (True) → (ke_1 = ke_f ∧ fm_1 = s_fm ∧ fl_1 = s_fl ∧ fw_1 = s_fw) → XE dC dI cyI cyB cyJ cyZ cyH cyN cyM tg x0 sl ke_1 fm_1 fl_1 fw_1 H → MI dC dI cyI cyB cyJ cyZ cyH cyN cyM tg m0 m_isKept m_many m_width H → SZ ≤ H.size → (sl = 0 ∨ sl = 1) → cells ≤ 110 + 16 * sl → slots ≤ 15598 + 40501 * sl → va_S (fun q : Nat => s.heap.size ≤ q) s.heap H locs → W p l e room_1 s m #[Value.ref b] below meth c H locs cells slots (lw_Z below #[Value.ref b] s) (F0 m 1006 ls [.int r]) := by
    intro r H locs cells slots sl ke_1 fm_1 fl_1 fw_1 hw1 hrel hXE hMI hSZ hsl hce hso hS
    refine lv_pop hx hb dL_law_1006 rfl ?_
    refine lv_aload_n hx hb dL_law_1007 rfl (lv_at hl 1 rfl) ?_
    refine lv_aload_n hx hb dL_law_1008 rfl (lv_at hl 3 rfl) ?_
    refine lv_iload_n hx hb dL_law_1009 rfl (lv_at hl 0 rfl) ?_
    refine lv_iconst (v := 1) hx hb dL_law_1010 (by decide) ?_
    refine lv_iadd hx hb dL_law_1011 ?_
    refine va_sld hx hb hX hbl hbA hS (lw_ix hi0 hi hL (by decide)) dL_law_1012 ?_
    refine lv_topi (fun v_101 ev_101 => ?_)
    refine lv_aload_n hx hb dL_law_1013 rfl (lv_at hl 3 rfl) ?_
    refine lv_iload_n hx hb dL_law_1014 rfl (lv_at hl 0 rfl) ?_
    refine lv_iconst (v := 2) hx hb dL_law_1015 (by decide) ?_
    refine lv_iadd hx hb dL_law_1016 ?_
    refine va_sld hx hb hX hbl hbA hS (lw_ix hi0 hi hL (by decide)) dL_law_1017 ?_
    refine lv_topi (fun v_102 ev_102 => ?_)
    refine va_calli (va_runV (As := [.int v_101, .int v_102]) (rest := []) ⟨hx, hb, hml, hown, hts⟩ (wm_slides l dC dI cyI cyB cyJ cyZ cyH cyN cyM tg H.size m0 m_isKept m_many m_width v_101 v_102) (cwV 2 hts (gdV wd_8_39 wd_8_40 wd_8_41 wd_1_11 wd_8_42) rfl rfl rfl (by decide +kernel) ⟨Nat.le_of_ble_eq_true rfl, Nat.le_of_ble_eq_true rfl⟩) (mp_pre hFIX hMI) rfl rfl hl.1 rfl (lv_room (Nat.le_of_ble_eq_true rfl)) dL_law_1018 ⟨show cells + 0 ≤ 600000 by omega, show slots + 0 ≤ 7302250 by omega⟩) hS (fun q _ h => am_old hFIX hS q h) (am_old hFIX hS) (fun r2 u t H1 locs1 ht hvm hw hB hz1 hk1 hS1 => ?_)
    replace hB : MI dC dI cyI cyB cyJ cyZ cyH cyN cyM tg m0 m_isKept m_many m_width t.heap := hB
    rw [ht] at hB
    have hXE2 := hXE.go (fun q h1 h2 => hk1 q h1 (am_not h1 h2))
    have hRR2 : RR ke_1 fm_1 fl_1 fw_1 m_isKept m_many m_width := by
      rw [hrel.1, hrel.2.1, hrel.2.2.1, hrel.2.2.2]
      exact hRR
    refine lv_pop hx hb dL_law_1021 rfl ?_
    refine lv_goto (tgt := 1930) hx hb dL_law_1022 (by decide) ?_
    exact kk _ _ _ _ ⟨sl, ke_1, fm_1, fl_1, fw_1, m_isKept, m_many, m_width, hXE2, hB, hRR2, Nat.le_trans hSZ hz1, hsl, hce, hso⟩ hS1
  rcases hsl with rfl | rfl
  · obtain ⟨a_pl, s_n0, s_n1, s_n2, s_n3, hXI⟩ := hXE
    by_cases hT : TOK v_1 a_pl s_fm s_fl s_n0 s_n1 s_n2 s_n3
    · skip
      refine va_calli (va_runV (As := [.int v_1, .int v_2]) (rest := []) ⟨hx, hb, hml, hown, hts⟩ (wx_slides0 l dC dI cyI cyB cyJ cyZ cyH cyN cyM tR tF aK aV tg H.size (fun q h => hFIX.2.2.2.2 q (Nat.le_trans hSZ h)) x0 a_pl ke_f s_fm s_fl s_fw s_n0 s_n1 s_n2 s_n3 v_1 v_2 hT) (cwV 2 hts (gdV wd_4_137 wd_4_138 wd_4_139 wd_1_1 wd_4_140) rfl rfl rfl (by decide +kernel) ⟨Nat.le_of_ble_eq_true rfl, Nat.le_of_ble_eq_true rfl⟩) (xpi_pre hFIX hS hXI) rfl rfl hl.1 rfl (lv_room (Nat.le_of_ble_eq_true rfl)) dL_law_1003 ⟨show cells + 16 ≤ 600000 by omega, show slots + 40501 ≤ 7302250 by omega⟩) hS (fun q _ h => ax_old hFIX hS q h) (ax_old hFIX hS) (fun r1 u t H1 locs1 ht hvm hw hB hz1 hk1 hS1 => ?_)
      replace hB : XE dC dI cyI cyB cyJ cyZ cyH cyN cyM tg x0 1 ke_f s_fm s_fl s_fw t.heap := hB
      rw [ht] at hB
      exact cont r1 H1 locs1 _ _ 1 ke_f s_fm s_fl s_fw trivial ⟨rfl, rfl, rfl, rfl⟩ hB (hMI.go (fun q h1 h2 => hk1 q h1 (ax_not h1 h2))) (Nat.le_trans hSZ hz1) (Or.inr rfl) (by omega) (by omega) hS1
    · skip
      refine va_calli (va_runV (As := [.int v_1, .int v_2]) (rest := []) ⟨hx, hb, hml, hown, hts⟩ (wx_slidesN l dC dI cyI cyB cyJ cyZ cyH cyN cyM tR tF aK aV tg H.size x0 a_pl ke_f s_fm s_fl s_fw s_n0 s_n1 s_n2 s_n3 v_1 v_2 hT) (cwV 2 hts (gdV wd_4_137 wd_4_138 wd_4_139 wd_1_1 wd_4_140) rfl rfl rfl (by decide +kernel) ⟨Nat.le_of_ble_eq_true rfl, Nat.le_of_ble_eq_true rfl⟩) (xpi_pre hFIX hS hXI) rfl rfl hl.1 rfl (lv_room (Nat.le_of_ble_eq_true rfl)) dL_law_1003 ⟨show cells + 0 ≤ 600000 by omega, show slots + 0 ≤ 7302250 by omega⟩) hS (fun q _ h => ax_old hFIX hS q h) (ax_old hFIX hS) (fun r1 u t H1 locs1 ht hvm hw hB hz1 hk1 hS1 => ?_)
      replace hB : XE dC dI cyI cyB cyJ cyZ cyH cyN cyM tg x0 0 ke_f s_fm s_fl s_fw t.heap := hB
      rw [ht] at hB
      exact cont r1 H1 locs1 _ _ 0 ke_f s_fm s_fl s_fw trivial ⟨rfl, rfl, rfl, rfl⟩ hB (hMI.go (fun q h1 h2 => hk1 q h1 (ax_not h1 h2))) (Nat.le_trans hSZ hz1) (Or.inl rfl) (by omega) (by omega) hS1
  · skip
    refine va_calli (va_runV (As := [.int v_1, .int v_2]) (rest := []) ⟨hx, hb, hml, hown, hts⟩ (wx_slides1 l dC dI cyI cyB cyJ cyZ cyH cyN cyM tR tF aK aV tg H.size x0 ke_f s_fm s_fl s_fw v_1 v_2) (cwV 2 hts (gdV wd_4_137 wd_4_138 wd_4_139 wd_1_1 wd_4_140) rfl rfl rfl (by decide +kernel) ⟨Nat.le_of_ble_eq_true rfl, Nat.le_of_ble_eq_true rfl⟩) (xp_pre hFIX hS hXE) rfl rfl hl.1 rfl (lv_room (Nat.le_of_ble_eq_true rfl)) dL_law_1003 ⟨show cells + 0 ≤ 600000 by omega, show slots + 0 ≤ 7302250 by omega⟩) hS (fun q _ h => ax_old hFIX hS q h) (ax_old hFIX hS) (fun r1 u t H1 locs1 ht hvm hw hB hz1 hk1 hS1 => ?_)
    replace hB : XE dC dI cyI cyB cyJ cyZ cyH cyN cyM tg x0 1 ke_f s_fm s_fl s_fw t.heap := hB
    rw [ht] at hB
    exact cont r1 H1 locs1 _ _ 1 ke_f s_fm s_fl s_fw trivial ⟨rfl, rfl, rfl, rfl⟩ hB (hMI.go (fun q h1 h2 => hk1 q h1 (ax_not h1 h2))) (Nat.le_trans hSZ hz1) (Or.inr rfl) (by omega) (by omega) hS1
set_option maxHeartbeats 4000000 in
set_option maxRecDepth 100000 in
theorem law_c31 {p : Program} {l : Launch} {e : Env} {s : State} {m : MethodId} {below : List Frame} {meth : Method} {c : Code} {b L : Nat} {xs : Nat → Int32} (hL : L ≤ 3072) (C0 : lw_At p s m meth c b L xs) {dC : Nat → ClassId} {dI : Nat → Nat → Nat} {cyI cyB cyJ cyZ cyH cyN cyM : ClassId} {tR tF : Nat} {aK aV : Nat → Nat} {tg : Nat → Nat} {SZ x0 m0 : Nat} (hFIX : FIX dC dI cyI cyB cyJ cyZ cyH cyN cyM tR tF aK aV tg SZ s) {i : Int32} (hi0 : 0 ≤ i.toInt) (hi : i.toInt + 6 ≤ (L : Int)) {ls : Array Slot} (hl : lv_has ls 4 [(3, .int i), (2, .ref m0), (1, .ref x0), (0, .ref b)]) (kk : ∀ (H : Heap) (locs : List Loc) (cells slots : Nat), INV dC dI cyI cyB cyJ cyZ cyH cyN cyM tg SZ x0 m0 H cells slots → va_S (fun q : Nat => s.heap.size ≤ q) s.heap H locs → W p l e room_1 s m #[Value.ref b] below meth c H locs cells slots (lw_Z below #[Value.ref b] s) (F0 m 1930 ls [])) {H : Heap} {locs : List Loc} {cells slots : Nat} (hI : INV dC dI cyI cyB cyJ cyZ cyH cyN cyM tg SZ x0 m0 H cells slots) (hS : va_S (fun q : Nat => s.heap.size ≤ q) s.heap H locs) : W p l e room_1 s m #[Value.ref b] below meth c H locs cells slots (lw_Z below #[Value.ref b] s) (F0 m 1025 ls []) := by
  obtain ⟨hx, hb, hr, hml, hown, hts0, hX, hbl, hlocks, hgv⟩ := id C0
  have hts : ∀ w ∈ uU, w.before #[Value.ref b] s = true := fun w h => hts0 w (uU_in h)
  have hbA : ¬ (fun q : Nat => s.heap.size ≤ q) b := Nat.not_le.mpr hbl
  refine lv_aload_n hx hb dL_law_1025 rfl (lv_at hl 2 rfl) ?_
  obtain ⟨sl, ke_f, s_fm, s_fl, s_fw, m_isKept, m_many, m_width, hXE, hMI, hRR, hSZ, hsl, hce, hso⟩ := hI
  have cont : ∀ (r : Int32) (H : Heap) (locs : List Loc) (cells slots sl : Nat) (ke_1 fm_1 fl_1 fw_1 : Nat → Int32), (True) → (ke_1 = ke_f ∧ fm_1 = s_fm ∧ fl_1 = s_fl ∧ fw_1 = s_fw) → XE dC dI cyI cyB cyJ cyZ cyH cyN cyM tg x0 sl ke_1 fm_1 fl_1 fw_1 H → MI dC dI cyI cyB cyJ cyZ cyH cyN cyM tg m0 m_isKept m_many m_width H → SZ ≤ H.size → (sl = 0 ∨ sl = 1) → cells ≤ 110 + 16 * sl → slots ≤ 15598 + 40501 * sl → va_S (fun q : Nat => s.heap.size ≤ q) s.heap H locs → W p l e room_1 s m #[Value.ref b] below meth c H locs cells slots (lw_Z below #[Value.ref b] s) (F0 m 1029 ls [.int r]) := by
    intro r H locs cells slots sl ke_1 fm_1 fl_1 fw_1 hw1 hrel hXE hMI hSZ hsl hce hso hS
    refine lv_pop hx hb dL_law_1029 rfl ?_
    refine lv_aload_n hx hb dL_law_1030 rfl (lv_at hl 1 rfl) ?_
    refine va_calli (va_runV (As := []) (rest := []) ⟨hx, hb, hml, hown, hts⟩ (wm_reach l dC dI cyI cyB cyJ cyZ cyH cyN cyM tg H.size m0 m_isKept m_many m_width ) (cwV 0 hts (gdV wd_8_43 wd_8_44 wd_8_45 wd_1_11 wd_8_46) rfl rfl rfl (by decide +kernel) ⟨Nat.le_of_ble_eq_true rfl, Nat.le_of_ble_eq_true rfl⟩) (mp_pre hFIX hMI) rfl rfl hl.1 rfl (lv_room (Nat.le_of_ble_eq_true rfl)) dL_law_1031 ⟨show cells + 0 ≤ 600000 by omega, show slots + 0 ≤ 7302250 by omega⟩) hS (fun q _ h => am_old hFIX hS q h) (am_old hFIX hS) (fun r2 u t H1 locs1 ht hvm hw hB hz1 hk1 hS1 => ?_)
    replace hB : MI dC dI cyI cyB cyJ cyZ cyH cyN cyM tg m0 m_isKept m_many m_width t.heap := hB
    rw [ht] at hB
    have hXE2 := hXE.go (fun q h1 h2 => hk1 q h1 (am_not h1 h2))
    have hRR2 : RR ke_1 fm_1 fl_1 fw_1 m_isKept m_many m_width := by
      rw [hrel.1, hrel.2.1, hrel.2.2.1, hrel.2.2.2]
      exact hRR
    refine lv_pop hx hb dL_law_1034 rfl ?_
    refine lv_goto (tgt := 1930) hx hb dL_law_1035 (by decide) ?_
    exact kk _ _ _ _ ⟨sl, ke_1, fm_1, fl_1, fw_1, m_isKept, m_many, m_width, hXE2, hB, hRR2, Nat.le_trans hSZ hz1, hsl, hce, hso⟩ hS1
  rcases hsl with rfl | rfl
  · obtain ⟨a_pl, s_n0, s_n1, s_n2, s_n3, hXI⟩ := hXE
    by_cases hT : a_pl.toInt ≠ 0
    · skip
      refine va_calli (va_runV (As := []) (rest := []) ⟨hx, hb, hml, hown, hts⟩ (wx_reach0 l dC dI cyI cyB cyJ cyZ cyH cyN cyM tR tF aK aV tg H.size (fun q h => hFIX.2.2.2.2 q (Nat.le_trans hSZ h)) x0 a_pl ke_f s_fm s_fl s_fw s_n0 s_n1 s_n2 s_n3  hT) (cwV 0 hts (gdV wd_4_153 wd_4_154 wd_4_155 wd_1_1 wd_4_156) rfl rfl rfl (by decide +kernel) ⟨Nat.le_of_ble_eq_true rfl, Nat.le_of_ble_eq_true rfl⟩) (xpi_pre hFIX hS hXI) rfl rfl hl.1 rfl (lv_room (Nat.le_of_ble_eq_true rfl)) dL_law_1026 ⟨show cells + 16 ≤ 600000 by omega, show slots + 40501 ≤ 7302250 by omega⟩) hS (fun q _ h => ax_old hFIX hS q h) (ax_old hFIX hS) (fun r1 u t H1 locs1 ht hvm hw hB hz1 hk1 hS1 => ?_)
      replace hB : XE dC dI cyI cyB cyJ cyZ cyH cyN cyM tg x0 1 ke_f s_fm s_fl s_fw t.heap := hB
      rw [ht] at hB
      exact cont r1 H1 locs1 _ _ 1 ke_f s_fm s_fl s_fw trivial ⟨rfl, rfl, rfl, rfl⟩ hB (hMI.go (fun q h1 h2 => hk1 q h1 (ax_not h1 h2))) (Nat.le_trans hSZ hz1) (Or.inr rfl) (by omega) (by omega) hS1
    · replace hT : a_pl.toInt = 0 := Classical.not_not.mp hT
      refine va_calli (va_runV (As := []) (rest := []) ⟨hx, hb, hml, hown, hts⟩ (wx_reachN l dC dI cyI cyB cyJ cyZ cyH cyN cyM tR tF aK aV tg H.size x0 a_pl ke_f s_fm s_fl s_fw s_n0 s_n1 s_n2 s_n3  hT) (cwV 0 hts (gdV wd_4_153 wd_4_154 wd_4_155 wd_1_1 wd_4_156) rfl rfl rfl (by decide +kernel) ⟨Nat.le_of_ble_eq_true rfl, Nat.le_of_ble_eq_true rfl⟩) (xpi_pre hFIX hS hXI) rfl rfl hl.1 rfl (lv_room (Nat.le_of_ble_eq_true rfl)) dL_law_1026 ⟨show cells + 0 ≤ 600000 by omega, show slots + 0 ≤ 7302250 by omega⟩) hS (fun q _ h => ax_old hFIX hS q h) (ax_old hFIX hS) (fun r1 u t H1 locs1 ht hvm hw hB hz1 hk1 hS1 => ?_)
      replace hB : XE dC dI cyI cyB cyJ cyZ cyH cyN cyM tg x0 0 ke_f s_fm s_fl s_fw t.heap := hB
      rw [ht] at hB
      exact cont r1 H1 locs1 _ _ 0 ke_f s_fm s_fl s_fw trivial ⟨rfl, rfl, rfl, rfl⟩ hB (hMI.go (fun q h1 h2 => hk1 q h1 (ax_not h1 h2))) (Nat.le_trans hSZ hz1) (Or.inl rfl) (by omega) (by omega) hS1
  · skip
    refine va_calli (va_runV (As := []) (rest := []) ⟨hx, hb, hml, hown, hts⟩ (wx_reach1 l dC dI cyI cyB cyJ cyZ cyH cyN cyM tR tF aK aV tg H.size x0 ke_f s_fm s_fl s_fw ) (cwV 0 hts (gdV wd_4_153 wd_4_154 wd_4_155 wd_1_1 wd_4_156) rfl rfl rfl (by decide +kernel) ⟨Nat.le_of_ble_eq_true rfl, Nat.le_of_ble_eq_true rfl⟩) (xp_pre hFIX hS hXE) rfl rfl hl.1 rfl (lv_room (Nat.le_of_ble_eq_true rfl)) dL_law_1026 ⟨show cells + 0 ≤ 600000 by omega, show slots + 0 ≤ 7302250 by omega⟩) hS (fun q _ h => ax_old hFIX hS q h) (ax_old hFIX hS) (fun r1 u t H1 locs1 ht hvm hw hB hz1 hk1 hS1 => ?_)
    replace hB : XE dC dI cyI cyB cyJ cyZ cyH cyN cyM tg x0 1 ke_f s_fm s_fl s_fw t.heap := hB
    rw [ht] at hB
    exact cont r1 H1 locs1 _ _ 1 ke_f s_fm s_fl s_fw trivial ⟨rfl, rfl, rfl, rfl⟩ hB (hMI.go (fun q h1 h2 => hk1 q h1 (ax_not h1 h2))) (Nat.le_trans hSZ hz1) (Or.inr rfl) (by omega) (by omega) hS1
set_option maxHeartbeats 4000000 in
set_option maxRecDepth 100000 in
theorem law_c32 {p : Program} {l : Launch} {e : Env} {s : State} {m : MethodId} {below : List Frame} {meth : Method} {c : Code} {b L : Nat} {xs : Nat → Int32} (hL : L ≤ 3072) (C0 : lw_At p s m meth c b L xs) {dC : Nat → ClassId} {dI : Nat → Nat → Nat} {cyI cyB cyJ cyZ cyH cyN cyM : ClassId} {tR tF : Nat} {aK aV : Nat → Nat} {tg : Nat → Nat} {SZ x0 m0 : Nat} (hFIX : FIX dC dI cyI cyB cyJ cyZ cyH cyN cyM tR tF aK aV tg SZ s) {i : Int32} (hi0 : 0 ≤ i.toInt) (hi : i.toInt + 6 ≤ (L : Int)) {ls : Array Slot} (hl : lv_has ls 4 [(3, .int i), (2, .ref m0), (1, .ref x0), (0, .ref b)]) (kk : ∀ (H : Heap) (locs : List Loc) (cells slots : Nat), INV dC dI cyI cyB cyJ cyZ cyH cyN cyM tg SZ x0 m0 H cells slots → va_S (fun q : Nat => s.heap.size ≤ q) s.heap H locs → W p l e room_1 s m #[Value.ref b] below meth c H locs cells slots (lw_Z below #[Value.ref b] s) (F0 m 1930 ls [])) {H : Heap} {locs : List Loc} {cells slots : Nat} (hI : INV dC dI cyI cyB cyJ cyZ cyH cyN cyM tg SZ x0 m0 H cells slots) (hS : va_S (fun q : Nat => s.heap.size ≤ q) s.heap H locs) : W p l e room_1 s m #[Value.ref b] below meth c H locs cells slots (lw_Z below #[Value.ref b] s) (F0 m 1038 ls []) := by
  obtain ⟨hx, hb, hr, hml, hown, hts0, hX, hbl, hlocks, hgv⟩ := id C0
  have hts : ∀ w ∈ uU, w.before #[Value.ref b] s = true := fun w h => hts0 w (uU_in h)
  have hbA : ¬ (fun q : Nat => s.heap.size ≤ q) b := Nat.not_le.mpr hbl
  refine lv_aload_n hx hb dL_law_1038 rfl (lv_at hl 2 rfl) ?_
  obtain ⟨sl, ke_f, s_fm, s_fl, s_fw, m_isKept, m_many, m_width, hXE, hMI, hRR, hSZ, hsl, hce, hso⟩ := hI
  have cont : ∀ (r : Int32) (H : Heap) (locs : List Loc) (cells slots sl : Nat) (ke_1 fm_1 fl_1 fw_1 : Nat → Int32), (True) → (ke_1 = ke_f ∧ fm_1 = s_fm ∧ fl_1 = s_fl ∧ fw_1 = s_fw) → XE dC dI cyI cyB cyJ cyZ cyH cyN cyM tg x0 sl ke_1 fm_1 fl_1 fw_1 H → MI dC dI cyI cyB cyJ cyZ cyH cyN cyM tg m0 m_isKept m_many m_width H → SZ ≤ H.size → (sl = 0 ∨ sl = 1) → cells ≤ 110 + 16 * sl → slots ≤ 15598 + 40501 * sl → va_S (fun q : Nat => s.heap.size ≤ q) s.heap H locs → W p l e room_1 s m #[Value.ref b] below meth c H locs cells slots (lw_Z below #[Value.ref b] s) (F0 m 1042 ls [.int r]) := by
    intro r H locs cells slots sl ke_1 fm_1 fl_1 fw_1 hw1 hrel hXE hMI hSZ hsl hce hso hS
    refine lv_pop hx hb dL_law_1042 rfl ?_
    refine lv_aload_n hx hb dL_law_1043 rfl (lv_at hl 1 rfl) ?_
    refine va_calli (va_runV (As := []) (rest := []) ⟨hx, hb, hml, hown, hts⟩ (wm_far l dC dI cyI cyB cyJ cyZ cyH cyN cyM tg H.size m0 m_isKept m_many m_width ) (cwV 0 hts (gdV wd_8_47 wd_8_48 wd_8_49 wd_1_11 wd_8_50) rfl rfl rfl (by decide +kernel) ⟨Nat.le_of_ble_eq_true rfl, Nat.le_of_ble_eq_true rfl⟩) (mp_pre hFIX hMI) rfl rfl hl.1 rfl (lv_room (Nat.le_of_ble_eq_true rfl)) dL_law_1044 ⟨show cells + 0 ≤ 600000 by omega, show slots + 0 ≤ 7302250 by omega⟩) hS (fun q _ h => am_old hFIX hS q h) (am_old hFIX hS) (fun r2 u t H1 locs1 ht hvm hw hB hz1 hk1 hS1 => ?_)
    replace hB : MI dC dI cyI cyB cyJ cyZ cyH cyN cyM tg m0 m_isKept m_many m_width t.heap := hB
    rw [ht] at hB
    have hXE2 := hXE.go (fun q h1 h2 => hk1 q h1 (am_not h1 h2))
    have hRR2 : RR ke_1 fm_1 fl_1 fw_1 m_isKept m_many m_width := by
      rw [hrel.1, hrel.2.1, hrel.2.2.1, hrel.2.2.2]
      exact hRR
    refine lv_pop hx hb dL_law_1047 rfl ?_
    refine lv_goto (tgt := 1930) hx hb dL_law_1048 (by decide) ?_
    exact kk _ _ _ _ ⟨sl, ke_1, fm_1, fl_1, fw_1, m_isKept, m_many, m_width, hXE2, hB, hRR2, Nat.le_trans hSZ hz1, hsl, hce, hso⟩ hS1
  rcases hsl with rfl | rfl
  · obtain ⟨a_pl, s_n0, s_n1, s_n2, s_n3, hXI⟩ := hXE
    by_cases hT : a_pl.toInt ≠ 0
    · skip
      refine va_calli (va_runV (As := []) (rest := []) ⟨hx, hb, hml, hown, hts⟩ (wx_far0 l dC dI cyI cyB cyJ cyZ cyH cyN cyM tR tF aK aV tg H.size (fun q h => hFIX.2.2.2.2 q (Nat.le_trans hSZ h)) x0 a_pl ke_f s_fm s_fl s_fw s_n0 s_n1 s_n2 s_n3  hT) (cwV 0 hts (gdV wd_4_161 wd_4_162 wd_4_163 wd_1_1 wd_4_164) rfl rfl rfl (by decide +kernel) ⟨Nat.le_of_ble_eq_true rfl, Nat.le_of_ble_eq_true rfl⟩) (xpi_pre hFIX hS hXI) rfl rfl hl.1 rfl (lv_room (Nat.le_of_ble_eq_true rfl)) dL_law_1039 ⟨show cells + 16 ≤ 600000 by omega, show slots + 40501 ≤ 7302250 by omega⟩) hS (fun q _ h => ax_old hFIX hS q h) (ax_old hFIX hS) (fun r1 u t H1 locs1 ht hvm hw hB hz1 hk1 hS1 => ?_)
      replace hB : XE dC dI cyI cyB cyJ cyZ cyH cyN cyM tg x0 1 ke_f s_fm s_fl s_fw t.heap := hB
      rw [ht] at hB
      exact cont r1 H1 locs1 _ _ 1 ke_f s_fm s_fl s_fw trivial ⟨rfl, rfl, rfl, rfl⟩ hB (hMI.go (fun q h1 h2 => hk1 q h1 (ax_not h1 h2))) (Nat.le_trans hSZ hz1) (Or.inr rfl) (by omega) (by omega) hS1
    · replace hT : a_pl.toInt = 0 := Classical.not_not.mp hT
      refine va_calli (va_runV (As := []) (rest := []) ⟨hx, hb, hml, hown, hts⟩ (wx_farN l dC dI cyI cyB cyJ cyZ cyH cyN cyM tR tF aK aV tg H.size x0 a_pl ke_f s_fm s_fl s_fw s_n0 s_n1 s_n2 s_n3  hT) (cwV 0 hts (gdV wd_4_161 wd_4_162 wd_4_163 wd_1_1 wd_4_164) rfl rfl rfl (by decide +kernel) ⟨Nat.le_of_ble_eq_true rfl, Nat.le_of_ble_eq_true rfl⟩) (xpi_pre hFIX hS hXI) rfl rfl hl.1 rfl (lv_room (Nat.le_of_ble_eq_true rfl)) dL_law_1039 ⟨show cells + 0 ≤ 600000 by omega, show slots + 0 ≤ 7302250 by omega⟩) hS (fun q _ h => ax_old hFIX hS q h) (ax_old hFIX hS) (fun r1 u t H1 locs1 ht hvm hw hB hz1 hk1 hS1 => ?_)
      replace hB : XE dC dI cyI cyB cyJ cyZ cyH cyN cyM tg x0 0 ke_f s_fm s_fl s_fw t.heap := hB
      rw [ht] at hB
      exact cont r1 H1 locs1 _ _ 0 ke_f s_fm s_fl s_fw trivial ⟨rfl, rfl, rfl, rfl⟩ hB (hMI.go (fun q h1 h2 => hk1 q h1 (ax_not h1 h2))) (Nat.le_trans hSZ hz1) (Or.inl rfl) (by omega) (by omega) hS1
  · skip
    refine va_calli (va_runV (As := []) (rest := []) ⟨hx, hb, hml, hown, hts⟩ (wx_far1 l dC dI cyI cyB cyJ cyZ cyH cyN cyM tR tF aK aV tg H.size x0 ke_f s_fm s_fl s_fw ) (cwV 0 hts (gdV wd_4_161 wd_4_162 wd_4_163 wd_1_1 wd_4_164) rfl rfl rfl (by decide +kernel) ⟨Nat.le_of_ble_eq_true rfl, Nat.le_of_ble_eq_true rfl⟩) (xp_pre hFIX hS hXE) rfl rfl hl.1 rfl (lv_room (Nat.le_of_ble_eq_true rfl)) dL_law_1039 ⟨show cells + 0 ≤ 600000 by omega, show slots + 0 ≤ 7302250 by omega⟩) hS (fun q _ h => ax_old hFIX hS q h) (ax_old hFIX hS) (fun r1 u t H1 locs1 ht hvm hw hB hz1 hk1 hS1 => ?_)
    replace hB : XE dC dI cyI cyB cyJ cyZ cyH cyN cyM tg x0 1 ke_f s_fm s_fl s_fw t.heap := hB
    rw [ht] at hB
    exact cont r1 H1 locs1 _ _ 1 ke_f s_fm s_fl s_fw trivial ⟨rfl, rfl, rfl, rfl⟩ hB (hMI.go (fun q h1 h2 => hk1 q h1 (ax_not h1 h2))) (Nat.le_trans hSZ hz1) (Or.inr rfl) (by omega) (by omega) hS1

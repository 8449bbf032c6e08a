set_option maxHeartbeats 4000000 in
set_option maxRecDepth 100000 in
theorem law_c0 {p : Program} {l : Launch} {e : Env} {s : State} {m : MethodId} {below : List Frame} {meth : Method} {c : Code} {b L : Nat} {xs : Nat → Int32} (hL : L ≤ 3072) (C0 : lw_At p s m meth c b L xs) {dC : Nat → ClassId} {dI : Nat → Nat → Nat} {cyI cyB cyJ cyZ cyH cyN cyM : ClassId} {tR tF : Nat} {aK aV : Nat → Nat} {tg : Nat → Nat} {SZ x0 m0 : Nat} (hFIX : FIX dC dI cyI cyB cyJ cyZ cyH cyN cyM tR tF aK aV tg SZ s) {i : Int32} (hi0 : 0 ≤ i.toInt) (hi : i.toInt + 6 ≤ (L : Int)) {ls : Array Slot} (hl : lv_has ls 4 [(3, .int i), (2, .ref m0), (1, .ref x0), (0, .ref b)]) (kk : ∀ (H : Heap) (locs : List Loc) (cells slots : Nat), INV dC dI cyI cyB cyJ cyZ cyH cyN cyM tg SZ x0 m0 H cells slots → va_S (fun q : Nat => s.heap.size ≤ q) s.heap H locs → W p l e room_1 s m #[Value.ref b] below meth c H locs cells slots (lw_Z below #[Value.ref b] s) (F0 m 1930 ls [])) {H : Heap} {locs : List Loc} {cells slots : Nat} (hI : INV dC dI cyI cyB cyJ cyZ cyH cyN cyM tg SZ x0 m0 H cells slots) (hS : va_S (fun q : Nat => s.heap.size ≤ q) s.heap H locs) : W p l e room_1 s m #[Value.ref b] below meth c H locs cells slots (lw_Z below #[Value.ref b] s) (F0 m 312 ls []) := by
  obtain ⟨hx, hb, hr, hml, hown, hts0, hX, hbl, hlocks, hgv⟩ := id C0
  have hts : ∀ w ∈ uU, w.before #[Value.ref b] s = true := fun w h => hts0 w (uU_in h)
  have hbA : ¬ (fun q : Nat => s.heap.size ≤ q) b := Nat.not_le.mpr hbl
  refine lv_aload_n hx hb dL_law_312 rfl (lv_at hl 2 rfl) ?_
  refine lv_aload_n hx hb dL_law_313 rfl (lv_at hl 3 rfl) ?_
  refine lv_iload_n hx hb dL_law_314 rfl (lv_at hl 0 rfl) ?_
  refine lv_iconst (v := 1) hx hb dL_law_315 (by decide) ?_
  refine lv_iadd hx hb dL_law_316 ?_
  refine va_sld hx hb hX hbl hbA hS (lw_ix hi0 hi hL (by decide)) dL_law_317 ?_
  refine lv_topi (fun v_1 ev_1 => ?_)
  refine lv_aload_n hx hb dL_law_318 rfl (lv_at hl 3 rfl) ?_
  refine lv_iload_n hx hb dL_law_319 rfl (lv_at hl 0 rfl) ?_
  refine lv_iconst (v := 2) hx hb dL_law_320 (by decide) ?_
  refine lv_iadd hx hb dL_law_321 ?_
  refine va_sld hx hb hX hbl hbA hS (lw_ix hi0 hi hL (by decide)) dL_law_322 ?_
  refine lv_topi (fun v_2 ev_2 => ?_)
  refine lv_aload_n hx hb dL_law_323 rfl (lv_at hl 3 rfl) ?_
  refine lv_iload_n hx hb dL_law_324 rfl (lv_at hl 0 rfl) ?_
  refine lv_iconst (v := 3) hx hb dL_law_325 (by decide) ?_
  refine lv_iadd hx hb dL_law_326 ?_
  refine va_sld hx hb hX hbl hbA hS (lw_ix hi0 hi hL (by decide)) dL_law_327 ?_
  refine lv_topi (fun v_3 ev_3 => ?_)
  refine lv_aload_n hx hb dL_law_328 rfl (lv_at hl 3 rfl) ?_
  refine lv_iload_n hx hb dL_law_329 rfl (lv_at hl 0 rfl) ?_
  refine lv_iconst (v := 4) hx hb dL_law_330 (by decide) ?_
  refine lv_iadd hx hb dL_law_331 ?_
  refine va_sld hx hb hX hbl hbA hS (lw_ix hi0 hi hL (by decide)) dL_law_332 ?_
  refine lv_topi (fun v_4 ev_4 => ?_)
  refine lv_aload_n hx hb dL_law_333 rfl (lv_at hl 3 rfl) ?_
  refine lv_iload_n hx hb dL_law_334 rfl (lv_at hl 0 rfl) ?_
  refine lv_iconst (v := 5) hx hb dL_law_335 (by decide) ?_
  refine lv_iadd hx hb dL_law_336 ?_
  refine va_sld hx hb hX hbl hbA hS (lw_ix hi0 hi hL (by decide)) dL_law_337 ?_
  refine lv_topi (fun v_5 ev_5 => ?_)
  obtain ⟨sl, ke_f, s_fm, s_fl, s_fw, m_isKept, m_many, m_width, hXE, hMI, hRR, hSZ, hsl, hce, hso⟩ := hI
  have cont : ∀ (r : Int32) (H : Heap) (locs : List Loc) (cells slots sl : Nat) (ke_1 fm_1 fl_1 fw_1 : Nat → Int32), (True) → (ke_1 = ke_f ∧ fm_1 = s_fm ∧ fl_1 = s_fl ∧ fw_1 = s_fw) → XE dC dI cyI cyB cyJ cyZ cyH cyN cyM tg x0 sl ke_1 fm_1 fl_1 fw_1 H → MI dC dI cyI cyB cyJ cyZ cyH cyN cyM tg m0 m_isKept m_many m_width H → SZ ≤ H.size → (sl = 0 ∨ sl = 1) → cells ≤ 110 + 16 * sl → slots ≤ 15598 + 40501 * sl → va_S (fun q : Nat => s.heap.size ≤ q) s.heap H locs → W p l e room_1 s m #[Value.ref b] below meth c H locs cells slots (lw_Z below #[Value.ref b] s) (F0 m 341 ls [.int r]) := by
    intro r H locs cells slots sl ke_1 fm_1 fl_1 fw_1 hw1 hrel hXE hMI hSZ hsl hce hso hS
    refine lv_pop hx hb dL_law_341 rfl ?_
    refine lv_aload_n hx hb dL_law_342 rfl (lv_at hl 1 rfl) ?_
    refine lv_aload_n hx hb dL_law_343 rfl (lv_at hl 3 rfl) ?_
    refine lv_iload_n hx hb dL_law_344 rfl (lv_at hl 0 rfl) ?_
    refine lv_iconst (v := 1) hx hb dL_law_345 (by decide) ?_
    refine lv_iadd hx hb dL_law_346 ?_
    refine va_sld hx hb hX hbl hbA hS (lw_ix hi0 hi hL (by decide)) dL_law_347 ?_
    refine lv_topi (fun v_101 ev_101 => ?_)
    refine lv_aload_n hx hb dL_law_348 rfl (lv_at hl 3 rfl) ?_
    refine lv_iload_n hx hb dL_law_349 rfl (lv_at hl 0 rfl) ?_
    refine lv_iconst (v := 2) hx hb dL_law_350 (by decide) ?_
    refine lv_iadd hx hb dL_law_351 ?_
    refine va_sld hx hb hX hbl hbA hS (lw_ix hi0 hi hL (by decide)) dL_law_352 ?_
    refine lv_topi (fun v_102 ev_102 => ?_)
    refine lv_aload_n hx hb dL_law_353 rfl (lv_at hl 3 rfl) ?_
    refine lv_iload_n hx hb dL_law_354 rfl (lv_at hl 0 rfl) ?_
    refine lv_iconst (v := 3) hx hb dL_law_355 (by decide) ?_
    refine lv_iadd hx hb dL_law_356 ?_
    refine va_sld hx hb hX hbl hbA hS (lw_ix hi0 hi hL (by decide)) dL_law_357 ?_
    refine lv_topi (fun v_103 ev_103 => ?_)
    refine lv_aload_n hx hb dL_law_358 rfl (lv_at hl 3 rfl) ?_
    refine lv_iload_n hx hb dL_law_359 rfl (lv_at hl 0 rfl) ?_
    refine lv_iconst (v := 4) hx hb dL_law_360 (by decide) ?_
    refine lv_iadd hx hb dL_law_361 ?_
    refine va_sld hx hb hX hbl hbA hS (lw_ix hi0 hi hL (by decide)) dL_law_362 ?_
    refine lv_topi (fun v_104 ev_104 => ?_)
    refine lv_aload_n hx hb dL_law_363 rfl (lv_at hl 3 rfl) ?_
    refine lv_iload_n hx hb dL_law_364 rfl (lv_at hl 0 rfl) ?_
    refine lv_iconst (v := 5) hx hb dL_law_365 (by decide) ?_
    refine lv_iadd hx hb dL_law_366 ?_
    refine va_sld hx hb hX hbl hbA hS (lw_ix hi0 hi hL (by decide)) dL_law_367 ?_
    refine lv_topi (fun v_105 ev_105 => ?_)
    refine va_calli (va_runV (As := [.int v_101, .int v_102, .int v_103, .int v_104, .int v_105]) (rest := []) ⟨hx, hb, hml, hown, hts⟩ (wm_feed l dC dI cyI cyB cyJ cyZ cyH cyN cyM tg H.size m0 m_isKept m_many m_width v_101 v_102 v_103 v_104 v_105) (cwV 5 hts (gdV wd_6_192 wd_6_193 wd_6_194 wd_1_11 wd_6_195) rfl rfl rfl (by decide +kernel) ⟨Nat.le_of_ble_eq_true rfl, Nat.le_of_ble_eq_true rfl⟩) (mp_pre hFIX hMI) rfl rfl hl.1 rfl (lv_room (Nat.le_of_ble_eq_true rfl)) dL_law_368 ⟨show cells + 0 ≤ 600000 by omega, show slots + 0 ≤ 7302250 by omega⟩) hS (fun q _ h => am_old hFIX hS q h) (am_old hFIX hS) (fun r2 u t H1 locs1 ht hvm hw hB hz1 hk1 hS1 => ?_)
    replace hB : MI dC dI cyI cyB cyJ cyZ cyH cyN cyM tg m0 m_isKept m_many m_width t.heap := hB
    rw [ht] at hB
    have hXE2 := hXE.go (fun q h1 h2 => hk1 q h1 (am_not h1 h2))
    have hRR2 : RR ke_1 fm_1 fl_1 fw_1 m_isKept m_many m_width := by
      rw [hrel.1, hrel.2.1, hrel.2.2.1, hrel.2.2.2]
      exact hRR
    refine lv_pop hx hb dL_law_371 rfl ?_
    refine lv_goto (tgt := 1930) hx hb dL_law_372 (by decide) ?_
    exact kk _ _ _ _ ⟨sl, ke_1, fm_1, fl_1, fw_1, m_isKept, m_many, m_width, hXE2, hB, hRR2, Nat.le_trans hSZ hz1, hsl, hce, hso⟩ hS1
  refine va_calli (va_runV (As := [.int v_1, .int v_2, .int v_3, .int v_4, .int v_5]) (rest := []) ⟨hx, hb, hml, hown, hts⟩ (wx_feed l dC dI cyI cyB cyJ cyZ cyH cyN cyM tR tF aK aV tg H.size x0 sl ke_f s_fm s_fl s_fw v_1 v_2 v_3 v_4 v_5) (cwV 5 hts (gdV wd_2_111 wd_2_112 wd_2_113 wd_1_1 wd_2_114) rfl rfl rfl (by decide +kernel) ⟨Nat.le_of_ble_eq_true rfl, Nat.le_of_ble_eq_true rfl⟩) (xp_pre hFIX hS hXE) rfl rfl hl.1 rfl (lv_room (Nat.le_of_ble_eq_true rfl)) dL_law_338 ⟨show cells + 0 ≤ 600000 by omega, show slots + 0 ≤ 7302250 by omega⟩) hS (fun q _ h => ax_old hFIX hS q h) (ax_old hFIX hS) (fun r1 u t H1 locs1 ht hvm hw hB hz1 hk1 hS1 => ?_)
  replace hB : XE dC dI cyI cyB cyJ cyZ cyH cyN cyM tg x0 sl ke_f s_fm s_fl s_fw t.heap := hB
  rw [ht] at hB
  exact cont r1 H1 locs1 _ _ sl ke_f s_fm s_fl s_fw trivial ⟨rfl, rfl, rfl, rfl⟩ hB (hMI.go (fun q h1 h2 => hk1 q h1 (ax_not h1 h2))) (Nat.le_trans hSZ hz1) hsl (by omega) (by omega) hS1
set_option maxHeartbeats 4000000 in
set_option maxRecDepth 100000 in
theorem law_c1 {p : Program} {l : Launch} {e : Env} {s : State} {m : MethodId} {below : List Frame} {meth : Method} {c : Code} {b L : Nat} {xs : Nat → Int32} (hL : L ≤ 3072) (C0 : lw_At p s m meth c b L xs) {dC : Nat → ClassId} {dI : Nat → Nat → Nat} {cyI cyB cyJ cyZ cyH cyN cyM : ClassId} {tR tF : Nat} {aK aV : Nat → Nat} {tg : Nat → Nat} {SZ x0 m0 : Nat} (hFIX : FIX dC dI cyI cyB cyJ cyZ cyH cyN cyM tR tF aK aV tg SZ s) {i : Int32} (hi0 : 0 ≤ i.toInt) (hi : i.toInt + 6 ≤ (L : Int)) {ls : Array Slot} (hl : lv_has ls 4 [(3, .int i), (2, .ref m0), (1, .ref x0), (0, .ref b)]) (kk : ∀ (H : Heap) (locs : List Loc) (cells slots : Nat), INV dC dI cyI cyB cyJ cyZ cyH cyN cyM tg SZ x0 m0 H cells slots → va_S (fun q : Nat => s.heap.size ≤ q) s.heap H locs → W p l e room_1 s m #[Value.ref b] below meth c H locs cells slots (lw_Z below #[Value.ref b] s) (F0 m 1930 ls [])) {H : Heap} {locs : List Loc} {cells slots : Nat} (hI : INV dC dI cyI cyB cyJ cyZ cyH cyN cyM tg SZ x0 m0 H cells slots) (hS : va_S (fun q : Nat => s.heap.size ≤ q) s.heap H locs) : W p l e room_1 s m #[Value.ref b] below meth c H locs cells slots (lw_Z below #[Value.ref b] s) (F0 m 375 ls []) := by
  obtain ⟨hx, hb, hr, hml, hown, hts0, hX, hbl, hlocks, hgv⟩ := id C0
  have hts : ∀ w ∈ uU, w.before #[Value.ref b] s = true := fun w h => hts0 w (uU_in h)
  have hbA : ¬ (fun q : Nat => s.heap.size ≤ q) b := Nat.not_le.mpr hbl
  refine lv_aload_n hx hb dL_law_375 rfl (lv_at hl 2 rfl) ?_
  refine lv_aload_n hx hb dL_law_376 rfl (lv_at hl 3 rfl) ?_
  refine lv_iload_n hx hb dL_law_377 rfl (lv_at hl 0 rfl) ?_
  refine lv_iconst (v := 1) hx hb dL_law_378 (by decide) ?_
  refine lv_iadd hx hb dL_law_379 ?_
  refine va_sld hx hb hX hbl hbA hS (lw_ix hi0 hi hL (by decide)) dL_law_380 ?_
  refine lv_topi (fun v_1 ev_1 => ?_)
  obtain ⟨sl, ke_f, s_fm, s_fl, s_fw, m_isKept, m_many, m_width, hXE, hMI, hRR, hSZ, hsl, hce, hso⟩ := hI
  have cont : ∀ (r : Int32) (H : Heap) (locs : List Loc) (cells slots sl : Nat) (ke_1 fm_1 fl_1 fw_1 : Nat → Int32), (True) → (ke_1 = ke_f ∧ fm_1 = s_fm ∧ fl_1 = s_fl ∧ fw_1 = s_fw) → XE dC dI cyI cyB cyJ cyZ cyH cyN cyM tg x0 sl ke_1 fm_1 fl_1 fw_1 H → MI dC dI cyI cyB cyJ cyZ cyH cyN cyM tg m0 m_isKept m_many m_width H → SZ ≤ H.size → (sl = 0 ∨ sl = 1) → cells ≤ 110 + 16 * sl → slots ≤ 15598 + 40501 * sl → va_S (fun q : Nat => s.heap.size ≤ q) s.heap H locs → W p l e room_1 s m #[Value.ref b] below meth c H locs cells slots (lw_Z below #[Value.ref b] s) (F0 m 384 ls [.int r]) := by
    intro r H locs cells slots sl ke_1 fm_1 fl_1 fw_1 hw1 hrel hXE hMI hSZ hsl hce hso hS
    refine lv_pop hx hb dL_law_384 rfl ?_
    refine lv_aload_n hx hb dL_law_385 rfl (lv_at hl 1 rfl) ?_
    refine lv_aload_n hx hb dL_law_386 rfl (lv_at hl 3 rfl) ?_
    refine lv_iload_n hx hb dL_law_387 rfl (lv_at hl 0 rfl) ?_
    refine lv_iconst (v := 1) hx hb dL_law_388 (by decide) ?_
    refine lv_iadd hx hb dL_law_389 ?_
    refine va_sld hx hb hX hbl hbA hS (lw_ix hi0 hi hL (by decide)) dL_law_390 ?_
    refine lv_topi (fun v_101 ev_101 => ?_)
    refine va_calli (va_runV (As := [.int v_101]) (rest := []) ⟨hx, hb, hml, hown, hts⟩ (wm_end l dC dI cyI cyB cyJ cyZ cyH cyN cyM tg H.size m0 m_isKept m_many m_width v_101) (cwV 1 hts (gdV wd_6_200 wd_6_201 wd_6_202 wd_1_11 wd_6_203) rfl rfl rfl (by decide +kernel) ⟨Nat.le_of_ble_eq_true rfl, Nat.le_of_ble_eq_true rfl⟩) (mp_pre hFIX hMI) rfl rfl hl.1 rfl (lv_room (Nat.le_of_ble_eq_true rfl)) dL_law_391 ⟨show cells + 0 ≤ 600000 by omega, show slots + 0 ≤ 7302250 by omega⟩) hS (fun q _ h => am_old hFIX hS q h) (am_old hFIX hS) (fun r2 u t H1 locs1 ht hvm hw hB hz1 hk1 hS1 => ?_)
    replace hB : MI dC dI cyI cyB cyJ cyZ cyH cyN cyM tg m0 m_isKept m_many m_width t.heap := hB
    rw [ht] at hB
    have hXE2 := hXE.go (fun q h1 h2 => hk1 q h1 (am_not h1 h2))
    have hRR2 : RR ke_1 fm_1 fl_1 fw_1 m_isKept m_many m_width := by
      rw [hrel.1, hrel.2.1, hrel.2.2.1, hrel.2.2.2]
      exact hRR
    refine lv_pop hx hb dL_law_394 rfl ?_
    refine lv_goto (tgt := 1930) hx hb dL_law_395 (by decide) ?_
    exact kk _ _ _ _ ⟨sl, ke_1, fm_1, fl_1, fw_1, m_isKept, m_many, m_width, hXE2, hB, hRR2, Nat.le_trans hSZ hz1, hsl, hce, hso⟩ hS1
  refine va_calli (va_runV (As := [.int v_1]) (rest := []) ⟨hx, hb, hml, hown, hts⟩ (wx_end l dC dI cyI cyB cyJ cyZ cyH cyN cyM tR tF aK aV tg H.size x0 sl ke_f s_fm s_fl s_fw v_1) (cwV 1 hts (gdV wd_2_123 wd_2_124 wd_2_125 wd_1_1 wd_2_126) rfl rfl rfl (by decide +kernel) ⟨Nat.le_of_ble_eq_true rfl, Nat.le_of_ble_eq_true rfl⟩) (xp_pre hFIX hS hXE) rfl rfl hl.1 rfl (lv_room (Nat.le_of_ble_eq_true rfl)) dL_law_381 ⟨show cells + 0 ≤ 600000 by omega, show slots + 0 ≤ 7302250 by omega⟩) hS (fun q _ h => ax_old hFIX hS q h) (ax_old hFIX hS) (fun r1 u t H1 locs1 ht hvm hw hB hz1 hk1 hS1 => ?_)
  replace hB : XE dC dI cyI cyB cyJ cyZ cyH cyN cyM tg x0 sl ke_f s_fm s_fl s_fw t.heap := hB
  rw [ht] at hB
  exact cont r1 H1 locs1 _ _ sl ke_f s_fm s_fl s_fw trivial ⟨rfl, rfl, rfl, rfl⟩ hB (hMI.go (fun q h1 h2 => hk1 q h1 (ax_not h1 h2))) (Nat.le_trans hSZ hz1) hsl (by omega) (by omega) hS1
set_option maxHeartbeats 4000000 in
set_option maxRecDepth 100000 in
theorem law_c2 {p : Program} {l : Launch} {e : Env} {s : State} {m : MethodId} {below : List Frame} {meth : Method} {c : Code} {b L : Nat} {xs : Nat → Int32} (hL : L ≤ 3072) (C0 : lw_At p s m meth c b L xs) {dC : Nat → ClassId} {dI : Nat → Nat → Nat} {cyI cyB cyJ cyZ cyH cyN cyM : ClassId} {tR tF : Nat} {aK aV : Nat → Nat} {tg : Nat → Nat} {SZ x0 m0 : Nat} (hFIX : FIX dC dI cyI cyB cyJ cyZ cyH cyN cyM tR tF aK aV tg SZ s) {i : Int32} (hi0 : 0 ≤ i.toInt) (hi : i.toInt + 6 ≤ (L : Int)) {ls : Array Slot} (hl : lv_has ls 4 [(3, .int i), (2, .ref m0), (1, .ref x0), (0, .ref b)]) (kk : ∀ (H : Heap) (locs : List Loc) (cells slots : Nat), INV dC dI cyI cyB cyJ cyZ cyH cyN cyM tg SZ x0 m0 H cells slots → va_S (fun q : Nat => s.heap.size ≤ q) s.heap H locs → W p l e room_1 s m #[Value.ref b] below meth c H locs cells slots (lw_Z below #[Value.ref b] s) (F0 m 1930 ls [])) {H : Heap} {locs : List Loc} {cells slots : Nat} (hI : INV dC dI cyI cyB cyJ cyZ cyH cyN cyM tg SZ x0 m0 H cells slots) (hS : va_S (fun q : Nat => s.heap.size ≤ q) s.heap H locs) : W p l e room_1 s m #[Value.ref b] below meth c H locs cells slots (lw_Z below #[Value.ref b] s) (F0 m 398 ls []) := by
  obtain ⟨hx, hb, hr, hml, hown, hts0, hX, hbl, hlocks, hgv⟩ := id C0
  have hts : ∀ w ∈ uU, w.before #[Value.ref b] s = true := fun w h => hts0 w (uU_in h)
  have hbA : ¬ (fun q : Nat => s.heap.size ≤ q) b := Nat.not_le.mpr hbl
  refine lv_aload_n hx hb dL_law_398 rfl (lv_at hl 2 rfl) ?_
  obtain ⟨sl, ke_f, s_fm, s_fl, s_fw, m_isKept, m_many, m_width, hXE, hMI, hRR, hSZ, hsl, hce, hso⟩ := hI
  have cont : ∀ (r : Int32) (H : Heap) (locs : List Loc) (cells slots sl : Nat) (ke_1 fm_1 fl_1 fw_1 : Nat → Int32), (True) → (ke_1 = ke_f ∧ fm_1 = s_fm ∧ fl_1 = s_fl ∧ fw_1 = s_fw) → XE dC dI cyI cyB cyJ cyZ cyH cyN cyM tg x0 sl ke_1 fm_1 fl_1 fw_1 H → MI dC dI cyI cyB cyJ cyZ cyH cyN cyM tg m0 m_isKept m_many m_width H → SZ ≤ H.size → (sl = 0 ∨ sl = 1) → cells ≤ 110 + 16 * sl → slots ≤ 15598 + 40501 * sl → va_S (fun q : Nat => s.heap.size ≤ q) s.heap H locs → W p l e room_1 s m #[Value.ref b] below meth c H locs cells slots (lw_Z below #[Value.ref b] s) (F0 m 402 ls [.int r]) := by
    intro r H locs cells slots sl ke_1 fm_1 fl_1 fw_1 hw1 hrel hXE hMI hSZ hsl hce hso hS
    refine lv_pop hx hb dL_law_402 rfl ?_
    refine lv_aload_n hx hb dL_law_403 rfl (lv_at hl 1 rfl) ?_
    refine va_calli (va_runV (As := []) (rest := []) ⟨hx, hb, hml, hown, hts⟩ (wm_hall l dC dI cyI cyB cyJ cyZ cyH cyN cyM tg H.size m0 m_isKept m_many m_width ) (cwV 0 hts (gdV wd_6_208 wd_6_209 wd_6_210 wd_1_11 wd_6_211) rfl rfl rfl (by decide +kernel) ⟨Nat.le_of_ble_eq_true rfl, Nat.le_of_ble_eq_true rfl⟩) (mp_pre hFIX hMI) rfl rfl hl.1 rfl (lv_room (Nat.le_of_ble_eq_true rfl)) dL_law_404 ⟨show cells + 0 ≤ 600000 by omega, show slots + 0 ≤ 7302250 by omega⟩) hS (fun q _ h => am_old hFIX hS q h) (am_old hFIX hS) (fun r2 u t H1 locs1 ht hvm hw hB hz1 hk1 hS1 => ?_)
    replace hB : MI dC dI cyI cyB cyJ cyZ cyH cyN cyM tg m0 m_isKept m_many m_width t.heap := hB
    rw [ht] at hB
    have hXE2 := hXE.go (fun q h1 h2 => hk1 q h1 (am_not h1 h2))
    have hRR2 : RR ke_1 fm_1 fl_1 fw_1 m_isKept m_many m_width := by
      rw [hrel.1, hrel.2.1, hrel.2.2.1, hrel.2.2.2]
      exact hRR
    refine lv_pop hx hb dL_law_407 rfl ?_
    refine lv_goto (tgt := 1930) hx hb dL_law_408 (by decide) ?_
    exact kk _ _ _ _ ⟨sl, ke_1, fm_1, fl_1, fw_1, m_isKept, m_many, m_width, hXE2, hB, hRR2, Nat.le_trans hSZ hz1, hsl, hce, hso⟩ hS1
  refine va_calli (va_runV (As := []) (rest := []) ⟨hx, hb, hml, hown, hts⟩ (wx_hall l dC dI cyI cyB cyJ cyZ cyH cyN cyM tR tF aK aV tg H.size x0 sl ke_f s_fm s_fl s_fw ) (cwV 0 hts (gdV wd_2_127 wd_2_128 wd_2_129 wd_1_1 wd_2_130) rfl rfl rfl (by decide +kernel) ⟨Nat.le_of_ble_eq_true rfl, Nat.le_of_ble_eq_true rfl⟩) (xp_pre hFIX hS hXE) rfl rfl hl.1 rfl (lv_room (Nat.le_of_ble_eq_true rfl)) dL_law_399 ⟨show cells + 0 ≤ 600000 by omega, show slots + 0 ≤ 7302250 by omega⟩) hS (fun q _ h => ax_old hFIX hS q h) (ax_old hFIX hS) (fun r1 u t H1 locs1 ht hvm hw hB hz1 hk1 hS1 => ?_)
  replace hB : XE dC dI cyI cyB cyJ cyZ cyH cyN cyM tg x0 sl ke_f s_fm s_fl s_fw t.heap := hB
  rw [ht] at hB
  exact cont r1 H1 locs1 _ _ sl ke_f s_fm s_fl s_fw trivial ⟨rfl, rfl, rfl, rfl⟩ hB (hMI.go (fun q h1 h2 => hk1 q h1 (ax_not h1 h2))) (Nat.le_trans hSZ hz1) hsl (by omega) (by omega) hS1
set_option maxHeartbeats 4000000 in
set_option maxRecDepth 100000 in
theorem law_c3 {p : Program} {l : Launch} {e : Env} {s : State} {m : MethodId} {below : List Frame} {meth : Method} {c : Code} {b L : Nat} {xs : Nat → Int32} (hL : L ≤ 3072) (C0 : lw_At p s m meth c b L xs) {dC : Nat → ClassId} {dI : Nat → Nat → Nat} {cyI cyB cyJ cyZ cyH cyN cyM : ClassId} {tR tF : Nat} {aK aV : Nat → Nat} {tg : Nat → Nat} {SZ x0 m0 : Nat} (hFIX : FIX dC dI cyI cyB cyJ cyZ cyH cyN cyM tR tF aK aV tg SZ s) {i : Int32} (hi0 : 0 ≤ i.toInt) (hi : i.toInt + 6 ≤ (L : Int)) {ls : Array Slot} (hl : lv_has ls 4 [(3, .int i), (2, .ref m0), (1, .ref x0), (0, .ref b)]) (kk : ∀ (H : Heap) (locs : List Loc) (cells slots : Nat), INV dC dI cyI cyB cyJ cyZ cyH cyN cyM tg SZ x0 m0 H cells slots → va_S (fun q : Nat => s.heap.size ≤ q) s.heap H locs → W p l e room_1 s m #[Value.ref b] below meth c H locs cells slots (lw_Z below #[Value.ref b] s) (F0 m 1930 ls [])) {H : Heap} {locs : List Loc} {cells slots : Nat} (hI : INV dC dI cyI cyB cyJ cyZ cyH cyN cyM tg SZ x0 m0 H cells slots) (hS : va_S (fun q : Nat => s.heap.size ≤ q) s.heap H locs) : W p l e room_1 s m #[Value.ref b] below meth c H locs cells slots (lw_Z below #[Value.ref b] s) (F0 m 411 ls []) := by
  obtain ⟨hx, hb, hr, hml, hown, hts0, hX, hbl, hlocks, hgv⟩ := id C0
  have hts : ∀ w ∈ uU, w.before #[Value.ref b] s = true := fun w h => hts0 w (uU_in h)
  have hbA : ¬ (fun q : Nat => s.heap.size ≤ q) b := Nat.not_le.mpr hbl
  refine lv_aload_n hx hb dL_law_411 rfl (lv_at hl 2 rfl) ?_
  refine lv_aload_n hx hb dL_law_412 rfl (lv_at hl 3 rfl) ?_
  refine lv_iload_n hx hb dL_law_413 rfl (lv_at hl 0 rfl) ?_
  refine lv_iconst (v := 1) hx hb dL_law_414 (by decide) ?_
  refine lv_iadd hx hb dL_law_415 ?_
  refine va_sld hx hb hX hbl hbA hS (lw_ix hi0 hi hL (by decide)) dL_law_416 ?_
  refine lv_topi (fun v_1 ev_1 => ?_)
  obtain ⟨sl, ke_f, s_fm, s_fl, s_fw, m_isKept, m_many, m_width, hXE, hMI, hRR, hSZ, hsl, hce, hso⟩ := hI
  have cont : ∀ (r : Int32) (H : Heap) (locs : List Loc) (cells slots sl : Nat) (ke_1 fm_1 fl_1 fw_1 : Nat → Int32), (True) → (ke_1 = ke_f ∧ fm_1 = s_fm ∧ fl_1 = s_fl ∧ fw_1 = s_fw) → XE dC dI cyI cyB cyJ cyZ cyH cyN cyM tg x0 sl ke_1 fm_1 fl_1 fw_1 H → MI dC dI cyI cyB cyJ cyZ cyH cyN cyM tg m0 m_isKept m_many m_width H → SZ ≤ H.size → (sl = 0 ∨ sl = 1) → cells ≤ 110 + 16 * sl → slots ≤ 15598 + 40501 * sl → va_S (fun q : Nat => s.heap.size ≤ q) s.heap H locs → W p l e room_1 s m #[Value.ref b] below meth c H locs cells slots (lw_Z below #[Value.ref b] s) (F0 m 420 ls [.int r]) := by
    intro r H locs cells slots sl ke_1 fm_1 fl_1 fw_1 hw1 hrel hXE hMI hSZ hsl hce hso hS
    refine lv_pop hx hb dL_law_420 rfl ?_
    refine lv_aload_n hx hb dL_law_421 rfl (lv_at hl 1 rfl) ?_
    refine lv_aload_n hx hb dL_law_422 rfl (lv_at hl 3 rfl) ?_
    refine lv_iload_n hx hb dL_law_423 rfl (lv_at hl 0 rfl) ?_
    refine lv_iconst (v := 1) hx hb dL_law_424 (by decide) ?_
    refine lv_iadd hx hb dL_law_425 ?_
    refine va_sld hx hb hX hbl hbA hS (lw_ix hi0 hi hL (by decide)) dL_law_426 ?_
    refine lv_topi (fun v_101 ev_101 => ?_)
    refine va_calli (va_runV (As := [.int v_101]) (rest := []) ⟨hx, hb, hml, hown, hts⟩ (wm_fault l dC dI cyI cyB cyJ cyZ cyH cyN cyM tg H.size m0 m_isKept m_many m_width v_101) (cwV 1 hts (gdV wd_6_204 wd_6_205 wd_6_206 wd_1_11 wd_6_207) rfl rfl rfl (by decide +kernel) ⟨Nat.le_of_ble_eq_true rfl, Nat.le_of_ble_eq_true rfl⟩) (mp_pre hFIX hMI) rfl rfl hl.1 rfl (lv_room (Nat.le_of_ble_eq_true rfl)) dL_law_427 ⟨show cells + 0 ≤ 600000 by omega, show slots + 0 ≤ 7302250 by omega⟩) hS (fun q _ h => am_old hFIX hS q h) (am_old hFIX hS) (fun r2 u t H1 locs1 ht hvm hw hB hz1 hk1 hS1 => ?_)
    replace hB : MI dC dI cyI cyB cyJ cyZ cyH cyN cyM tg m0 m_isKept m_many m_width t.heap := hB
    rw [ht] at hB
    have hXE2 := hXE.go (fun q h1 h2 => hk1 q h1 (am_not h1 h2))
    have hRR2 : RR ke_1 fm_1 fl_1 fw_1 m_isKept m_many m_width := by
      rw [hrel.1, hrel.2.1, hrel.2.2.1, hrel.2.2.2]
      exact hRR
    refine lv_pop hx hb dL_law_430 rfl ?_
    refine lv_goto (tgt := 1930) hx hb dL_law_431 (by decide) ?_
    exact kk _ _ _ _ ⟨sl, ke_1, fm_1, fl_1, fw_1, m_isKept, m_many, m_width, hXE2, hB, hRR2, Nat.le_trans hSZ hz1, hsl, hce, hso⟩ hS1
  refine va_calli (va_runV (As := [.int v_1]) (rest := []) ⟨hx, hb, hml, hown, hts⟩ (wx_fault l dC dI cyI cyB cyJ cyZ cyH cyN cyM tR tF aK aV tg H.size x0 sl ke_f s_fm s_fl s_fw v_1) (cwV 1 hts (gdV wd_3_44 wd_3_45 wd_3_46 wd_1_1 wd_3_47) rfl rfl rfl (by decide +kernel) ⟨Nat.le_of_ble_eq_true rfl, Nat.le_of_ble_eq_true rfl⟩) (xp_pre hFIX hS hXE) rfl rfl hl.1 rfl (lv_room (Nat.le_of_ble_eq_true rfl)) dL_law_417 ⟨show cells + 0 ≤ 600000 by omega, show slots + 0 ≤ 7302250 by omega⟩) hS (fun q _ h => ax_old hFIX hS q h) (ax_old hFIX hS) (fun r1 u t H1 locs1 ht hvm hw hB hz1 hk1 hS1 => ?_)
  replace hB : XE dC dI cyI cyB cyJ cyZ cyH cyN cyM tg x0 sl ke_f s_fm s_fl s_fw t.heap := hB
  rw [ht] at hB
  exact cont r1 H1 locs1 _ _ sl ke_f s_fm s_fl s_fw trivial ⟨rfl, rfl, rfl, rfl⟩ hB (hMI.go (fun q h1 h2 => hk1 q h1 (ax_not h1 h2))) (Nat.le_trans hSZ hz1) hsl (by omega) (by omega) hS1
set_option maxHeartbeats 4000000 in
set_option maxRecDepth 100000 in
theorem law_c4 {p : Program} {l : Launch} {e : Env} {s : State} {m : MethodId} {below : List Frame} {meth : Method} {c : Code} {b L : Nat} {xs : Nat → Int32} (hL : L ≤ 3072) (C0 : lw_At p s m meth c b L xs) {dC : Nat → ClassId} {dI : Nat → Nat → Nat} {cyI cyB cyJ cyZ cyH cyN cyM : ClassId} {tR tF : Nat} {aK aV : Nat → Nat} {tg : Nat → Nat} {SZ x0 m0 : Nat} (hFIX : FIX dC dI cyI cyB cyJ cyZ cyH cyN cyM tR tF aK aV tg SZ s) {i : Int32} (hi0 : 0 ≤ i.toInt) (hi : i.toInt + 6 ≤ (L : Int)) {ls : Array Slot} (hl : lv_has ls 4 [(3, .int i), (2, .ref m0), (1, .ref x0), (0, .ref b)]) (kk : ∀ (H : Heap) (locs : List Loc) (cells slots : Nat), INV dC dI cyI cyB cyJ cyZ cyH cyN cyM tg SZ x0 m0 H cells slots → va_S (fun q : Nat => s.heap.size ≤ q) s.heap H locs → W p l e room_1 s m #[Value.ref b] below meth c H locs cells slots (lw_Z below #[Value.ref b] s) (F0 m 1930 ls [])) {H : Heap} {locs : List Loc} {cells slots : Nat} (hI : INV dC dI cyI cyB cyJ cyZ cyH cyN cyM tg SZ x0 m0 H cells slots) (hS : va_S (fun q : Nat => s.heap.size ≤ q) s.heap H locs) : W p l e room_1 s m #[Value.ref b] below meth c H locs cells slots (lw_Z below #[Value.ref b] s) (F0 m 434 ls []) := by
  obtain ⟨hx, hb, hr, hml, hown, hts0, hX, hbl, hlocks, hgv⟩ := id C0
  have hts : ∀ w ∈ uU, w.before #[Value.ref b] s = true := fun w h => hts0 w (uU_in h)
  have hbA : ¬ (fun q : Nat => s.heap.size ≤ q) b := Nat.not_le.mpr hbl
  refine lv_aload_n hx hb dL_law_434 rfl (lv_at hl 2 rfl) ?_
  refine lv_aload_n hx hb dL_law_435 rfl (lv_at hl 3 rfl) ?_
  refine lv_iload_n hx hb dL_law_436 rfl (lv_at hl 0 rfl) ?_
  refine lv_iconst (v := 1) hx hb dL_law_437 (by decide) ?_
  refine lv_iadd hx hb dL_law_438 ?_
  refine va_sld hx hb hX hbl hbA hS (lw_ix hi0 hi hL (by decide)) dL_law_439 ?_
  refine lv_topi (fun v_1 ev_1 => ?_)
  refine lv_aload_n hx hb dL_law_440 rfl (lv_at hl 3 rfl) ?_
  refine lv_iload_n hx hb dL_law_441 rfl (lv_at hl 0 rfl) ?_
  refine lv_iconst (v := 2) hx hb dL_law_442 (by decide) ?_
  refine lv_iadd hx hb dL_law_443 ?_
  refine va_sld hx hb hX hbl hbA hS (lw_ix hi0 hi hL (by decide)) dL_law_444 ?_
  refine lv_topi (fun v_2 ev_2 => ?_)
  obtain ⟨sl, ke_f, s_fm, s_fl, s_fw, m_isKept, m_many, m_width, hXE, hMI, hRR, hSZ, hsl, hce, hso⟩ := hI
  have cont : ∀ (r : Int32) (H : Heap) (locs : List Loc) (cells slots sl : Nat) (ke_1 fm_1 fl_1 fw_1 : Nat → Int32), (True) → (ke_1 = ke_f ∧ fm_1 = s_fm ∧ fl_1 = s_fl ∧ fw_1 = s_fw) → XE dC dI cyI cyB cyJ cyZ cyH cyN cyM tg x0 sl ke_1 fm_1 fl_1 fw_1 H → MI dC dI cyI cyB cyJ cyZ cyH cyN cyM tg m0 m_isKept m_many m_width H → SZ ≤ H.size → (sl = 0 ∨ sl = 1) → cells ≤ 110 + 16 * sl → slots ≤ 15598 + 40501 * sl → va_S (fun q : Nat => s.heap.size ≤ q) s.heap H locs → W p l e room_1 s m #[Value.ref b] below meth c H locs cells slots (lw_Z below #[Value.ref b] s) (F0 m 448 ls [.int r]) := by
    intro r H locs cells slots sl ke_1 fm_1 fl_1 fw_1 hw1 hrel hXE hMI hSZ hsl hce hso hS
    refine lv_pop hx hb dL_law_448 rfl ?_
    refine lv_aload_n hx hb dL_law_449 rfl (lv_at hl 1 rfl) ?_
    refine lv_aload_n hx hb dL_law_450 rfl (lv_at hl 3 rfl) ?_
    refine lv_iload_n hx hb dL_law_451 rfl (lv_at hl 0 rfl) ?_
    refine lv_iconst (v := 1) hx hb dL_law_452 (by decide) ?_
    refine lv_iadd hx hb dL_law_453 ?_
    refine va_sld hx hb hX hbl hbA hS (lw_ix hi0 hi hL (by decide)) dL_law_454 ?_
    refine lv_topi (fun v_101 ev_101 => ?_)
    refine lv_aload_n hx hb dL_law_455 rfl (lv_at hl 3 rfl) ?_
    refine lv_iload_n hx hb dL_law_456 rfl (lv_at hl 0 rfl) ?_
    refine lv_iconst (v := 2) hx hb dL_law_457 (by decide) ?_
    refine lv_iadd hx hb dL_law_458 ?_
    refine va_sld hx hb hX hbl hbA hS (lw_ix hi0 hi hL (by decide)) dL_law_459 ?_
    refine lv_topi (fun v_102 ev_102 => ?_)
    refine va_calli (va_runV (As := [.int v_101, .int v_102]) (rest := []) ⟨hx, hb, hml, hown, hts⟩ (wm_law l dC dI cyI cyB cyJ cyZ cyH cyN cyM tg H.size m0 m_isKept m_many m_width v_101 v_102) (cwV 2 hts (gdV wd_7_74 wd_7_75 wd_7_76 wd_1_11 wd_7_77) rfl rfl rfl (by decide +kernel) ⟨Nat.le_of_ble_eq_true rfl, Nat.le_of_ble_eq_true rfl⟩) (mp_pre hFIX hMI) rfl rfl hl.1 rfl (lv_room (Nat.le_of_ble_eq_true rfl)) dL_law_460 ⟨show cells + 0 ≤ 600000 by omega, show slots + 0 ≤ 7302250 by omega⟩) hS (fun q _ h => am_old hFIX hS q h) (am_old hFIX hS) (fun r2 u t H1 locs1 ht hvm hw hB hz1 hk1 hS1 => ?_)
    replace hB : MI dC dI cyI cyB cyJ cyZ cyH cyN cyM tg m0 m_isKept m_many m_width t.heap := hB
    rw [ht] at hB
    have hXE2 := hXE.go (fun q h1 h2 => hk1 q h1 (am_not h1 h2))
    have hRR2 : RR ke_1 fm_1 fl_1 fw_1 m_isKept m_many m_width := by
      rw [hrel.1, hrel.2.1, hrel.2.2.1, hrel.2.2.2]
      exact hRR
    refine lv_pop hx hb dL_law_463 rfl ?_
    refine lv_goto (tgt := 1930) hx hb dL_law_464 (by decide) ?_
    exact kk _ _ _ _ ⟨sl, ke_1, fm_1, fl_1, fw_1, m_isKept, m_many, m_width, hXE2, hB, hRR2, Nat.le_trans hSZ hz1, hsl, hce, hso⟩ hS1
  refine va_calli (va_runV (As := [.int v_1, .int v_2]) (rest := []) ⟨hx, hb, hml, hown, hts⟩ (wx_law l dC dI cyI cyB cyJ cyZ cyH cyN cyM tR tF aK aV tg H.size x0 sl ke_f s_fm s_fl s_fw v_1 v_2) (cwV 2 hts (gdV wd_3_48 wd_3_49 wd_3_50 wd_1_1 wd_3_51) rfl rfl rfl (by decide +kernel) ⟨Nat.le_of_ble_eq_true rfl, Nat.le_of_ble_eq_true rfl⟩) (xp_pre hFIX hS hXE) rfl rfl hl.1 rfl (lv_room (Nat.le_of_ble_eq_true rfl)) dL_law_445 ⟨show cells + 0 ≤ 600000 by omega, show slots + 0 ≤ 7302250 by omega⟩) hS (fun q _ h => ax_old hFIX hS q h) (ax_old hFIX hS) (fun r1 u t H1 locs1 ht hvm hw hB hz1 hk1 hS1 => ?_)
  replace hB : XE dC dI cyI cyB cyJ cyZ cyH cyN cyM tg x0 sl ke_f s_fm s_fl s_fw t.heap := hB
  rw [ht] at hB
  exact cont r1 H1 locs1 _ _ sl ke_f s_fm s_fl s_fw trivial ⟨rfl, rfl, rfl, rfl⟩ hB (hMI.go (fun q h1 h2 => hk1 q h1 (ax_not h1 h2))) (Nat.le_trans hSZ hz1) hsl (by omega) (by omega) hS1
set_option maxHeartbeats 4000000 in
set_option maxRecDepth 100000 in
theorem law_c5 {p : Program} {l : Launch} {e : Env} {s : State} {m : MethodId} {below : List Frame} {meth : Method} {c : Code} {b L : Nat} {xs : Nat → Int32} (hL : L ≤ 3072) (C0 : lw_At p s m meth c b L xs) {dC : Nat → ClassId} {dI : Nat → Nat → Nat} {cyI cyB cyJ cyZ cyH cyN cyM : ClassId} {tR tF : Nat} {aK aV : Nat → Nat} {tg : Nat → Nat} {SZ x0 m0 : Nat} (hFIX : FIX dC dI cyI cyB cyJ cyZ cyH cyN cyM tR tF aK aV tg SZ s) {i : Int32} (hi0 : 0 ≤ i.toInt) (hi : i.toInt + 6 ≤ (L : Int)) {ls : Array Slot} (hl : lv_has ls 4 [(3, .int i), (2, .ref m0), (1, .ref x0), (0, .ref b)]) (kk : ∀ (H : Heap) (locs : List Loc) (cells slots : Nat), INV dC dI cyI cyB cyJ cyZ cyH cyN cyM tg SZ x0 m0 H cells slots → va_S (fun q : Nat => s.heap.size ≤ q) s.heap H locs → W p l e room_1 s m #[Value.ref b] below meth c H locs cells slots (lw_Z below #[Value.ref b] s) (F0 m 1930 ls [])) {H : Heap} {locs : List Loc} {cells slots : Nat} (hI : INV dC dI cyI cyB cyJ cyZ cyH cyN cyM tg SZ x0 m0 H cells slots) (hS : va_S (fun q : Nat => s.heap.size ≤ q) s.heap H locs) : W p l e room_1 s m #[Value.ref b] below meth c H locs cells slots (lw_Z below #[Value.ref b] s) (F0 m 467 ls []) := by
  obtain ⟨hx, hb, hr, hml, hown, hts0, hX, hbl, hlocks, hgv⟩ := id C0
  have hts : ∀ w ∈ uU, w.before #[Value.ref b] s = true := fun w h => hts0 w (uU_in h)
  have hbA : ¬ (fun q : Nat => s.heap.size ≤ q) b := Nat.not_le.mpr hbl
  refine lv_aload_n hx hb dL_law_467 rfl (lv_at hl 2 rfl) ?_
  refine lv_aload_n hx hb dL_law_468 rfl (lv_at hl 3 rfl) ?_
  refine lv_iload_n hx hb dL_law_469 rfl (lv_at hl 0 rfl) ?_
  refine lv_iconst (v := 1) hx hb dL_law_470 (by decide) ?_
  refine lv_iadd hx hb dL_law_471 ?_
  refine va_sld hx hb hX hbl hbA hS (lw_ix hi0 hi hL (by decide)) dL_law_472 ?_
  refine lv_topi (fun v_1 ev_1 => ?_)
  refine lv_aload_n hx hb dL_law_473 rfl (lv_at hl 3 rfl) ?_
  refine lv_iload_n hx hb dL_law_474 rfl (lv_at hl 0 rfl) ?_
  refine lv_iconst (v := 2) hx hb dL_law_475 (by decide) ?_
  refine lv_iadd hx hb dL_law_476 ?_
  refine va_sld hx hb hX hbl hbA hS (lw_ix hi0 hi hL (by decide)) dL_law_477 ?_
  refine lv_topi (fun v_2 ev_2 => ?_)
  obtain ⟨sl, ke_f, s_fm, s_fl, s_fw, m_isKept, m_many, m_width, hXE, hMI, hRR, hSZ, hsl, hce, hso⟩ := hI
  have cont : ∀ (r : Int32) (H : Heap) (locs : List Loc) (cells slots sl : Nat) (ke_1 fm_1 fl_1 fw_1 : Nat → Int32), (True) → (ke_1 = ke_f ∧ fm_1 = s_fm ∧ fl_1 = s_fl ∧ fw_1 = s_fw) → XE dC dI cyI cyB cyJ cyZ cyH cyN cyM tg x0 sl ke_1 fm_1 fl_1 fw_1 H → MI dC dI cyI cyB cyJ cyZ cyH cyN cyM tg m0 m_isKept m_many m_width H → SZ ≤ H.size → (sl = 0 ∨ sl = 1) → cells ≤ 110 + 16 * sl → slots ≤ 15598 + 40501 * sl → va_S (fun q : Nat => s.heap.size ≤ q) s.heap H locs → W p l e room_1 s m #[Value.ref b] below meth c H locs cells slots (lw_Z below #[Value.ref b] s) (F0 m 481 ls [.int r]) := by
    intro r H locs cells slots sl ke_1 fm_1 fl_1 fw_1 hw1 hrel hXE hMI hSZ hsl hce hso hS
    refine lv_pop hx hb dL_law_481 rfl ?_
    refine lv_aload_n hx hb dL_law_482 rfl (lv_at hl 1 rfl) ?_
    refine lv_aload_n hx hb dL_law_483 rfl (lv_at hl 3 rfl) ?_
    refine lv_iload_n hx hb dL_law_484 rfl (lv_at hl 0 rfl) ?_
    refine lv_iconst (v := 1) hx hb dL_law_485 (by decide) ?_
    refine lv_iadd hx hb dL_law_486 ?_
    refine va_sld hx hb hX hbl hbA hS (lw_ix hi0 hi hL (by decide)) dL_law_487 ?_
    refine lv_topi (fun v_101 ev_101 => ?_)
    refine lv_aload_n hx hb dL_law_488 rfl (lv_at hl 3 rfl) ?_
    refine lv_iload_n hx hb dL_law_489 rfl (lv_at hl 0 rfl) ?_
    refine lv_iconst (v := 2) hx hb dL_law_490 (by decide) ?_
    refine lv_iadd hx hb dL_law_491 ?_
    refine va_sld hx hb hX hbl hbA hS (lw_ix hi0 hi hL (by decide)) dL_law_492 ?_
    refine lv_topi (fun v_102 ev_102 => ?_)
    refine va_calli (va_runV (As := [.int v_101, .int v_102]) (rest := []) ⟨hx, hb, hml, hown, hts⟩ (wm_suits l dC dI cyI cyB cyJ cyZ cyH cyN cyM tg H.size m0 m_isKept m_many m_width v_101 v_102) (cwV 2 hts (gdV wd_7_78 wd_7_79 wd_7_80 wd_1_11 wd_7_81) rfl rfl rfl (by decide +kernel) ⟨Nat.le_of_ble_eq_true rfl, Nat.le_of_ble_eq_true rfl⟩) (mp_pre hFIX hMI) rfl rfl hl.1 rfl (lv_room (Nat.le_of_ble_eq_true rfl)) dL_law_493 ⟨show cells + 0 ≤ 600000 by omega, show slots + 0 ≤ 7302250 by omega⟩) hS (fun q _ h => am_old hFIX hS q h) (am_old hFIX hS) (fun r2 u t H1 locs1 ht hvm hw hB hz1 hk1 hS1 => ?_)
    replace hB : MI dC dI cyI cyB cyJ cyZ cyH cyN cyM tg m0 m_isKept m_many m_width t.heap := hB
    rw [ht] at hB
    have hXE2 := hXE.go (fun q h1 h2 => hk1 q h1 (am_not h1 h2))
    have hRR2 : RR ke_1 fm_1 fl_1 fw_1 m_isKept m_many m_width := by
      rw [hrel.1, hrel.2.1, hrel.2.2.1, hrel.2.2.2]
      exact hRR
    refine lv_pop hx hb dL_law_496 rfl ?_
    refine lv_goto (tgt := 1930) hx hb dL_law_497 (by decide) ?_
    exact kk _ _ _ _ ⟨sl, ke_1, fm_1, fl_1, fw_1, m_isKept, m_many, m_width, hXE2, hB, hRR2, Nat.le_trans hSZ hz1, hsl, hce, hso⟩ hS1
  refine va_calli (va_runV (As := [.int v_1, .int v_2]) (rest := []) ⟨hx, hb, hml, hown, hts⟩ (wx_suits l dC dI cyI cyB cyJ cyZ cyH cyN cyM tR tF aK aV tg H.size x0 sl ke_f s_fm s_fl s_fw v_1 v_2) (cwV 2 hts (gdV wd_3_52 wd_3_53 wd_3_54 wd_1_1 wd_3_55) rfl rfl rfl (by decide +kernel) ⟨Nat.le_of_ble_eq_true rfl, Nat.le_of_ble_eq_true rfl⟩) (xp_pre hFIX hS hXE) rfl rfl hl.1 rfl (lv_room (Nat.le_of_ble_eq_true rfl)) dL_law_478 ⟨show cells + 0 ≤ 600000 by omega, show slots + 0 ≤ 7302250 by omega⟩) hS (fun q _ h => ax_old hFIX hS q h) (ax_old hFIX hS) (fun r1 u t H1 locs1 ht hvm hw hB hz1 hk1 hS1 => ?_)
  replace hB : XE dC dI cyI cyB cyJ cyZ cyH cyN cyM tg x0 sl ke_f s_fm s_fl s_fw t.heap := hB
  rw [ht] at hB
  exact cont r1 H1 locs1 _ _ sl ke_f s_fm s_fl s_fw trivial ⟨rfl, rfl, rfl, rfl⟩ hB (hMI.go (fun q h1 h2 => hk1 q h1 (ax_not h1 h2))) (Nat.le_trans hSZ hz1) hsl (by omega) (by omega) hS1
set_option maxHeartbeats 4000000 in
set_option maxRecDepth 100000 in
theorem law_c6 {p : Program} {l : Launch} {e : Env} {s : State} {m : MethodId} {below : List Frame} {meth : Method} {c : Code} {b L : Nat} {xs : Nat → Int32} (hL : L ≤ 3072) (C0 : lw_At p s m meth c b L xs) {dC : Nat → ClassId} {dI : Nat → Nat → Nat} {cyI cyB cyJ cyZ cyH cyN cyM : ClassId} {tR tF : Nat} {aK aV : Nat → Nat} {tg : Nat → Nat} {SZ x0 m0 : Nat} (hFIX : FIX dC dI cyI cyB cyJ cyZ cyH cyN cyM tR tF aK aV tg SZ s) {i : Int32} (hi0 : 0 ≤ i.toInt) (hi : i.toInt + 6 ≤ (L : Int)) {ls : Array Slot} (hl : lv_has ls 4 [(3, .int i), (2, .ref m0), (1, .ref x0), (0, .ref b)]) (kk : ∀ (H : Heap) (locs : List Loc) (cells slots : Nat), INV dC dI cyI cyB cyJ cyZ cyH cyN cyM tg SZ x0 m0 H cells slots → va_S (fun q : Nat => s.heap.size ≤ q) s.heap H locs → W p l e room_1 s m #[Value.ref b] below meth c H locs cells slots (lw_Z below #[Value.ref b] s) (F0 m 1930 ls [])) {H : Heap} {locs : List Loc} {cells slots : Nat} (hI : INV dC dI cyI cyB cyJ cyZ cyH cyN cyM tg SZ x0 m0 H cells slots) (hS : va_S (fun q : Nat => s.heap.size ≤ q) s.heap H locs) : W p l e room_1 s m #[Value.ref b] below meth c H locs cells slots (lw_Z below #[Value.ref b] s) (F0 m 500 ls []) := by
  obtain ⟨hx, hb, hr, hml, hown, hts0, hX, hbl, hlocks, hgv⟩ := id C0
  have hts : ∀ w ∈ uU, w.before #[Value.ref b] s = true := fun w h => hts0 w (uU_in h)
  have hbA : ¬ (fun q : Nat => s.heap.size ≤ q) b := Nat.not_le.mpr hbl
  refine lv_aload_n hx hb dL_law_500 rfl (lv_at hl 2 rfl) ?_
  refine lv_aload_n hx hb dL_law_501 rfl (lv_at hl 3 rfl) ?_
  refine lv_iload_n hx hb dL_law_502 rfl (lv_at hl 0 rfl) ?_
  refine lv_iconst (v := 1) hx hb dL_law_503 (by decide) ?_
  refine lv_iadd hx hb dL_law_504 ?_
  refine va_sld hx hb hX hbl hbA hS (lw_ix hi0 hi hL (by decide)) dL_law_505 ?_
  refine lv_topi (fun v_1 ev_1 => ?_)
  obtain ⟨sl, ke_f, s_fm, s_fl, s_fw, m_isKept, m_many, m_width, hXE, hMI, hRR, hSZ, hsl, hce, hso⟩ := hI
  have cont : ∀ (r : Int32) (H : Heap) (locs : List Loc) (cells slots sl : Nat) (ke_1 fm_1 fl_1 fw_1 : Nat → Int32), (True) → (ke_1 = ke_f ∧ fm_1 = s_fm ∧ fl_1 = s_fl ∧ fw_1 = s_fw) → XE dC dI cyI cyB cyJ cyZ cyH cyN cyM tg x0 sl ke_1 fm_1 fl_1 fw_1 H → MI dC dI cyI cyB cyJ cyZ cyH cyN cyM tg m0 m_isKept m_many m_width H → SZ ≤ H.size → (sl = 0 ∨ sl = 1) → cells ≤ 110 + 16 * sl → slots ≤ 15598 + 40501 * sl → va_S (fun q : Nat => s.heap.size ≤ q) s.heap H locs → W p l e room_1 s m #[Value.ref b] below meth c H locs cells slots (lw_Z below #[Value.ref b] s) (F0 m 509 ls [.int r]) := by
    intro r H locs cells slots sl ke_1 fm_1 fl_1 fw_1 hw1 hrel hXE hMI hSZ hsl hce hso hS
    refine lv_pop hx hb dL_law_509 rfl ?_
    refine lv_aload_n hx hb dL_law_510 rfl (lv_at hl 1 rfl) ?_
    refine lv_aload_n hx hb dL_law_511 rfl (lv_at hl 3 rfl) ?_
    refine lv_iload_n hx hb dL_law_512 rfl (lv_at hl 0 rfl) ?_
    refine lv_iconst (v := 1) hx hb dL_law_513 (by decide) ?_
    refine lv_iadd hx hb dL_law_514 ?_
    refine va_sld hx hb hX hbl hbA hS (lw_ix hi0 hi hL (by decide)) dL_law_515 ?_
    refine lv_topi (fun v_101 ev_101 => ?_)
    refine va_calli (va_runV (As := [.int v_101]) (rest := []) ⟨hx, hb, hml, hown, hts⟩ (wm_apart l dC dI cyI cyB cyJ cyZ cyH cyN cyM tg H.size m0 m_isKept m_many m_width v_101) (cwV 1 hts (gdV wd_7_90 wd_7_91 wd_7_92 wd_1_11 wd_7_93) rfl rfl rfl (by decide +kernel) ⟨Nat.le_of_ble_eq_true rfl, Nat.le_of_ble_eq_true rfl⟩) (mp_pre hFIX hMI) rfl rfl hl.1 rfl (lv_room (Nat.le_of_ble_eq_true rfl)) dL_law_516 ⟨show cells + 0 ≤ 600000 by omega, show slots + 0 ≤ 7302250 by omega⟩) hS (fun q _ h => am_old hFIX hS q h) (am_old hFIX hS) (fun r2 u t H1 locs1 ht hvm hw hB hz1 hk1 hS1 => ?_)
    replace hB : MI dC dI cyI cyB cyJ cyZ cyH cyN cyM tg m0 m_isKept m_many m_width t.heap := hB
    rw [ht] at hB
    have hXE2 := hXE.go (fun q h1 h2 => hk1 q h1 (am_not h1 h2))
    have hRR2 : RR ke_1 fm_1 fl_1 fw_1 m_isKept m_many m_width := by
      rw [hrel.1, hrel.2.1, hrel.2.2.1, hrel.2.2.2]
      exact hRR
    refine lv_pop hx hb dL_law_519 rfl ?_
    refine lv_goto (tgt := 1930) hx hb dL_law_520 (by decide) ?_
    exact kk _ _ _ _ ⟨sl, ke_1, fm_1, fl_1, fw_1, m_isKept, m_many, m_width, hXE2, hB, hRR2, Nat.le_trans hSZ hz1, hsl, hce, hso⟩ hS1
  refine va_calli (va_runV (As := [.int v_1]) (rest := []) ⟨hx, hb, hml, hown, hts⟩ (wx_apart l dC dI cyI cyB cyJ cyZ cyH cyN cyM tR tF aK aV tg H.size x0 sl ke_f s_fm s_fl s_fw v_1) (cwV 1 hts (gdV wd_3_64 wd_3_65 wd_3_66 wd_1_1 wd_3_67) rfl rfl rfl (by decide +kernel) ⟨Nat.le_of_ble_eq_true rfl, Nat.le_of_ble_eq_true rfl⟩) (xp_pre hFIX hS hXE) rfl rfl hl.1 rfl (lv_room (Nat.le_of_ble_eq_true rfl)) dL_law_506 ⟨show cells + 0 ≤ 600000 by omega, show slots + 0 ≤ 7302250 by omega⟩) hS (fun q _ h => ax_old hFIX hS q h) (ax_old hFIX hS) (fun r1 u t H1 locs1 ht hvm hw hB hz1 hk1 hS1 => ?_)
  replace hB : XE dC dI cyI cyB cyJ cyZ cyH cyN cyM tg x0 sl ke_f s_fm s_fl s_fw t.heap := hB
  rw [ht] at hB
  exact cont r1 H1 locs1 _ _ sl ke_f s_fm s_fl s_fw trivial ⟨rfl, rfl, rfl, rfl⟩ hB (hMI.go (fun q h1 h2 => hk1 q h1 (ax_not h1 h2))) (Nat.le_trans hSZ hz1) hsl (by omega) (by omega) hS1
set_option maxHeartbeats 4000000 in
set_option maxRecDepth 100000 in
theorem law_c7 {p : Program} {l : Launch} {e : Env} {s : State} {m : MethodId} {below : List Frame} {meth : Method} {c : Code} {b L : Nat} {xs : Nat → Int32} (hL : L ≤ 3072) (C0 : lw_At p s m meth c b L xs) {dC : Nat → ClassId} {dI : Nat → Nat → Nat} {cyI cyB cyJ cyZ cyH cyN cyM : ClassId} {tR tF : Nat} {aK aV : Nat → Nat} {tg : Nat → Nat} {SZ x0 m0 : Nat} (hFIX : FIX dC dI cyI cyB cyJ cyZ cyH cyN cyM tR tF aK aV tg SZ s) {i : Int32} (hi0 : 0 ≤ i.toInt) (hi : i.toInt + 6 ≤ (L : Int)) {ls : Array Slot} (hl : lv_has ls 4 [(3, .int i), (2, .ref m0), (1, .ref x0), (0, .ref b)]) (kk : ∀ (H : Heap) (locs : List Loc) (cells slots : Nat), INV dC dI cyI cyB cyJ cyZ cyH cyN cyM tg SZ x0 m0 H cells slots → va_S (fun q : Nat => s.heap.size ≤ q) s.heap H locs → W p l e room_1 s m #[Value.ref b] below meth c H locs cells slots (lw_Z below #[Value.ref b] s) (F0 m 1930 ls [])) {H : Heap} {locs : List Loc} {cells slots : Nat} (hI : INV dC dI cyI cyB cyJ cyZ cyH cyN cyM tg SZ x0 m0 H cells slots) (hS : va_S (fun q : Nat => s.heap.size ≤ q) s.heap H locs) : W p l e room_1 s m #[Value.ref b] below meth c H locs cells slots (lw_Z below #[Value.ref b] s) (F0 m 523 ls []) := by
  obtain ⟨hx, hb, hr, hml, hown, hts0, hX, hbl, hlocks, hgv⟩ := id C0
  have hts : ∀ w ∈ uU, w.before #[Value.ref b] s = true := fun w h => hts0 w (uU_in h)
  have hbA : ¬ (fun q : Nat => s.heap.size ≤ q) b := Nat.not_le.mpr hbl
  refine lv_aload_n hx hb dL_law_523 rfl (lv_at hl 2 rfl) ?_
  refine lv_aload_n hx hb dL_law_524 rfl (lv_at hl 3 rfl) ?_
  refine lv_iload_n hx hb dL_law_525 rfl (lv_at hl 0 rfl) ?_
  refine lv_iconst (v := 1) hx hb dL_law_526 (by decide) ?_
  refine lv_iadd hx hb dL_law_527 ?_
  refine va_sld hx hb hX hbl hbA hS (lw_ix hi0 hi hL (by decide)) dL_law_528 ?_
  refine lv_topi (fun v_1 ev_1 => ?_)
  obtain ⟨sl, ke_f, s_fm, s_fl, s_fw, m_isKept, m_many, m_width, hXE, hMI, hRR, hSZ, hsl, hce, hso⟩ := hI
  have cont : ∀ (r : Int32) (H : Heap) (locs : List Loc) (cells slots sl : Nat) (ke_1 fm_1 fl_1 fw_1 : Nat → Int32), (True) → (ke_1 = ke_f ∧ fm_1 = s_fm ∧ fl_1 = s_fl ∧ fw_1 = s_fw) → XE dC dI cyI cyB cyJ cyZ cyH cyN cyM tg x0 sl ke_1 fm_1 fl_1 fw_1 H → MI dC dI cyI cyB cyJ cyZ cyH cyN cyM tg m0 m_isKept m_many m_width H → SZ ≤ H.size → (sl = 0 ∨ sl = 1) → cells ≤ 110 + 16 * sl → slots ≤ 15598 + 40501 * sl → va_S (fun q : Nat => s.heap.size ≤ q) s.heap H locs → W p l e room_1 s m #[Value.ref b] below meth c H locs cells slots (lw_Z below #[Value.ref b] s) (F0 m 532 ls [.int r]) := by
    intro r H locs cells slots sl ke_1 fm_1 fl_1 fw_1 hw1 hrel hXE hMI hSZ hsl hce hso hS
    refine lv_pop hx hb dL_law_532 rfl ?_
    refine lv_aload_n hx hb dL_law_533 rfl (lv_at hl 1 rfl) ?_
    refine lv_aload_n hx hb dL_law_534 rfl (lv_at hl 3 rfl) ?_
    refine lv_iload_n hx hb dL_law_535 rfl (lv_at hl 0 rfl) ?_
    refine lv_iconst (v := 1) hx hb dL_law_536 (by decide) ?_
    refine lv_iadd hx hb dL_law_537 ?_
    refine va_sld hx hb hX hbl hbA hS (lw_ix hi0 hi hL (by decide)) dL_law_538 ?_
    refine lv_topi (fun v_101 ev_101 => ?_)
    refine va_calli (va_runV (As := [.int v_101]) (rest := []) ⟨hx, hb, hml, hown, hts⟩ (wm_at l dC dI cyI cyB cyJ cyZ cyH cyN cyM tg H.size m0 m_isKept m_many m_width v_101) (cwV 1 hts (gdV wd_7_94 wd_7_95 wd_7_96 wd_1_11 wd_7_97) rfl rfl rfl (by decide +kernel) ⟨Nat.le_of_ble_eq_true rfl, Nat.le_of_ble_eq_true rfl⟩) (mp_pre hFIX hMI) rfl rfl hl.1 rfl (lv_room (Nat.le_of_ble_eq_true rfl)) dL_law_539 ⟨show cells + 0 ≤ 600000 by omega, show slots + 0 ≤ 7302250 by omega⟩) hS (fun q _ h => am_old hFIX hS q h) (am_old hFIX hS) (fun r2 u t H1 locs1 ht hvm hw hB hz1 hk1 hS1 => ?_)
    replace hB : MI dC dI cyI cyB cyJ cyZ cyH cyN cyM tg m0 m_isKept m_many m_width t.heap := hB
    rw [ht] at hB
    have hXE2 := hXE.go (fun q h1 h2 => hk1 q h1 (am_not h1 h2))
    have hRR2 : RR ke_1 fm_1 fl_1 fw_1 m_isKept m_many m_width := by
      rw [hrel.1, hrel.2.1, hrel.2.2.1, hrel.2.2.2]
      exact hRR
    refine lv_pop hx hb dL_law_542 rfl ?_
    refine lv_goto (tgt := 1930) hx hb dL_law_543 (by decide) ?_
    exact kk _ _ _ _ ⟨sl, ke_1, fm_1, fl_1, fw_1, m_isKept, m_many, m_width, hXE2, hB, hRR2, Nat.le_trans hSZ hz1, hsl, hce, hso⟩ hS1
  refine va_calli (va_runV (As := [.int v_1]) (rest := []) ⟨hx, hb, hml, hown, hts⟩ (wx_at l dC dI cyI cyB cyJ cyZ cyH cyN cyM tR tF aK aV tg H.size x0 sl ke_f s_fm s_fl s_fw v_1) (cwV 1 hts (gdV wd_3_68 wd_3_69 wd_3_70 wd_1_1 wd_3_71) rfl rfl rfl (by decide +kernel) ⟨Nat.le_of_ble_eq_true rfl, Nat.le_of_ble_eq_true rfl⟩) (xp_pre hFIX hS hXE) rfl rfl hl.1 rfl (lv_room (Nat.le_of_ble_eq_true rfl)) dL_law_529 ⟨show cells + 0 ≤ 600000 by omega, show slots + 0 ≤ 7302250 by omega⟩) hS (fun q _ h => ax_old hFIX hS q h) (ax_old hFIX hS) (fun r1 u t H1 locs1 ht hvm hw hB hz1 hk1 hS1 => ?_)
  replace hB : XE dC dI cyI cyB cyJ cyZ cyH cyN cyM tg x0 sl ke_f s_fm s_fl s_fw t.heap := hB
  rw [ht] at hB
  exact cont r1 H1 locs1 _ _ sl ke_f s_fm s_fl s_fw trivial ⟨rfl, rfl, rfl, rfl⟩ hB (hMI.go (fun q h1 h2 => hk1 q h1 (ax_not h1 h2))) (Nat.le_trans hSZ hz1) hsl (by omega) (by omega) hS1
set_option maxHeartbeats 4000000 in
set_option maxRecDepth 100000 in
theorem law_c8 {p : Program} {l : Launch} {e : Env} {s : State} {m : MethodId} {below : List Frame} {meth : Method} {c : Code} {b L : Nat} {xs : Nat → Int32} (hL : L ≤ 3072) (C0 : lw_At p s m meth c b L xs) {dC : Nat → ClassId} {dI : Nat → Nat → Nat} {cyI cyB cyJ cyZ cyH cyN cyM : ClassId} {tR tF : Nat} {aK aV : Nat → Nat} {tg : Nat → Nat} {SZ x0 m0 : Nat} (hFIX : FIX dC dI cyI cyB cyJ cyZ cyH cyN cyM tR tF aK aV tg SZ s) {i : Int32} (hi0 : 0 ≤ i.toInt) (hi : i.toInt + 6 ≤ (L : Int)) {ls : Array Slot} (hl : lv_has ls 4 [(3, .int i), (2, .ref m0), (1, .ref x0), (0, .ref b)]) (kk : ∀ (H : Heap) (locs : List Loc) (cells slots : Nat), INV dC dI cyI cyB cyJ cyZ cyH cyN cyM tg SZ x0 m0 H cells slots → va_S (fun q : Nat => s.heap.size ≤ q) s.heap H locs → W p l e room_1 s m #[Value.ref b] below meth c H locs cells slots (lw_Z below #[Value.ref b] s) (F0 m 1930 ls [])) {H : Heap} {locs : List Loc} {cells slots : Nat} (hI : INV dC dI cyI cyB cyJ cyZ cyH cyN cyM tg SZ x0 m0 H cells slots) (hS : va_S (fun q : Nat => s.heap.size ≤ q) s.heap H locs) : W p l e room_1 s m #[Value.ref b] below meth c H locs cells slots (lw_Z below #[Value.ref b] s) (F0 m 546 ls []) := by
  obtain ⟨hx, hb, hr, hml, hown, hts0, hX, hbl, hlocks, hgv⟩ := id C0
  have hts : ∀ w ∈ uU, w.before #[Value.ref b] s = true := fun w h => hts0 w (uU_in h)
  have hbA : ¬ (fun q : Nat => s.heap.size ≤ q) b := Nat.not_le.mpr hbl
  refine lv_aload_n hx hb dL_law_546 rfl (lv_at hl 2 rfl) ?_
  refine lv_aload_n hx hb dL_law_547 rfl (lv_at hl 3 rfl) ?_
  refine lv_iload_n hx hb dL_law_548 rfl (lv_at hl 0 rfl) ?_
  refine lv_iconst (v := 1) hx hb dL_law_549 (by decide) ?_
  refine lv_iadd hx hb dL_law_550 ?_
  refine va_sld hx hb hX hbl hbA hS (lw_ix hi0 hi hL (by decide)) dL_law_551 ?_
  refine lv_topi (fun v_1 ev_1 => ?_)
  obtain ⟨sl, ke_f, s_fm, s_fl, s_fw, m_isKept, m_many, m_width, hXE, hMI, hRR, hSZ, hsl, hce, hso⟩ := hI
  have cont : ∀ (r : Int32) (H : Heap) (locs : List Loc) (cells slots sl : Nat) (ke_1 fm_1 fl_1 fw_1 : Nat → Int32), (True) → (ke_1 = ke_f ∧ fm_1 = s_fm ∧ fl_1 = s_fl ∧ fw_1 = s_fw) → XE dC dI cyI cyB cyJ cyZ cyH cyN cyM tg x0 sl ke_1 fm_1 fl_1 fw_1 H → MI dC dI cyI cyB cyJ cyZ cyH cyN cyM tg m0 m_isKept m_many m_width H → SZ ≤ H.size → (sl = 0 ∨ sl = 1) → cells ≤ 110 + 16 * sl → slots ≤ 15598 + 40501 * sl → va_S (fun q : Nat => s.heap.size ≤ q) s.heap H locs → W p l e room_1 s m #[Value.ref b] below meth c H locs cells slots (lw_Z below #[Value.ref b] s) (F0 m 555 ls [.int r]) := by
    intro r H locs cells slots sl ke_1 fm_1 fl_1 fw_1 hw1 hrel hXE hMI hSZ hsl hce hso hS
    refine lv_pop hx hb dL_law_555 rfl ?_
    refine lv_aload_n hx hb dL_law_556 rfl (lv_at hl 1 rfl) ?_
    refine lv_aload_n hx hb dL_law_557 rfl (lv_at hl 3 rfl) ?_
    refine lv_iload_n hx hb dL_law_558 rfl (lv_at hl 0 rfl) ?_
    refine lv_iconst (v := 1) hx hb dL_law_559 (by decide) ?_
    refine lv_iadd hx hb dL_law_560 ?_
    refine va_sld hx hb hX hbl hbA hS (lw_ix hi0 hi hL (by decide)) dL_law_561 ?_
    refine lv_topi (fun v_101 ev_101 => ?_)
    refine va_calli (va_runV (As := [.int v_101]) (rest := []) ⟨hx, hb, hml, hown, hts⟩ (wm_where l dC dI cyI cyB cyJ cyZ cyH cyN cyM tg H.size m0 m_isKept m_many m_width v_101) (cwV 1 hts (gdV wd_7_116 wd_7_117 wd_7_118 wd_1_11 wd_7_119) rfl rfl rfl (by decide +kernel) ⟨Nat.le_of_ble_eq_true rfl, Nat.le_of_ble_eq_true rfl⟩) (mp_pre hFIX hMI) rfl rfl hl.1 rfl (lv_room (Nat.le_of_ble_eq_true rfl)) dL_law_562 ⟨show cells + 0 ≤ 600000 by omega, show slots + 0 ≤ 7302250 by omega⟩) hS (fun q _ h => am_old hFIX hS q h) (am_old hFIX hS) (fun r2 u t H1 locs1 ht hvm hw hB hz1 hk1 hS1 => ?_)
    replace hB : MI dC dI cyI cyB cyJ cyZ cyH cyN cyM tg m0 m_isKept m_many m_width t.heap := hB
    rw [ht] at hB
    have hXE2 := hXE.go (fun q h1 h2 => hk1 q h1 (am_not h1 h2))
    have hRR2 : RR ke_1 fm_1 fl_1 fw_1 m_isKept m_many m_width := by
      rw [hrel.1, hrel.2.1, hrel.2.2.1, hrel.2.2.2]
      exact hRR
    refine lv_pop hx hb dL_law_565 rfl ?_
    refine lv_goto (tgt := 1930) hx hb dL_law_566 (by decide) ?_
    exact kk _ _ _ _ ⟨sl, ke_1, fm_1, fl_1, fw_1, m_isKept, m_many, m_width, hXE2, hB, hRR2, Nat.le_trans hSZ hz1, hsl, hce, hso⟩ hS1
  refine va_calli (va_runV (As := [.int v_1]) (rest := []) ⟨hx, hb, hml, hown, hts⟩ (wx_where l dC dI cyI cyB cyJ cyZ cyH cyN cyM tR tF aK aV tg H.size x0 sl ke_f s_fm s_fl s_fw v_1) (cwV 1 hts (gdV wd_3_72 wd_3_73 wd_3_74 wd_1_1 wd_3_75) rfl rfl rfl (by decide +kernel) ⟨Nat.le_of_ble_eq_true rfl, Nat.le_of_ble_eq_true rfl⟩) (xp_pre hFIX hS hXE) rfl rfl hl.1 rfl (lv_room (Nat.le_of_ble_eq_true rfl)) dL_law_552 ⟨show cells + 0 ≤ 600000 by omega, show slots + 0 ≤ 7302250 by omega⟩) hS (fun q _ h => ax_old hFIX hS q h) (ax_old hFIX hS) (fun r1 u t H1 locs1 ht hvm hw hB hz1 hk1 hS1 => ?_)
  replace hB : XE dC dI cyI cyB cyJ cyZ cyH cyN cyM tg x0 sl ke_f s_fm s_fl s_fw t.heap := hB
  rw [ht] at hB
  exact cont r1 H1 locs1 _ _ sl ke_f s_fm s_fl s_fw trivial ⟨rfl, rfl, rfl, rfl⟩ hB (hMI.go (fun q h1 h2 => hk1 q h1 (ax_not h1 h2))) (Nat.le_trans hSZ hz1) hsl (by omega) (by omega) hS1
set_option maxHeartbeats 4000000 in
set_option maxRecDepth 100000 in
theorem law_c9 {p : Program} {l : Launch} {e : Env} {s : State} {m : MethodId} {below : List Frame} {meth : Method} {c : Code} {b L : Nat} {xs : Nat → Int32} (hL : L ≤ 3072) (C0 : lw_At p s m meth c b L xs) {dC : Nat → ClassId} {dI : Nat → Nat → Nat} {cyI cyB cyJ cyZ cyH cyN cyM : ClassId} {tR tF : Nat} {aK aV : Nat → Nat} {tg : Nat → Nat} {SZ x0 m0 : Nat} (hFIX : FIX dC dI cyI cyB cyJ cyZ cyH cyN cyM tR tF aK aV tg SZ s) {i : Int32} (hi0 : 0 ≤ i.toInt) (hi : i.toInt + 6 ≤ (L : Int)) {ls : Array Slot} (hl : lv_has ls 4 [(3, .int i), (2, .ref m0), (1, .ref x0), (0, .ref b)]) (kk : ∀ (H : Heap) (locs : List Loc) (cells slots : Nat), INV dC dI cyI cyB cyJ cyZ cyH cyN cyM tg SZ x0 m0 H cells slots → va_S (fun q : Nat => s.heap.size ≤ q) s.heap H locs → W p l e room_1 s m #[Value.ref b] below meth c H locs cells slots (lw_Z below #[Value.ref b] s) (F0 m 1930 ls [])) {H : Heap} {locs : List Loc} {cells slots : Nat} (hI : INV dC dI cyI cyB cyJ cyZ cyH cyN cyM tg SZ x0 m0 H cells slots) (hS : va_S (fun q : Nat => s.heap.size ≤ q) s.heap H locs) : W p l e room_1 s m #[Value.ref b] below meth c H locs cells slots (lw_Z below #[Value.ref b] s) (F0 m 569 ls []) := by
  obtain ⟨hx, hb, hr, hml, hown, hts0, hX, hbl, hlocks, hgv⟩ := id C0
  have hts : ∀ w ∈ uU, w.before #[Value.ref b] s = true := fun w h => hts0 w (uU_in h)
  have hbA : ¬ (fun q : Nat => s.heap.size ≤ q) b := Nat.not_le.mpr hbl
  refine lv_aload_n hx hb dL_law_569 rfl (lv_at hl 2 rfl) ?_
  refine lv_aload_n hx hb dL_law_570 rfl (lv_at hl 3 rfl) ?_
  refine lv_iload_n hx hb dL_law_571 rfl (lv_at hl 0 rfl) ?_
  refine lv_iconst (v := 1) hx hb dL_law_572 (by decide) ?_
  refine lv_iadd hx hb dL_law_573 ?_
  refine va_sld hx hb hX hbl hbA hS (lw_ix hi0 hi hL (by decide)) dL_law_574 ?_
  refine lv_topi (fun v_1 ev_1 => ?_)
  refine lv_aload_n hx hb dL_law_575 rfl (lv_at hl 3 rfl) ?_
  refine lv_iload_n hx hb dL_law_576 rfl (lv_at hl 0 rfl) ?_
  refine lv_iconst (v := 2) hx hb dL_law_577 (by decide) ?_
  refine lv_iadd hx hb dL_law_578 ?_
  refine va_sld hx hb hX hbl hbA hS (lw_ix hi0 hi hL (by decide)) dL_law_579 ?_
  refine lv_topi (fun v_2 ev_2 => ?_)
  obtain ⟨sl, ke_f, s_fm, s_fl, s_fw, m_isKept, m_many, m_width, hXE, hMI, hRR, hSZ, hsl, hce, hso⟩ := hI
  have cont : ∀ (r : Int32) (H : Heap) (locs : List Loc) (cells slots sl : Nat) (ke_1 fm_1 fl_1 fw_1 : Nat → Int32), (True) → (ke_1 = ke_f ∧ fm_1 = s_fm ∧ fl_1 = s_fl ∧ fw_1 = s_fw) → XE dC dI cyI cyB cyJ cyZ cyH cyN cyM tg x0 sl ke_1 fm_1 fl_1 fw_1 H → MI dC dI cyI cyB cyJ cyZ cyH cyN cyM tg m0 m_isKept m_many m_width H → SZ ≤ H.size → (sl = 0 ∨ sl = 1) → cells ≤ 110 + 16 * sl → slots ≤ 15598 + 40501 * sl → va_S (fun q : Nat => s.heap.size ≤ q) s.heap H locs → W p l e room_1 s m #[Value.ref b] below meth c H locs cells slots (lw_Z below #[Value.ref b] s) (F0 m 583 ls [.int r]) := by
    intro r H locs cells slots sl ke_1 fm_1 fl_1 fw_1 hw1 hrel hXE hMI hSZ hsl hce hso hS
    refine lv_pop hx hb dL_law_583 rfl ?_
    refine lv_aload_n hx hb dL_law_584 rfl (lv_at hl 1 rfl) ?_
    refine lv_aload_n hx hb dL_law_585 rfl (lv_at hl 3 rfl) ?_
    refine lv_iload_n hx hb dL_law_586 rfl (lv_at hl 0 rfl) ?_
    refine lv_iconst (v := 1) hx hb dL_law_587 (by decide) ?_
    refine lv_iadd hx hb dL_law_588 ?_
    refine va_sld hx hb hX hbl hbA hS (lw_ix hi0 hi hL (by decide)) dL_law_589 ?_
    refine lv_topi (fun v_101 ev_101 => ?_)
    refine lv_aload_n hx hb dL_law_590 rfl (lv_at hl 3 rfl) ?_
    refine lv_iload_n hx hb dL_law_591 rfl (lv_at hl 0 rfl) ?_
    refine lv_iconst (v := 2) hx hb dL_law_592 (by decide) ?_
    refine lv_iadd hx hb dL_law_593 ?_
    refine va_sld hx hb hX hbl hbA hS (lw_ix hi0 hi hL (by decide)) dL_law_594 ?_
    refine lv_topi (fun v_102 ev_102 => ?_)
    refine va_calli (va_runV (As := [.int v_101, .int v_102]) (rest := []) ⟨hx, hb, hml, hown, hts⟩ (wm_later l dC dI cyI cyB cyJ cyZ cyH cyN cyM tg H.size m0 m_isKept m_many m_width v_101 v_102) (cwV 2 hts (gdV wd_7_124 wd_7_125 wd_7_126 wd_1_11 wd_7_127) rfl rfl rfl (by decide +kernel) ⟨Nat.le_of_ble_eq_true rfl, Nat.le_of_ble_eq_true rfl⟩) (mp_pre hFIX hMI) rfl rfl hl.1 rfl (lv_room (Nat.le_of_ble_eq_true rfl)) dL_law_595 ⟨show cells + 0 ≤ 600000 by omega, show slots + 0 ≤ 7302250 by omega⟩) hS (fun q _ h => am_old hFIX hS q h) (am_old hFIX hS) (fun r2 u t H1 locs1 ht hvm hw hB hz1 hk1 hS1 => ?_)
    replace hB : MI dC dI cyI cyB cyJ cyZ cyH cyN cyM tg m0 m_isKept m_many m_width t.heap := hB
    rw [ht] at hB
    have hXE2 := hXE.go (fun q h1 h2 => hk1 q h1 (am_not h1 h2))
    have hRR2 : RR ke_1 fm_1 fl_1 fw_1 m_isKept m_many m_width := by
      rw [hrel.1, hrel.2.1, hrel.2.2.1, hrel.2.2.2]
      exact hRR
    refine lv_pop hx hb dL_law_598 rfl ?_
    refine lv_goto (tgt := 1930) hx hb dL_law_599 (by decide) ?_
    exact kk _ _ _ _ ⟨sl, ke_1, fm_1, fl_1, fw_1, m_isKept, m_many, m_width, hXE2, hB, hRR2, Nat.le_trans hSZ hz1, hsl, hce, hso⟩ hS1
  refine va_calli (va_runV (As := [.int v_1, .int v_2]) (rest := []) ⟨hx, hb, hml, hown, hts⟩ (wx_later l dC dI cyI cyB cyJ cyZ cyH cyN cyM tR tF aK aV tg H.size x0 sl ke_f s_fm s_fl s_fw v_1 v_2) (cwV 2 hts (gdV wd_3_83 wd_3_84 wd_3_85 wd_1_1 wd_3_86) rfl rfl rfl (by decide +kernel) ⟨Nat.le_of_ble_eq_true rfl, Nat.le_of_ble_eq_true rfl⟩) (xp_pre hFIX hS hXE) rfl rfl hl.1 rfl (lv_room (Nat.le_of_ble_eq_true rfl)) dL_law_580 ⟨show cells + 0 ≤ 600000 by omega, show slots + 0 ≤ 7302250 by omega⟩) hS (fun q _ h => ax_old hFIX hS q h) (ax_old hFIX hS) (fun r1 u t H1 locs1 ht hvm hw hB hz1 hk1 hS1 => ?_)
  replace hB : XE dC dI cyI cyB cyJ cyZ cyH cyN cyM tg x0 sl ke_f s_fm s_fl s_fw t.heap := hB
  rw [ht] at hB
  exact cont r1 H1 locs1 _ _ sl ke_f s_fm s_fl s_fw trivial ⟨rfl, rfl, rfl, rfl⟩ hB (hMI.go (fun q h1 h2 => hk1 q h1 (ax_not h1 h2))) (Nat.le_trans hSZ hz1) hsl (by omega) (by omega) hS1
set_option maxHeartbeats 4000000 in
set_option maxRecDepth 100000 in
theorem law_c10 {p : Program} {l : Launch} {e : Env} {s : State} {m : MethodId} {below : List Frame} {meth : Method} {c : Code} {b L : Nat} {xs : Nat → Int32} (hL : L ≤ 3072) (C0 : lw_At p s m meth c b L xs) {dC : Nat → ClassId} {dI : Nat → Nat → Nat} {cyI cyB cyJ cyZ cyH cyN cyM : ClassId} {tR tF : Nat} {aK aV : Nat → Nat} {tg : Nat → Nat} {SZ x0 m0 : Nat} (hFIX : FIX dC dI cyI cyB cyJ cyZ cyH cyN cyM tR tF aK aV tg SZ s) {i : Int32} (hi0 : 0 ≤ i.toInt) (hi : i.toInt + 6 ≤ (L : Int)) {ls : Array Slot} (hl : lv_has ls 4 [(3, .int i), (2, .ref m0), (1, .ref x0), (0, .ref b)]) (kk : ∀ (H : Heap) (locs : List Loc) (cells slots : Nat), INV dC dI cyI cyB cyJ cyZ cyH cyN cyM tg SZ x0 m0 H cells slots → va_S (fun q : Nat => s.heap.size ≤ q) s.heap H locs → W p l e room_1 s m #[Value.ref b] below meth c H locs cells slots (lw_Z below #[Value.ref b] s) (F0 m 1930 ls [])) {H : Heap} {locs : List Loc} {cells slots : Nat} (hI : INV dC dI cyI cyB cyJ cyZ cyH cyN cyM tg SZ x0 m0 H cells slots) (hS : va_S (fun q : Nat => s.heap.size ≤ q) s.heap H locs) : W p l e room_1 s m #[Value.ref b] below meth c H locs cells slots (lw_Z below #[Value.ref b] s) (F0 m 602 ls []) := by
  obtain ⟨hx, hb, hr, hml, hown, hts0, hX, hbl, hlocks, hgv⟩ := id C0
  have hts : ∀ w ∈ uU, w.before #[Value.ref b] s = true := fun w h => hts0 w (uU_in h)
  have hbA : ¬ (fun q : Nat => s.heap.size ≤ q) b := Nat.not_le.mpr hbl
  refine lv_aload_n hx hb dL_law_602 rfl (lv_at hl 2 rfl) ?_
  refine lv_aload_n hx hb dL_law_603 rfl (lv_at hl 3 rfl) ?_
  refine lv_iload_n hx hb dL_law_604 rfl (lv_at hl 0 rfl) ?_
  refine lv_iconst (v := 1) hx hb dL_law_605 (by decide) ?_
  refine lv_iadd hx hb dL_law_606 ?_
  refine va_sld hx hb hX hbl hbA hS (lw_ix hi0 hi hL (by decide)) dL_law_607 ?_
  refine lv_topi (fun v_1 ev_1 => ?_)
  obtain ⟨sl, ke_f, s_fm, s_fl, s_fw, m_isKept, m_many, m_width, hXE, hMI, hRR, hSZ, hsl, hce, hso⟩ := hI
  have cont : ∀ (r : Int32) (H : Heap) (locs : List Loc) (cells slots sl : Nat) (ke_1 fm_1 fl_1 fw_1 : Nat → Int32), (True) → (ke_1 = ke_f ∧ fm_1 = s_fm ∧ fl_1 = s_fl ∧ fw_1 = s_fw) → XE dC dI cyI cyB cyJ cyZ cyH cyN cyM tg x0 sl ke_1 fm_1 fl_1 fw_1 H → MI dC dI cyI cyB cyJ cyZ cyH cyN cyM tg m0 m_isKept m_many m_width H → SZ ≤ H.size → (sl = 0 ∨ sl = 1) → cells ≤ 110 + 16 * sl → slots ≤ 15598 + 40501 * sl → va_S (fun q : Nat => s.heap.size ≤ q) s.heap H locs → W p l e room_1 s m #[Value.ref b] below meth c H locs cells slots (lw_Z below #[Value.ref b] s) (F0 m 611 ls [.int r]) := by
    intro r H locs cells slots sl ke_1 fm_1 fl_1 fw_1 hw1 hrel hXE hMI hSZ hsl hce hso hS
    refine lv_pop hx hb dL_law_611 rfl ?_
    refine lv_aload_n hx hb dL_law_612 rfl (lv_at hl 1 rfl) ?_
    refine lv_aload_n hx hb dL_law_613 rfl (lv_at hl 3 rfl) ?_
    refine lv_iload_n hx hb dL_law_614 rfl (lv_at hl 0 rfl) ?_
    refine lv_iconst (v := 1) hx hb dL_law_615 (by decide) ?_
    refine lv_iadd hx hb dL_law_616 ?_
    refine va_sld hx hb hX hbl hbA hS (lw_ix hi0 hi hL (by decide)) dL_law_617 ?_
    refine lv_topi (fun v_101 ev_101 => ?_)
    refine va_calli (va_runV (As := [.int v_101]) (rest := []) ⟨hx, hb, hml, hown, hts⟩ (wm_right l dC dI cyI cyB cyJ cyZ cyH cyN cyM tg H.size m0 m_isKept m_many m_width v_101) (cwV 1 hts (gdV wd_7_136 wd_7_137 wd_7_138 wd_1_11 wd_7_139) rfl rfl rfl (by decide +kernel) ⟨Nat.le_of_ble_eq_true rfl, Nat.le_of_ble_eq_true rfl⟩) (mp_pre hFIX hMI) rfl rfl hl.1 rfl (lv_room (Nat.le_of_ble_eq_true rfl)) dL_law_618 ⟨show cells + 0 ≤ 600000 by omega, show slots + 0 ≤ 7302250 by omega⟩) hS (fun q _ h => am_old hFIX hS q h) (am_old hFIX hS) (fun r2 u t H1 locs1 ht hvm hw hB hz1 hk1 hS1 => ?_)
    replace hB : MI dC dI cyI cyB cyJ cyZ cyH cyN cyM tg m0 m_isKept m_many m_width t.heap := hB
    rw [ht] at hB
    have hXE2 := hXE.go (fun q h1 h2 => hk1 q h1 (am_not h1 h2))
    have hRR2 : RR ke_1 fm_1 fl_1 fw_1 m_isKept m_many m_width := by
      rw [hrel.1, hrel.2.1, hrel.2.2.1, hrel.2.2.2]
      exact hRR
    refine lv_pop hx hb dL_law_621 rfl ?_
    refine lv_goto (tgt := 1930) hx hb dL_law_622 (by decide) ?_
    exact kk _ _ _ _ ⟨sl, ke_1, fm_1, fl_1, fw_1, m_isKept, m_many, m_width, hXE2, hB, hRR2, Nat.le_trans hSZ hz1, hsl, hce, hso⟩ hS1
  refine va_calli (va_runV (As := [.int v_1]) (rest := []) ⟨hx, hb, hml, hown, hts⟩ (wx_right l dC dI cyI cyB cyJ cyZ cyH cyN cyM tR tF aK aV tg H.size x0 sl ke_f s_fm s_fl s_fw v_1) (cwV 1 hts (gdV wd_3_126 wd_3_127 wd_3_128 wd_1_1 wd_3_129) rfl rfl rfl (by decide +kernel) ⟨Nat.le_of_ble_eq_true rfl, Nat.le_of_ble_eq_true rfl⟩) (xp_pre hFIX hS hXE) rfl rfl hl.1 rfl (lv_room (Nat.le_of_ble_eq_true rfl)) dL_law_608 ⟨show cells + 0 ≤ 600000 by omega, show slots + 0 ≤ 7302250 by omega⟩) hS (fun q _ h => ax_old hFIX hS q h) (ax_old hFIX hS) (fun r1 u t H1 locs1 ht hvm hw hB hz1 hk1 hS1 => ?_)
  replace hB : XE dC dI cyI cyB cyJ cyZ cyH cyN cyM tg x0 sl ke_f s_fm s_fl s_fw t.heap := hB
  rw [ht] at hB
  exact cont r1 H1 locs1 _ _ sl ke_f s_fm s_fl s_fw trivial ⟨rfl, rfl, rfl, rfl⟩ hB (hMI.go (fun q h1 h2 => hk1 q h1 (ax_not h1 h2))) (Nat.le_trans hSZ hz1) hsl (by omega) (by omega) hS1

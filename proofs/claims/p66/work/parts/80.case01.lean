set_option maxHeartbeats 4000000 in
set_option maxRecDepth 100000 in
theorem law_c11 {p : Program} {l : Launch} {e : Env} {s : State} {m : MethodId} {below : List Frame} {meth : Method} {c : Code} {b L : Nat} {xs : Nat → Int32} (hL : L ≤ 3072) (C0 : lw_At p s m meth c b L xs) {dC : Nat → ClassId} {dI : Nat → Nat → Nat} {cyI cyB cyJ cyZ cyH cyN cyM : ClassId} {tR tF : Nat} {aK aV : Nat → Nat} {tg : Nat → Nat} {SZ x0 m0 : Nat} (hFIX : FIX dC dI cyI cyB cyJ cyZ cyH cyN cyM tR tF aK aV tg SZ s) {i : Int32} (hi0 : 0 ≤ i.toInt) (hi : i.toInt + 6 ≤ (L : Int)) {ls : Array Slot} (hl : lv_has ls 4 [(3, .int i), (2, .ref m0), (1, .ref x0), (0, .ref b)]) (kk : ∀ (H : Heap) (locs : List Loc) (cells slots : Nat), INV dC dI cyI cyB cyJ cyZ cyH cyN cyM tg SZ x0 m0 H cells slots → va_S (fun q : Nat => s.heap.size ≤ q) s.heap H locs → W p l e room_1 s m #[Value.ref b] below meth c H locs cells slots (lw_Z below #[Value.ref b] s) (F0 m 1930 ls [])) {H : Heap} {locs : List Loc} {cells slots : Nat} (hI : INV dC dI cyI cyB cyJ cyZ cyH cyN cyM tg SZ x0 m0 H cells slots) (hS : va_S (fun q : Nat => s.heap.size ≤ q) s.heap H locs) : W p l e room_1 s m #[Value.ref b] below meth c H locs cells slots (lw_Z below #[Value.ref b] s) (F0 m 625 ls []) := by
  obtain ⟨hx, hb, hr, hml, hown, hts0, hX, hbl, hlocks, hgv⟩ := id C0
  have hts : ∀ w ∈ uU, w.before #[Value.ref b] s = true := fun w h => hts0 w (uU_in h)
  have hbA : ¬ (fun q : Nat => s.heap.size ≤ q) b := Nat.not_le.mpr hbl
  refine lv_aload_n hx hb dL_law_625 rfl (lv_at hl 2 rfl) ?_
  obtain ⟨sl, ke_f, s_fm, s_fl, s_fw, m_isKept, m_many, m_width, hXE, hMI, hRR, hSZ, hsl, hce, hso⟩ := hI
  have cont : ∀ (r : Int32) (H : Heap) (locs : List Loc) (cells slots sl : Nat) (ke_1 fm_1 fl_1 fw_1 : Nat → Int32), (True) → (ke_1 = ke_f ∧ fm_1 = s_fm ∧ fl_1 = s_fl ∧ fw_1 = s_fw) → XE dC dI cyI cyB cyJ cyZ cyH cyN cyM tg x0 sl ke_1 fm_1 fl_1 fw_1 H → MI dC dI cyI cyB cyJ cyZ cyH cyN cyM tg m0 m_isKept m_many m_width H → SZ ≤ H.size → (sl = 0 ∨ sl = 1) → cells ≤ 110 + 16 * sl → slots ≤ 15598 + 40501 * sl → va_S (fun q : Nat => s.heap.size ≤ q) s.heap H locs → W p l e room_1 s m #[Value.ref b] below meth c H locs cells slots (lw_Z below #[Value.ref b] s) (F0 m 629 ls [.int r]) := by
    intro r H locs cells slots sl ke_1 fm_1 fl_1 fw_1 hw1 hrel hXE hMI hSZ hsl hce hso hS
    refine lv_pop hx hb dL_law_629 rfl ?_
    refine lv_aload_n hx hb dL_law_630 rfl (lv_at hl 1 rfl) ?_
    refine va_calli (va_runV (As := []) (rest := []) ⟨hx, hb, hml, hown, hts⟩ (wm_rights l dC dI cyI cyB cyJ cyZ cyH cyN cyM tg H.size m0 m_isKept m_many m_width ) (cwV 0 hts (gdV wd_7_151 wd_7_152 wd_7_153 wd_1_11 wd_7_154) rfl rfl rfl (by decide +kernel) ⟨Nat.le_of_ble_eq_true rfl, Nat.le_of_ble_eq_true rfl⟩) (mp_pre hFIX hMI) rfl rfl hl.1 rfl (lv_room (Nat.le_of_ble_eq_true rfl)) dL_law_631 ⟨show cells + 0 ≤ 600000 by omega, show slots + 0 ≤ 7302250 by omega⟩) hS (fun q _ h => am_old hFIX hS q h) (am_old hFIX hS) (fun r2 u t H1 locs1 ht hvm hw hB hz1 hk1 hS1 => ?_)
    replace hB : MI dC dI cyI cyB cyJ cyZ cyH cyN cyM tg m0 m_isKept m_many m_width t.heap := hB
    rw [ht] at hB
    have hXE2 := hXE.go (fun q h1 h2 => hk1 q h1 (am_not h1 h2))
    have hRR2 : RR ke_1 fm_1 fl_1 fw_1 m_isKept m_many m_width := by
      rw [hrel.1, hrel.2.1, hrel.2.2.1, hrel.2.2.2]
      exact hRR
    refine lv_pop hx hb dL_law_634 rfl ?_
    refine lv_goto (tgt := 1930) hx hb dL_law_635 (by decide) ?_
    exact kk _ _ _ _ ⟨sl, ke_1, fm_1, fl_1, fw_1, m_isKept, m_many, m_width, hXE2, hB, hRR2, Nat.le_trans hSZ hz1, hsl, hce, hso⟩ hS1
  refine va_calli (va_runV (As := []) (rest := []) ⟨hx, hb, hml, hown, hts⟩ (wx_rights l dC dI cyI cyB cyJ cyZ cyH cyN cyM tR tF aK aV tg H.size x0 sl ke_f s_fm s_fl s_fw ) (cwV 0 hts (gdV wd_3_146 wd_3_147 wd_3_148 wd_1_1 wd_3_149) rfl rfl rfl (by decide +kernel) ⟨Nat.le_of_ble_eq_true rfl, Nat.le_of_ble_eq_true rfl⟩) (xp_pre hFIX hS hXE) rfl rfl hl.1 rfl (lv_room (Nat.le_of_ble_eq_true rfl)) dL_law_626 ⟨show cells + 0 ≤ 600000 by omega, show slots + 0 ≤ 7302250 by omega⟩) hS (fun q _ h => ax_old hFIX hS q h) (ax_old hFIX hS) (fun r1 u t H1 locs1 ht hvm hw hB hz1 hk1 hS1 => ?_)
  replace hB : XE dC dI cyI cyB cyJ cyZ cyH cyN cyM tg x0 sl ke_f s_fm s_fl s_fw t.heap := hB
  rw [ht] at hB
  exact cont r1 H1 locs1 _ _ sl ke_f s_fm s_fl s_fw trivial ⟨rfl, rfl, rfl, rfl⟩ hB (hMI.go (fun q h1 h2 => hk1 q h1 (ax_not h1 h2))) (Nat.le_trans hSZ hz1) hsl (by omega) (by omega) hS1
set_option maxHeartbeats 4000000 in
set_option maxRecDepth 100000 in
theorem law_c12 {p : Program} {l : Launch} {e : Env} {s : State} {m : MethodId} {below : List Frame} {meth : Method} {c : Code} {b L : Nat} {xs : Nat → Int32} (hL : L ≤ 3072) (C0 : lw_At p s m meth c b L xs) {dC : Nat → ClassId} {dI : Nat → Nat → Nat} {cyI cyB cyJ cyZ cyH cyN cyM : ClassId} {tR tF : Nat} {aK aV : Nat → Nat} {tg : Nat → Nat} {SZ x0 m0 : Nat} (hFIX : FIX dC dI cyI cyB cyJ cyZ cyH cyN cyM tR tF aK aV tg SZ s) {i : Int32} (hi0 : 0 ≤ i.toInt) (hi : i.toInt + 6 ≤ (L : Int)) {ls : Array Slot} (hl : lv_has ls 4 [(3, .int i), (2, .ref m0), (1, .ref x0), (0, .ref b)]) (kk : ∀ (H : Heap) (locs : List Loc) (cells slots : Nat), INV dC dI cyI cyB cyJ cyZ cyH cyN cyM tg SZ x0 m0 H cells slots → va_S (fun q : Nat => s.heap.size ≤ q) s.heap H locs → W p l e room_1 s m #[Value.ref b] below meth c H locs cells slots (lw_Z below #[Value.ref b] s) (F0 m 1930 ls [])) {H : Heap} {locs : List Loc} {cells slots : Nat} (hI : INV dC dI cyI cyB cyJ cyZ cyH cyN cyM tg SZ x0 m0 H cells slots) (hS : va_S (fun q : Nat => s.heap.size ≤ q) s.heap H locs) : W p l e room_1 s m #[Value.ref b] below meth c H locs cells slots (lw_Z below #[Value.ref b] s) (F0 m 638 ls []) := by
  obtain ⟨hx, hb, hr, hml, hown, hts0, hX, hbl, hlocks, hgv⟩ := id C0
  have hts : ∀ w ∈ uU, w.before #[Value.ref b] s = true := fun w h => hts0 w (uU_in h)
  have hbA : ¬ (fun q : Nat => s.heap.size ≤ q) b := Nat.not_le.mpr hbl
  refine lv_aload_n hx hb dL_law_638 rfl (lv_at hl 2 rfl) ?_
  obtain ⟨sl, ke_f, s_fm, s_fl, s_fw, m_isKept, m_many, m_width, hXE, hMI, hRR, hSZ, hsl, hce, hso⟩ := hI
  have cont : ∀ (r : Int32) (H : Heap) (locs : List Loc) (cells slots sl : Nat) (ke_1 fm_1 fl_1 fw_1 : Nat → Int32), (True) → (ke_1 = ke_f ∧ fm_1 = s_fm ∧ fl_1 = s_fl ∧ fw_1 = s_fw) → XE dC dI cyI cyB cyJ cyZ cyH cyN cyM tg x0 sl ke_1 fm_1 fl_1 fw_1 H → MI dC dI cyI cyB cyJ cyZ cyH cyN cyM tg m0 m_isKept m_many m_width H → SZ ≤ H.size → (sl = 0 ∨ sl = 1) → cells ≤ 110 + 16 * sl → slots ≤ 15598 + 40501 * sl → va_S (fun q : Nat => s.heap.size ≤ q) s.heap H locs → W p l e room_1 s m #[Value.ref b] below meth c H locs cells slots (lw_Z below #[Value.ref b] s) (F0 m 642 ls [.int r]) := by
    intro r H locs cells slots sl ke_1 fm_1 fl_1 fw_1 hw1 hrel hXE hMI hSZ hsl hce hso hS
    refine lv_pop hx hb dL_law_642 rfl ?_
    refine lv_aload_n hx hb dL_law_643 rfl (lv_at hl 1 rfl) ?_
    refine va_calli (va_runV (As := []) (rest := []) ⟨hx, hb, hml, hown, hts⟩ (wm_whole l dC dI cyI cyB cyJ cyZ cyH cyN cyM tg H.size m0 m_isKept m_many m_width ) (cwV 0 hts (gdV wd_7_155 wd_7_156 wd_7_157 wd_1_11 wd_7_158) rfl rfl rfl (by decide +kernel) ⟨Nat.le_of_ble_eq_true rfl, Nat.le_of_ble_eq_true rfl⟩) (mp_pre hFIX hMI) rfl rfl hl.1 rfl (lv_room (Nat.le_of_ble_eq_true rfl)) dL_law_644 ⟨show cells + 0 ≤ 600000 by omega, show slots + 0 ≤ 7302250 by omega⟩) hS (fun q _ h => am_old hFIX hS q h) (am_old hFIX hS) (fun r2 u t H1 locs1 ht hvm hw hB hz1 hk1 hS1 => ?_)
    replace hB : MI dC dI cyI cyB cyJ cyZ cyH cyN cyM tg m0 m_isKept m_many m_width t.heap := hB
    rw [ht] at hB
    have hXE2 := hXE.go (fun q h1 h2 => hk1 q h1 (am_not h1 h2))
    have hRR2 : RR ke_1 fm_1 fl_1 fw_1 m_isKept m_many m_width := by
      rw [hrel.1, hrel.2.1, hrel.2.2.1, hrel.2.2.2]
      exact hRR
    refine lv_pop hx hb dL_law_647 rfl ?_
    refine lv_goto (tgt := 1930) hx hb dL_law_648 (by decide) ?_
    exact kk _ _ _ _ ⟨sl, ke_1, fm_1, fl_1, fw_1, m_isKept, m_many, m_width, hXE2, hB, hRR2, Nat.le_trans hSZ hz1, hsl, hce, hso⟩ hS1
  refine va_calli (va_runV (As := []) (rest := []) ⟨hx, hb, hml, hown, hts⟩ (wx_whole l dC dI cyI cyB cyJ cyZ cyH cyN cyM tR tF aK aV tg H.size x0 sl ke_f s_fm s_fl s_fw ) (cwV 0 hts (gdV wd_3_151 wd_3_152 wd_3_153 wd_1_1 wd_3_154) rfl rfl rfl (by decide +kernel) ⟨Nat.le_of_ble_eq_true rfl, Nat.le_of_ble_eq_true rfl⟩) (xp_pre hFIX hS hXE) rfl rfl hl.1 rfl (lv_room (Nat.le_of_ble_eq_true rfl)) dL_law_639 ⟨show cells + 0 ≤ 600000 by omega, show slots + 0 ≤ 7302250 by omega⟩) hS (fun q _ h => ax_old hFIX hS q h) (ax_old hFIX hS) (fun r1 u t H1 locs1 ht hvm hw hB hz1 hk1 hS1 => ?_)
  replace hB : XE dC dI cyI cyB cyJ cyZ cyH cyN cyM tg x0 sl ke_f s_fm s_fl s_fw t.heap := hB
  rw [ht] at hB
  exact cont r1 H1 locs1 _ _ sl ke_f s_fm s_fl s_fw trivial ⟨rfl, rfl, rfl, rfl⟩ hB (hMI.go (fun q h1 h2 => hk1 q h1 (ax_not h1 h2))) (Nat.le_trans hSZ hz1) hsl (by omega) (by omega) hS1
set_option maxHeartbeats 4000000 in
set_option maxRecDepth 100000 in
theorem law_c13 {p : Program} {l : Launch} {e : Env} {s : State} {m : MethodId} {below : List Frame} {meth : Method} {c : Code} {b L : Nat} {xs : Nat → Int32} (hL : L ≤ 3072) (C0 : lw_At p s m meth c b L xs) {dC : Nat → ClassId} {dI : Nat → Nat → Nat} {cyI cyB cyJ cyZ cyH cyN cyM : ClassId} {tR tF : Nat} {aK aV : Nat → Nat} {tg : Nat → Nat} {SZ x0 m0 : Nat} (hFIX : FIX dC dI cyI cyB cyJ cyZ cyH cyN cyM tR tF aK aV tg SZ s) {i : Int32} (hi0 : 0 ≤ i.toInt) (hi : i.toInt + 6 ≤ (L : Int)) {ls : Array Slot} (hl : lv_has ls 4 [(3, .int i), (2, .ref m0), (1, .ref x0), (0, .ref b)]) (kk : ∀ (H : Heap) (locs : List Loc) (cells slots : Nat), INV dC dI cyI cyB cyJ cyZ cyH cyN cyM tg SZ x0 m0 H cells slots → va_S (fun q : Nat => s.heap.size ≤ q) s.heap H locs → W p l e room_1 s m #[Value.ref b] below meth c H locs cells slots (lw_Z below #[Value.ref b] s) (F0 m 1930 ls [])) {H : Heap} {locs : List Loc} {cells slots : Nat} (hI : INV dC dI cyI cyB cyJ cyZ cyH cyN cyM tg SZ x0 m0 H cells slots) (hS : va_S (fun q : Nat => s.heap.size ≤ q) s.heap H locs) : W p l e room_1 s m #[Value.ref b] below meth c H locs cells slots (lw_Z below #[Value.ref b] s) (F0 m 651 ls []) := by
  obtain ⟨hx, hb, hr, hml, hown, hts0, hX, hbl, hlocks, hgv⟩ := id C0
  have hts : ∀ w ∈ uU, w.before #[Value.ref b] s = true := fun w h => hts0 w (uU_in h)
  have hbA : ¬ (fun q : Nat => s.heap.size ≤ q) b := Nat.not_le.mpr hbl
  refine lv_aload_n hx hb dL_law_651 rfl (lv_at hl 2 rfl) ?_
  obtain ⟨sl, ke_f, s_fm, s_fl, s_fw, m_isKept, m_many, m_width, hXE, hMI, hRR, hSZ, hsl, hce, hso⟩ := hI
  have cont : ∀ (r : Int32) (H : Heap) (locs : List Loc) (cells slots sl : Nat) (ke_1 fm_1 fl_1 fw_1 : Nat → Int32), (True) → (ke_1 = ke_f ∧ fm_1 = s_fm ∧ fl_1 = s_fl ∧ fw_1 = s_fw) → XE dC dI cyI cyB cyJ cyZ cyH cyN cyM tg x0 sl ke_1 fm_1 fl_1 fw_1 H → MI dC dI cyI cyB cyJ cyZ cyH cyN cyM tg m0 m_isKept m_many m_width H → SZ ≤ H.size → (sl = 0 ∨ sl = 1) → cells ≤ 110 + 16 * sl → slots ≤ 15598 + 40501 * sl → va_S (fun q : Nat => s.heap.size ≤ q) s.heap H locs → W p l e room_1 s m #[Value.ref b] below meth c H locs cells slots (lw_Z below #[Value.ref b] s) (F0 m 655 ls [.int r]) := by
    intro r H locs cells slots sl ke_1 fm_1 fl_1 fw_1 hw1 hrel hXE hMI hSZ hsl hce hso hS
    refine lv_pop hx hb dL_law_655 rfl ?_
    refine lv_aload_n hx hb dL_law_656 rfl (lv_at hl 1 rfl) ?_
    refine va_calli (va_runV (As := []) (rest := []) ⟨hx, hb, hml, hown, hts⟩ (wm_round l dC dI cyI cyB cyJ cyZ cyH cyN cyM tg H.size m0 m_isKept m_many m_width ) (cwV 0 hts (gdV wd_7_159 wd_7_160 wd_7_161 wd_1_11 wd_7_162) rfl rfl rfl (by decide +kernel) ⟨Nat.le_of_ble_eq_true rfl, Nat.le_of_ble_eq_true rfl⟩) (mp_pre hFIX hMI) rfl rfl hl.1 rfl (lv_room (Nat.le_of_ble_eq_true rfl)) dL_law_657 ⟨show cells + 0 ≤ 600000 by omega, show slots + 0 ≤ 7302250 by omega⟩) hS (fun q _ h => am_old hFIX hS q h) (am_old hFIX hS) (fun r2 u t H1 locs1 ht hvm hw hB hz1 hk1 hS1 => ?_)
    replace hB : MI dC dI cyI cyB cyJ cyZ cyH cyN cyM tg m0 m_isKept m_many m_width t.heap := hB
    rw [ht] at hB
    have hXE2 := hXE.go (fun q h1 h2 => hk1 q h1 (am_not h1 h2))
    have hRR2 : RR ke_1 fm_1 fl_1 fw_1 m_isKept m_many m_width := by
      rw [hrel.1, hrel.2.1, hrel.2.2.1, hrel.2.2.2]
      exact hRR
    refine lv_pop hx hb dL_law_660 rfl ?_
    refine lv_goto (tgt := 1930) hx hb dL_law_661 (by decide) ?_
    exact kk _ _ _ _ ⟨sl, ke_1, fm_1, fl_1, fw_1, m_isKept, m_many, m_width, hXE2, hB, hRR2, Nat.le_trans hSZ hz1, hsl, hce, hso⟩ hS1
  refine va_calli (va_runV (As := []) (rest := []) ⟨hx, hb, hml, hown, hts⟩ (wx_round l dC dI cyI cyB cyJ cyZ cyH cyN cyM tR tF aK aV tg H.size x0 sl ke_f s_fm s_fl s_fw ) (cwV 0 hts (gdV wd_3_163 wd_3_164 wd_3_165 wd_1_1 wd_3_166) rfl rfl rfl (by decide +kernel) ⟨Nat.le_of_ble_eq_true rfl, Nat.le_of_ble_eq_true rfl⟩) (xp_pre hFIX hS hXE) rfl rfl hl.1 rfl (lv_room (Nat.le_of_ble_eq_true rfl)) dL_law_652 ⟨show cells + 0 ≤ 600000 by omega, show slots + 0 ≤ 7302250 by omega⟩) hS (fun q _ h => ax_old hFIX hS q h) (ax_old hFIX hS) (fun r1 u t H1 locs1 ht hvm hw hB hz1 hk1 hS1 => ?_)
  replace hB : XE dC dI cyI cyB cyJ cyZ cyH cyN cyM tg x0 sl ke_f s_fm s_fl s_fw t.heap := hB
  rw [ht] at hB
  exact cont r1 H1 locs1 _ _ sl ke_f s_fm s_fl s_fw trivial ⟨rfl, rfl, rfl, rfl⟩ hB (hMI.go (fun q h1 h2 => hk1 q h1 (ax_not h1 h2))) (Nat.le_trans hSZ hz1) hsl (by omega) (by omega) hS1
set_option maxHeartbeats 4000000 in
set_option maxRecDepth 100000 in
theorem law_c14 {p : Program} {l : Launch} {e : Env} {s : State} {m : MethodId} {below : List Frame} {meth : Method} {c : Code} {b L : Nat} {xs : Nat → Int32} (hL : L ≤ 3072) (C0 : lw_At p s m meth c b L xs) {dC : Nat → ClassId} {dI : Nat → Nat → Nat} {cyI cyB cyJ cyZ cyH cyN cyM : ClassId} {tR tF : Nat} {aK aV : Nat → Nat} {tg : Nat → Nat} {SZ x0 m0 : Nat} (hFIX : FIX dC dI cyI cyB cyJ cyZ cyH cyN cyM tR tF aK aV tg SZ s) {i : Int32} (hi0 : 0 ≤ i.toInt) (hi : i.toInt + 6 ≤ (L : Int)) {ls : Array Slot} (hl : lv_has ls 4 [(3, .int i), (2, .ref m0), (1, .ref x0), (0, .ref b)]) (kk : ∀ (H : Heap) (locs : List Loc) (cells slots : Nat), INV dC dI cyI cyB cyJ cyZ cyH cyN cyM tg SZ x0 m0 H cells slots → va_S (fun q : Nat => s.heap.size ≤ q) s.heap H locs → W p l e room_1 s m #[Value.ref b] below meth c H locs cells slots (lw_Z below #[Value.ref b] s) (F0 m 1930 ls [])) {H : Heap} {locs : List Loc} {cells slots : Nat} (hI : INV dC dI cyI cyB cyJ cyZ cyH cyN cyM tg SZ x0 m0 H cells slots) (hS : va_S (fun q : Nat => s.heap.size ≤ q) s.heap H locs) : W p l e room_1 s m #[Value.ref b] below meth c H locs cells slots (lw_Z below #[Value.ref b] s) (F0 m 664 ls []) := by
  obtain ⟨hx, hb, hr, hml, hown, hts0, hX, hbl, hlocks, hgv⟩ := id C0
  have hts : ∀ w ∈ uU, w.before #[Value.ref b] s = true := fun w h => hts0 w (uU_in h)
  have hbA : ¬ (fun q : Nat => s.heap.size ≤ q) b := Nat.not_le.mpr hbl
  refine lv_aload_n hx hb dL_law_664 rfl (lv_at hl 2 rfl) ?_
  refine lv_aload_n hx hb dL_law_665 rfl (lv_at hl 3 rfl) ?_
  refine lv_iload_n hx hb dL_law_666 rfl (lv_at hl 0 rfl) ?_
  refine lv_iconst (v := 1) hx hb dL_law_667 (by decide) ?_
  refine lv_iadd hx hb dL_law_668 ?_
  refine va_sld hx hb hX hbl hbA hS (lw_ix hi0 hi hL (by decide)) dL_law_669 ?_
  refine lv_topi (fun v_1 ev_1 => ?_)
  refine lv_aload_n hx hb dL_law_670 rfl (lv_at hl 3 rfl) ?_
  refine lv_iload_n hx hb dL_law_671 rfl (lv_at hl 0 rfl) ?_
  refine lv_iconst (v := 2) hx hb dL_law_672 (by decide) ?_
  refine lv_iadd hx hb dL_law_673 ?_
  refine va_sld hx hb hX hbl hbA hS (lw_ix hi0 hi hL (by decide)) dL_law_674 ?_
  refine lv_topi (fun v_2 ev_2 => ?_)
  obtain ⟨sl, ke_f, s_fm, s_fl, s_fw, m_isKept, m_many, m_width, hXE, hMI, hRR, hSZ, hsl, hce, hso⟩ := hI
  have cont : ∀ (r : Int32) (H : Heap) (locs : List Loc) (cells slots sl : Nat) (ke_1 fm_1 fl_1 fw_1 : Nat → Int32), (True) → (ke_1 = ke_f ∧ fm_1 = s_fm ∧ fl_1 = s_fl ∧ fw_1 = s_fw) → XE dC dI cyI cyB cyJ cyZ cyH cyN cyM tg x0 sl ke_1 fm_1 fl_1 fw_1 H → MI dC dI cyI cyB cyJ cyZ cyH cyN cyM tg m0 m_isKept m_many m_width H → SZ ≤ H.size → (sl = 0 ∨ sl = 1) → cells ≤ 110 + 16 * sl → slots ≤ 15598 + 40501 * sl → va_S (fun q : Nat => s.heap.size ≤ q) s.heap H locs → W p l e room_1 s m #[Value.ref b] below meth c H locs cells slots (lw_Z below #[Value.ref b] s) (F0 m 678 ls [.int r]) := by
    intro r H locs cells slots sl ke_1 fm_1 fl_1 fw_1 hw1 hrel hXE hMI hSZ hsl hce hso hS
    refine lv_pop hx hb dL_law_678 rfl ?_
    refine lv_aload_n hx hb dL_law_679 rfl (lv_at hl 1 rfl) ?_
    refine lv_aload_n hx hb dL_law_680 rfl (lv_at hl 3 rfl) ?_
    refine lv_iload_n hx hb dL_law_681 rfl (lv_at hl 0 rfl) ?_
    refine lv_iconst (v := 1) hx hb dL_law_682 (by decide) ?_
    refine lv_iadd hx hb dL_law_683 ?_
    refine va_sld hx hb hX hbl hbA hS (lw_ix hi0 hi hL (by decide)) dL_law_684 ?_
    refine lv_topi (fun v_101 ev_101 => ?_)
    refine lv_aload_n hx hb dL_law_685 rfl (lv_at hl 3 rfl) ?_
    refine lv_iload_n hx hb dL_law_686 rfl (lv_at hl 0 rfl) ?_
    refine lv_iconst (v := 2) hx hb dL_law_687 (by decide) ?_
    refine lv_iadd hx hb dL_law_688 ?_
    refine va_sld hx hb hX hbl hbA hS (lw_ix hi0 hi hL (by decide)) dL_law_689 ?_
    refine lv_topi (fun v_102 ev_102 => ?_)
    refine va_calli (va_runV (As := [.int v_101, .int v_102]) (rest := []) ⟨hx, hb, hml, hown, hts⟩ (wm_comes l dC dI cyI cyB cyJ cyZ cyH cyN cyM tg H.size m0 m_isKept m_many m_width v_101 v_102) (cwV 2 hts (gdV wd_7_163 wd_7_164 wd_7_165 wd_1_11 wd_7_166) rfl rfl rfl (by decide +kernel) ⟨Nat.le_of_ble_eq_true rfl, Nat.le_of_ble_eq_true rfl⟩) (mp_pre hFIX hMI) rfl rfl hl.1 rfl (lv_room (Nat.le_of_ble_eq_true rfl)) dL_law_690 ⟨show cells + 0 ≤ 600000 by omega, show slots + 0 ≤ 7302250 by omega⟩) hS (fun q _ h => am_old hFIX hS q h) (am_old hFIX hS) (fun r2 u t H1 locs1 ht hvm hw hB hz1 hk1 hS1 => ?_)
    replace hB : MI dC dI cyI cyB cyJ cyZ cyH cyN cyM tg m0 m_isKept m_many m_width t.heap := hB
    rw [ht] at hB
    have hXE2 := hXE.go (fun q h1 h2 => hk1 q h1 (am_not h1 h2))
    have hRR2 : RR ke_1 fm_1 fl_1 fw_1 m_isKept m_many m_width := by
      rw [hrel.1, hrel.2.1, hrel.2.2.1, hrel.2.2.2]
      exact hRR
    refine lv_pop hx hb dL_law_693 rfl ?_
    refine lv_goto (tgt := 1930) hx hb dL_law_694 (by decide) ?_
    exact kk _ _ _ _ ⟨sl, ke_1, fm_1, fl_1, fw_1, m_isKept, m_many, m_width, hXE2, hB, hRR2, Nat.le_trans hSZ hz1, hsl, hce, hso⟩ hS1
  refine va_calli (va_runV (As := [.int v_1, .int v_2]) (rest := []) ⟨hx, hb, hml, hown, hts⟩ (wx_comes l dC dI cyI cyB cyJ cyZ cyH cyN cyM tR tF aK aV tg H.size x0 sl ke_f s_fm s_fl s_fw v_1 v_2) (cwV 2 hts (gdV wd_3_167 wd_3_168 wd_3_169 wd_1_1 wd_3_170) rfl rfl rfl (by decide +kernel) ⟨Nat.le_of_ble_eq_true rfl, Nat.le_of_ble_eq_true rfl⟩) (xp_pre hFIX hS hXE) rfl rfl hl.1 rfl (lv_room (Nat.le_of_ble_eq_true rfl)) dL_law_675 ⟨show cells + 0 ≤ 600000 by omega, show slots + 0 ≤ 7302250 by omega⟩) hS (fun q _ h => ax_old hFIX hS q h) (ax_old hFIX hS) (fun r1 u t H1 locs1 ht hvm hw hB hz1 hk1 hS1 => ?_)
  replace hB : XE dC dI cyI cyB cyJ cyZ cyH cyN cyM tg x0 sl ke_f s_fm s_fl s_fw t.heap := hB
  rw [ht] at hB
  exact cont r1 H1 locs1 _ _ sl ke_f s_fm s_fl s_fw trivial ⟨rfl, rfl, rfl, rfl⟩ hB (hMI.go (fun q h1 h2 => hk1 q h1 (ax_not h1 h2))) (Nat.le_trans hSZ hz1) hsl (by omega) (by omega) hS1
set_option maxHeartbeats 4000000 in
set_option maxRecDepth 100000 in
theorem law_c15 {p : Program} {l : Launch} {e : Env} {s : State} {m : MethodId} {below : List Frame} {meth : Method} {c : Code} {b L : Nat} {xs : Nat → Int32} (hL : L ≤ 3072) (C0 : lw_At p s m meth c b L xs) {dC : Nat → ClassId} {dI : Nat → Nat → Nat} {cyI cyB cyJ cyZ cyH cyN cyM : ClassId} {tR tF : Nat} {aK aV : Nat → Nat} {tg : Nat → Nat} {SZ x0 m0 : Nat} (hFIX : FIX dC dI cyI cyB cyJ cyZ cyH cyN cyM tR tF aK aV tg SZ s) {i : Int32} (hi0 : 0 ≤ i.toInt) (hi : i.toInt + 6 ≤ (L : Int)) {ls : Array Slot} (hl : lv_has ls 4 [(3, .int i), (2, .ref m0), (1, .ref x0), (0, .ref b)]) (kk : ∀ (H : Heap) (locs : List Loc) (cells slots : Nat), INV dC dI cyI cyB cyJ cyZ cyH cyN cyM tg SZ x0 m0 H cells slots → va_S (fun q : Nat => s.heap.size ≤ q) s.heap H locs → W p l e room_1 s m #[Value.ref b] below meth c H locs cells slots (lw_Z below #[Value.ref b] s) (F0 m 1930 ls [])) {H : Heap} {locs : List Loc} {cells slots : Nat} (hI : INV dC dI cyI cyB cyJ cyZ cyH cyN cyM tg SZ x0 m0 H cells slots) (hS : va_S (fun q : Nat => s.heap.size ≤ q) s.heap H locs) : W p l e room_1 s m #[Value.ref b] below meth c H locs cells slots (lw_Z below #[Value.ref b] s) (F0 m 697 ls []) := by
  obtain ⟨hx, hb, hr, hml, hown, hts0, hX, hbl, hlocks, hgv⟩ := id C0
  have hts : ∀ w ∈ uU, w.before #[Value.ref b] s = true := fun w h => hts0 w (uU_in h)
  have hbA : ¬ (fun q : Nat => s.heap.size ≤ q) b := Nat.not_le.mpr hbl
  refine lv_aload_n hx hb dL_law_697 rfl (lv_at hl 2 rfl) ?_
  refine lv_aload_n hx hb dL_law_698 rfl (lv_at hl 3 rfl) ?_
  refine lv_iload_n hx hb dL_law_699 rfl (lv_at hl 0 rfl) ?_
  refine lv_iconst (v := 1) hx hb dL_law_700 (by decide) ?_
  refine lv_iadd hx hb dL_law_701 ?_
  refine va_sld hx hb hX hbl hbA hS (lw_ix hi0 hi hL (by decide)) dL_law_702 ?_
  refine lv_topi (fun v_1 ev_1 => ?_)
  refine lv_aload_n hx hb dL_law_703 rfl (lv_at hl 3 rfl) ?_
  refine lv_iload_n hx hb dL_law_704 rfl (lv_at hl 0 rfl) ?_
  refine lv_iconst (v := 2) hx hb dL_law_705 (by decide) ?_
  refine lv_iadd hx hb dL_law_706 ?_
  refine va_sld hx hb hX hbl hbA hS (lw_ix hi0 hi hL (by decide)) dL_law_707 ?_
  refine lv_topi (fun v_2 ev_2 => ?_)
  obtain ⟨sl, ke_f, s_fm, s_fl, s_fw, m_isKept, m_many, m_width, hXE, hMI, hRR, hSZ, hsl, hce, hso⟩ := hI
  have cont : ∀ (r : Int32) (H : Heap) (locs : List Loc) (cells slots sl : Nat) (ke_1 fm_1 fl_1 fw_1 : Nat → Int32), (True) → (ke_1 = ke_f ∧ fm_1 = s_fm ∧ fl_1 = s_fl ∧ fw_1 = s_fw) → XE dC dI cyI cyB cyJ cyZ cyH cyN cyM tg x0 sl ke_1 fm_1 fl_1 fw_1 H → MI dC dI cyI cyB cyJ cyZ cyH cyN cyM tg m0 m_isKept m_many m_width H → SZ ≤ H.size → (sl = 0 ∨ sl = 1) → cells ≤ 110 + 16 * sl → slots ≤ 15598 + 40501 * sl → va_S (fun q : Nat => s.heap.size ≤ q) s.heap H locs → W p l e room_1 s m #[Value.ref b] below meth c H locs cells slots (lw_Z below #[Value.ref b] s) (F0 m 711 ls [.int r]) := by
    intro r H locs cells slots sl ke_1 fm_1 fl_1 fw_1 hw1 hrel hXE hMI hSZ hsl hce hso hS
    refine lv_pop hx hb dL_law_711 rfl ?_
    refine lv_aload_n hx hb dL_law_712 rfl (lv_at hl 1 rfl) ?_
    refine lv_aload_n hx hb dL_law_713 rfl (lv_at hl 3 rfl) ?_
    refine lv_iload_n hx hb dL_law_714 rfl (lv_at hl 0 rfl) ?_
    refine lv_iconst (v := 1) hx hb dL_law_715 (by decide) ?_
    refine lv_iadd hx hb dL_law_716 ?_
    refine va_sld hx hb hX hbl hbA hS (lw_ix hi0 hi hL (by decide)) dL_law_717 ?_
    refine lv_topi (fun v_101 ev_101 => ?_)
    refine lv_aload_n hx hb dL_law_718 rfl (lv_at hl 3 rfl) ?_
    refine lv_iload_n hx hb dL_law_719 rfl (lv_at hl 0 rfl) ?_
    refine lv_iconst (v := 2) hx hb dL_law_720 (by decide) ?_
    refine lv_iadd hx hb dL_law_721 ?_
    refine va_sld hx hb hX hbl hbA hS (lw_ix hi0 hi hL (by decide)) dL_law_722 ?_
    refine lv_topi (fun v_102 ev_102 => ?_)
    refine va_calli (va_runV (As := [.int v_101, .int v_102]) (rest := []) ⟨hx, hb, hml, hown, hts⟩ (wm_meet l dC dI cyI cyB cyJ cyZ cyH cyN cyM tg H.size m0 m_isKept m_many m_width v_101 v_102) (cwV 2 hts (gdV wd_7_167 wd_7_168 wd_7_169 wd_1_11 wd_7_170) rfl rfl rfl (by decide +kernel) ⟨Nat.le_of_ble_eq_true rfl, Nat.le_of_ble_eq_true rfl⟩) (mp_pre hFIX hMI) rfl rfl hl.1 rfl (lv_room (Nat.le_of_ble_eq_true rfl)) dL_law_723 ⟨show cells + 0 ≤ 600000 by omega, show slots + 0 ≤ 7302250 by omega⟩) hS (fun q _ h => am_old hFIX hS q h) (am_old hFIX hS) (fun r2 u t H1 locs1 ht hvm hw hB hz1 hk1 hS1 => ?_)
    replace hB : MI dC dI cyI cyB cyJ cyZ cyH cyN cyM tg m0 m_isKept m_many m_width t.heap := hB
    rw [ht] at hB
    have hXE2 := hXE.go (fun q h1 h2 => hk1 q h1 (am_not h1 h2))
    have hRR2 : RR ke_1 fm_1 fl_1 fw_1 m_isKept m_many m_width := by
      rw [hrel.1, hrel.2.1, hrel.2.2.1, hrel.2.2.2]
      exact hRR
    refine lv_pop hx hb dL_law_726 rfl ?_
    refine lv_goto (tgt := 1930) hx hb dL_law_727 (by decide) ?_
    exact kk _ _ _ _ ⟨sl, ke_1, fm_1, fl_1, fw_1, m_isKept, m_many, m_width, hXE2, hB, hRR2, Nat.le_trans hSZ hz1, hsl, hce, hso⟩ hS1
  refine va_calli (va_runV (As := [.int v_1, .int v_2]) (rest := []) ⟨hx, hb, hml, hown, hts⟩ (wx_meet l dC dI cyI cyB cyJ cyZ cyH cyN cyM tR tF aK aV tg H.size x0 sl ke_f s_fm s_fl s_fw v_1 v_2) (cwV 2 hts (gdV wd_3_171 wd_3_172 wd_3_173 wd_1_1 wd_3_174) rfl rfl rfl (by decide +kernel) ⟨Nat.le_of_ble_eq_true rfl, Nat.le_of_ble_eq_true rfl⟩) (xp_pre hFIX hS hXE) rfl rfl hl.1 rfl (lv_room (Nat.le_of_ble_eq_true rfl)) dL_law_708 ⟨show cells + 0 ≤ 600000 by omega, show slots + 0 ≤ 7302250 by omega⟩) hS (fun q _ h => ax_old hFIX hS q h) (ax_old hFIX hS) (fun r1 u t H1 locs1 ht hvm hw hB hz1 hk1 hS1 => ?_)
  replace hB : XE dC dI cyI cyB cyJ cyZ cyH cyN cyM tg x0 sl ke_f s_fm s_fl s_fw t.heap := hB
  rw [ht] at hB
  exact cont r1 H1 locs1 _ _ sl ke_f s_fm s_fl s_fw trivial ⟨rfl, rfl, rfl, rfl⟩ hB (hMI.go (fun q h1 h2 => hk1 q h1 (ax_not h1 h2))) (Nat.le_trans hSZ hz1) hsl (by omega) (by omega) hS1
set_option maxHeartbeats 4000000 in
set_option maxRecDepth 100000 in
theorem law_c16 {p : Program} {l : Launch} {e : Env} {s : State} {m : MethodId} {below : List Frame} {meth : Method} {c : Code} {b L : Nat} {xs : Nat → Int32} (hL : L ≤ 3072) (C0 : lw_At p s m meth c b L xs) {dC : Nat → ClassId} {dI : Nat → Nat → Nat} {cyI cyB cyJ cyZ cyH cyN cyM : ClassId} {tR tF : Nat} {aK aV : Nat → Nat} {tg : Nat → Nat} {SZ x0 m0 : Nat} (hFIX : FIX dC dI cyI cyB cyJ cyZ cyH cyN cyM tR tF aK aV tg SZ s) {i : Int32} (hi0 : 0 ≤ i.toInt) (hi : i.toInt + 6 ≤ (L : Int)) {ls : Array Slot} (hl : lv_has ls 4 [(3, .int i), (2, .ref m0), (1, .ref x0), (0, .ref b)]) (kk : ∀ (H : Heap) (locs : List Loc) (cells slots : Nat), INV dC dI cyI cyB cyJ cyZ cyH cyN cyM tg SZ x0 m0 H cells slots → va_S (fun q : Nat => s.heap.size ≤ q) s.heap H locs → W p l e room_1 s m #[Value.ref b] below meth c H locs cells slots (lw_Z below #[Value.ref b] s) (F0 m 1930 ls [])) {H : Heap} {locs : List Loc} {cells slots : Nat} (hI : INV dC dI cyI cyB cyJ cyZ cyH cyN cyM tg SZ x0 m0 H cells slots) (hS : va_S (fun q : Nat => s.heap.size ≤ q) s.heap H locs) : W p l e room_1 s m #[Value.ref b] below meth c H locs cells slots (lw_Z below #[Value.ref b] s) (F0 m 730 ls []) := by
  obtain ⟨hx, hb, hr, hml, hown, hts0, hX, hbl, hlocks, hgv⟩ := id C0
  have hts : ∀ w ∈ uU, w.before #[Value.ref b] s = true := fun w h => hts0 w (uU_in h)
  have hbA : ¬ (fun q : Nat => s.heap.size ≤ q) b := Nat.not_le.mpr hbl
  refine lv_aload_n hx hb dL_law_730 rfl (lv_at hl 2 rfl) ?_
  refine lv_aload_n hx hb dL_law_731 rfl (lv_at hl 3 rfl) ?_
  refine lv_iload_n hx hb dL_law_732 rfl (lv_at hl 0 rfl) ?_
  refine lv_iconst (v := 1) hx hb dL_law_733 (by decide) ?_
  refine lv_iadd hx hb dL_law_734 ?_
  refine va_sld hx hb hX hbl hbA hS (lw_ix hi0 hi hL (by decide)) dL_law_735 ?_
  refine lv_topi (fun v_1 ev_1 => ?_)
  obtain ⟨sl, ke_f, s_fm, s_fl, s_fw, m_isKept, m_many, m_width, hXE, hMI, hRR, hSZ, hsl, hce, hso⟩ := hI
  have cont : ∀ (r : Int32) (H : Heap) (locs : List Loc) (cells slots sl : Nat) (ke_1 fm_1 fl_1 fw_1 : Nat → Int32), (True) → (ke_1 = ke_f ∧ fm_1 = s_fm ∧ fl_1 = s_fl ∧ fw_1 = s_fw) → XE dC dI cyI cyB cyJ cyZ cyH cyN cyM tg x0 sl ke_1 fm_1 fl_1 fw_1 H → MI dC dI cyI cyB cyJ cyZ cyH cyN cyM tg m0 m_isKept m_many m_width H → SZ ≤ H.size → (sl = 0 ∨ sl = 1) → cells ≤ 110 + 16 * sl → slots ≤ 15598 + 40501 * sl → va_S (fun q : Nat => s.heap.size ≤ q) s.heap H locs → W p l e room_1 s m #[Value.ref b] below meth c H locs cells slots (lw_Z below #[Value.ref b] s) (F0 m 739 ls [.int r]) := by
    intro r H locs cells slots sl ke_1 fm_1 fl_1 fw_1 hw1 hrel hXE hMI hSZ hsl hce hso hS
    refine lv_pop hx hb dL_law_739 rfl ?_
    refine lv_aload_n hx hb dL_law_740 rfl (lv_at hl 1 rfl) ?_
    refine lv_aload_n hx hb dL_law_741 rfl (lv_at hl 3 rfl) ?_
    refine lv_iload_n hx hb dL_law_742 rfl (lv_at hl 0 rfl) ?_
    refine lv_iconst (v := 1) hx hb dL_law_743 (by decide) ?_
    refine lv_iadd hx hb dL_law_744 ?_
    refine va_sld hx hb hX hbl hbA hS (lw_ix hi0 hi hL (by decide)) dL_law_745 ?_
    refine lv_topi (fun v_101 ev_101 => ?_)
    refine va_calli (va_runV (As := [.int v_101]) (rest := []) ⟨hx, hb, hml, hown, hts⟩ (wm_tonight l dC dI cyI cyB cyJ cyZ cyH cyN cyM tg H.size m0 m_isKept m_many m_width v_101) (cwV 1 hts (gdV wd_7_171 wd_7_172 wd_7_173 wd_1_11 wd_7_174) rfl rfl rfl (by decide +kernel) ⟨Nat.le_of_ble_eq_true rfl, Nat.le_of_ble_eq_true rfl⟩) (mp_pre hFIX hMI) rfl rfl hl.1 rfl (lv_room (Nat.le_of_ble_eq_true rfl)) dL_law_746 ⟨show cells + 0 ≤ 600000 by omega, show slots + 0 ≤ 7302250 by omega⟩) hS (fun q _ h => am_old hFIX hS q h) (am_old hFIX hS) (fun r2 u t H1 locs1 ht hvm hw hB hz1 hk1 hS1 => ?_)
    replace hB : MI dC dI cyI cyB cyJ cyZ cyH cyN cyM tg m0 m_isKept m_many m_width t.heap := hB
    rw [ht] at hB
    have hXE2 := hXE.go (fun q h1 h2 => hk1 q h1 (am_not h1 h2))
    have hRR2 : RR ke_1 fm_1 fl_1 fw_1 m_isKept m_many m_width := by
      rw [hrel.1, hrel.2.1, hrel.2.2.1, hrel.2.2.2]
      exact hRR
    refine lv_pop hx hb dL_law_749 rfl ?_
    refine lv_goto (tgt := 1930) hx hb dL_law_750 (by decide) ?_
    exact kk _ _ _ _ ⟨sl, ke_1, fm_1, fl_1, fw_1, m_isKept, m_many, m_width, hXE2, hB, hRR2, Nat.le_trans hSZ hz1, hsl, hce, hso⟩ hS1
  refine va_calli (va_runV (As := [.int v_1]) (rest := []) ⟨hx, hb, hml, hown, hts⟩ (wx_tonight l dC dI cyI cyB cyJ cyZ cyH cyN cyM tR tF aK aV tg H.size x0 sl ke_f s_fm s_fl s_fw v_1) (cwV 1 hts (gdV wd_3_182 wd_3_183 wd_3_184 wd_1_1 wd_3_185) rfl rfl rfl (by decide +kernel) ⟨Nat.le_of_ble_eq_true rfl, Nat.le_of_ble_eq_true rfl⟩) (xp_pre hFIX hS hXE) rfl rfl hl.1 rfl (lv_room (Nat.le_of_ble_eq_true rfl)) dL_law_736 ⟨show cells + 0 ≤ 600000 by omega, show slots + 0 ≤ 7302250 by omega⟩) hS (fun q _ h => ax_old hFIX hS q h) (ax_old hFIX hS) (fun r1 u t H1 locs1 ht hvm hw hB hz1 hk1 hS1 => ?_)
  replace hB : XE dC dI cyI cyB cyJ cyZ cyH cyN cyM tg x0 sl ke_f s_fm s_fl s_fw t.heap := hB
  rw [ht] at hB
  exact cont r1 H1 locs1 _ _ sl ke_f s_fm s_fl s_fw trivial ⟨rfl, rfl, rfl, rfl⟩ hB (hMI.go (fun q h1 h2 => hk1 q h1 (ax_not h1 h2))) (Nat.le_trans hSZ hz1) hsl (by omega) (by omega) hS1
set_option maxHeartbeats 4000000 in
set_option maxRecDepth 100000 in
theorem law_c17 {p : Program} {l : Launch} {e : Env} {s : State} {m : MethodId} {below : List Frame} {meth : Method} {c : Code} {b L : Nat} {xs : Nat → Int32} (hL : L ≤ 3072) (C0 : lw_At p s m meth c b L xs) {dC : Nat → ClassId} {dI : Nat → Nat → Nat} {cyI cyB cyJ cyZ cyH cyN cyM : ClassId} {tR tF : Nat} {aK aV : Nat → Nat} {tg : Nat → Nat} {SZ x0 m0 : Nat} (hFIX : FIX dC dI cyI cyB cyJ cyZ cyH cyN cyM tR tF aK aV tg SZ s) {i : Int32} (hi0 : 0 ≤ i.toInt) (hi : i.toInt + 6 ≤ (L : Int)) {ls : Array Slot} (hl : lv_has ls 4 [(3, .int i), (2, .ref m0), (1, .ref x0), (0, .ref b)]) (kk : ∀ (H : Heap) (locs : List Loc) (cells slots : Nat), INV dC dI cyI cyB cyJ cyZ cyH cyN cyM tg SZ x0 m0 H cells slots → va_S (fun q : Nat => s.heap.size ≤ q) s.heap H locs → W p l e room_1 s m #[Value.ref b] below meth c H locs cells slots (lw_Z below #[Value.ref b] s) (F0 m 1930 ls [])) {H : Heap} {locs : List Loc} {cells slots : Nat} (hI : INV dC dI cyI cyB cyJ cyZ cyH cyN cyM tg SZ x0 m0 H cells slots) (hS : va_S (fun q : Nat => s.heap.size ≤ q) s.heap H locs) : W p l e room_1 s m #[Value.ref b] below meth c H locs cells slots (lw_Z below #[Value.ref b] s) (F0 m 753 ls []) := by
  obtain ⟨hx, hb, hr, hml, hown, hts0, hX, hbl, hlocks, hgv⟩ := id C0
  have hts : ∀ w ∈ uU, w.before #[Value.ref b] s = true := fun w h => hts0 w (uU_in h)
  have hbA : ¬ (fun q : Nat => s.heap.size ≤ q) b := Nat.not_le.mpr hbl
  refine lv_aload_n hx hb dL_law_753 rfl (lv_at hl 2 rfl) ?_
  obtain ⟨sl, ke_f, s_fm, s_fl, s_fw, m_isKept, m_many, m_width, hXE, hMI, hRR, hSZ, hsl, hce, hso⟩ := hI
  have cont : ∀ (r : Int32) (H : Heap) (locs : List Loc) (cells slots sl : Nat) (ke_1 fm_1 fl_1 fw_1 : Nat → Int32), (True) → (ke_1 = ke_f ∧ fm_1 = s_fm ∧ fl_1 = s_fl ∧ fw_1 = s_fw) → XE dC dI cyI cyB cyJ cyZ cyH cyN cyM tg x0 sl ke_1 fm_1 fl_1 fw_1 H → MI dC dI cyI cyB cyJ cyZ cyH cyN cyM tg m0 m_isKept m_many m_width H → SZ ≤ H.size → (sl = 0 ∨ sl = 1) → cells ≤ 110 + 16 * sl → slots ≤ 15598 + 40501 * sl → va_S (fun q : Nat => s.heap.size ≤ q) s.heap H locs → W p l e room_1 s m #[Value.ref b] below meth c H locs cells slots (lw_Z below #[Value.ref b] s) (F0 m 757 ls [.int r]) := by
    intro r H locs cells slots sl ke_1 fm_1 fl_1 fw_1 hw1 hrel hXE hMI hSZ hsl hce hso hS
    refine lv_pop hx hb dL_law_757 rfl ?_
    refine lv_aload_n hx hb dL_law_758 rfl (lv_at hl 1 rfl) ?_
    refine va_calli (va_runV (As := []) (rest := []) ⟨hx, hb, hml, hown, hts⟩ (wm_odd l dC dI cyI cyB cyJ cyZ cyH cyN cyM tg H.size m0 m_isKept m_many m_width ) (cwV 0 hts (gdV wd_7_191 wd_7_192 wd_7_193 wd_1_11 wd_7_194) rfl rfl rfl (by decide +kernel) ⟨Nat.le_of_ble_eq_true rfl, Nat.le_of_ble_eq_true rfl⟩) (mp_pre hFIX hMI) rfl rfl hl.1 rfl (lv_room (Nat.le_of_ble_eq_true rfl)) dL_law_759 ⟨show cells + 0 ≤ 600000 by omega, show slots + 0 ≤ 7302250 by omega⟩) hS (fun q _ h => am_old hFIX hS q h) (am_old hFIX hS) (fun r2 u t H1 locs1 ht hvm hw hB hz1 hk1 hS1 => ?_)
    replace hB : MI dC dI cyI cyB cyJ cyZ cyH cyN cyM tg m0 m_isKept m_many m_width t.heap := hB
    rw [ht] at hB
    have hXE2 := hXE.go (fun q h1 h2 => hk1 q h1 (am_not h1 h2))
    have hRR2 : RR ke_1 fm_1 fl_1 fw_1 m_isKept m_many m_width := by
      rw [hrel.1, hrel.2.1, hrel.2.2.1, hrel.2.2.2]
      exact hRR
    refine lv_pop hx hb dL_law_762 rfl ?_
    refine lv_goto (tgt := 1930) hx hb dL_law_763 (by decide) ?_
    exact kk _ _ _ _ ⟨sl, ke_1, fm_1, fl_1, fw_1, m_isKept, m_many, m_width, hXE2, hB, hRR2, Nat.le_trans hSZ hz1, hsl, hce, hso⟩ hS1
  refine va_calli (va_runV (As := []) (rest := []) ⟨hx, hb, hml, hown, hts⟩ (wx_odd l dC dI cyI cyB cyJ cyZ cyH cyN cyM tR tF aK aV tg H.size x0 sl ke_f s_fm s_fl s_fw ) (cwV 0 hts (gdV wd_3_187 wd_3_188 wd_3_189 wd_1_1 wd_3_190) rfl rfl rfl (by decide +kernel) ⟨Nat.le_of_ble_eq_true rfl, Nat.le_of_ble_eq_true rfl⟩) (xp_pre hFIX hS hXE) rfl rfl hl.1 rfl (lv_room (Nat.le_of_ble_eq_true rfl)) dL_law_754 ⟨show cells + 0 ≤ 600000 by omega, show slots + 0 ≤ 7302250 by omega⟩) hS (fun q _ h => ax_old hFIX hS q h) (ax_old hFIX hS) (fun r1 u t H1 locs1 ht hvm hw hB hz1 hk1 hS1 => ?_)
  replace hB : XE dC dI cyI cyB cyJ cyZ cyH cyN cyM tg x0 sl ke_f s_fm s_fl s_fw t.heap := hB
  rw [ht] at hB
  exact cont r1 H1 locs1 _ _ sl ke_f s_fm s_fl s_fw trivial ⟨rfl, rfl, rfl, rfl⟩ hB (hMI.go (fun q h1 h2 => hk1 q h1 (ax_not h1 h2))) (Nat.le_trans hSZ hz1) hsl (by omega) (by omega) hS1
set_option maxHeartbeats 4000000 in
set_option maxRecDepth 100000 in
theorem law_c18 {p : Program} {l : Launch} {e : Env} {s : State} {m : MethodId} {below : List Frame} {meth : Method} {c : Code} {b L : Nat} {xs : Nat → Int32} (hL : L ≤ 3072) (C0 : lw_At p s m meth c b L xs) {dC : Nat → ClassId} {dI : Nat → Nat → Nat} {cyI cyB cyJ cyZ cyH cyN cyM : ClassId} {tR tF : Nat} {aK aV : Nat → Nat} {tg : Nat → Nat} {SZ x0 m0 : Nat} (hFIX : FIX dC dI cyI cyB cyJ cyZ cyH cyN cyM tR tF aK aV tg SZ s) {i : Int32} (hi0 : 0 ≤ i.toInt) (hi : i.toInt + 6 ≤ (L : Int)) {ls : Array Slot} (hl : lv_has ls 4 [(3, .int i), (2, .ref m0), (1, .ref x0), (0, .ref b)]) (kk : ∀ (H : Heap) (locs : List Loc) (cells slots : Nat), INV dC dI cyI cyB cyJ cyZ cyH cyN cyM tg SZ x0 m0 H cells slots → va_S (fun q : Nat => s.heap.size ≤ q) s.heap H locs → W p l e room_1 s m #[Value.ref b] below meth c H locs cells slots (lw_Z below #[Value.ref b] s) (F0 m 1930 ls [])) {H : Heap} {locs : List Loc} {cells slots : Nat} (hI : INV dC dI cyI cyB cyJ cyZ cyH cyN cyM tg SZ x0 m0 H cells slots) (hS : va_S (fun q : Nat => s.heap.size ≤ q) s.heap H locs) : W p l e room_1 s m #[Value.ref b] below meth c H locs cells slots (lw_Z below #[Value.ref b] s) (F0 m 766 ls []) := by
  obtain ⟨hx, hb, hr, hml, hown, hts0, hX, hbl, hlocks, hgv⟩ := id C0
  have hts : ∀ w ∈ uU, w.before #[Value.ref b] s = true := fun w h => hts0 w (uU_in h)
  have hbA : ¬ (fun q : Nat => s.heap.size ≤ q) b := Nat.not_le.mpr hbl
  refine lv_aload_n hx hb dL_law_766 rfl (lv_at hl 2 rfl) ?_
  obtain ⟨sl, ke_f, s_fm, s_fl, s_fw, m_isKept, m_many, m_width, hXE, hMI, hRR, hSZ, hsl, hce, hso⟩ := hI
  have cont : ∀ (r : Int32) (H : Heap) (locs : List Loc) (cells slots sl : Nat) (ke_1 fm_1 fl_1 fw_1 : Nat → Int32), (True) → (ke_1 = ke_f ∧ fm_1 = s_fm ∧ fl_1 = s_fl ∧ fw_1 = s_fw) → XE dC dI cyI cyB cyJ cyZ cyH cyN cyM tg x0 sl ke_1 fm_1 fl_1 fw_1 H → MI dC dI cyI cyB cyJ cyZ cyH cyN cyM tg m0 m_isKept m_many m_width H → SZ ≤ H.size → (sl = 0 ∨ sl = 1) → cells ≤ 110 + 16 * sl → slots ≤ 15598 + 40501 * sl → va_S (fun q : Nat => s.heap.size ≤ q) s.heap H locs → W p l e room_1 s m #[Value.ref b] below meth c H locs cells slots (lw_Z below #[Value.ref b] s) (F0 m 770 ls [.int r]) := by
    intro r H locs cells slots sl ke_1 fm_1 fl_1 fw_1 hw1 hrel hXE hMI hSZ hsl hce hso hS
    refine lv_pop hx hb dL_law_770 rfl ?_
    refine lv_aload_n hx hb dL_law_771 rfl (lv_at hl 1 rfl) ?_
    refine va_calli (va_runV (As := []) (rest := []) ⟨hx, hb, hml, hown, hts⟩ (wm_swaps l dC dI cyI cyB cyJ cyZ cyH cyN cyM tg H.size m0 m_isKept m_many m_width ) (cwV 0 hts (gdV wd_7_179 wd_7_180 wd_7_181 wd_1_11 wd_7_182) rfl rfl rfl (by decide +kernel) ⟨Nat.le_of_ble_eq_true rfl, Nat.le_of_ble_eq_true rfl⟩) (mp_pre hFIX hMI) rfl rfl hl.1 rfl (lv_room (Nat.le_of_ble_eq_true rfl)) dL_law_772 ⟨show cells + 0 ≤ 600000 by omega, show slots + 0 ≤ 7302250 by omega⟩) hS (fun q _ h => am_old hFIX hS q h) (am_old hFIX hS) (fun r2 u t H1 locs1 ht hvm hw hB hz1 hk1 hS1 => ?_)
    replace hB : MI dC dI cyI cyB cyJ cyZ cyH cyN cyM tg m0 m_isKept m_many m_width t.heap := hB
    rw [ht] at hB
    have hXE2 := hXE.go (fun q h1 h2 => hk1 q h1 (am_not h1 h2))
    have hRR2 : RR ke_1 fm_1 fl_1 fw_1 m_isKept m_many m_width := by
      rw [hrel.1, hrel.2.1, hrel.2.2.1, hrel.2.2.2]
      exact hRR
    refine lv_pop hx hb dL_law_775 rfl ?_
    refine lv_goto (tgt := 1930) hx hb dL_law_776 (by decide) ?_
    exact kk _ _ _ _ ⟨sl, ke_1, fm_1, fl_1, fw_1, m_isKept, m_many, m_width, hXE2, hB, hRR2, Nat.le_trans hSZ hz1, hsl, hce, hso⟩ hS1
  refine va_calli (va_runV (As := []) (rest := []) ⟨hx, hb, hml, hown, hts⟩ (wx_swaps l dC dI cyI cyB cyJ cyZ cyH cyN cyM tR tF aK aV tg H.size x0 sl ke_f s_fm s_fl s_fw ) (cwV 0 hts (gdV wd_3_202 wd_3_203 wd_3_204 wd_1_1 wd_3_205) rfl rfl rfl (by decide +kernel) ⟨Nat.le_of_ble_eq_true rfl, Nat.le_of_ble_eq_true rfl⟩) (xp_pre hFIX hS hXE) rfl rfl hl.1 rfl (lv_room (Nat.le_of_ble_eq_true rfl)) dL_law_767 ⟨show cells + 0 ≤ 600000 by omega, show slots + 0 ≤ 7302250 by omega⟩) hS (fun q _ h => ax_old hFIX hS q h) (ax_old hFIX hS) (fun r1 u t H1 locs1 ht hvm hw hB hz1 hk1 hS1 => ?_)
  replace hB : XE dC dI cyI cyB cyJ cyZ cyH cyN cyM tg x0 sl ke_f s_fm s_fl s_fw t.heap := hB
  rw [ht] at hB
  exact cont r1 H1 locs1 _ _ sl ke_f s_fm s_fl s_fw trivial ⟨rfl, rfl, rfl, rfl⟩ hB (hMI.go (fun q h1 h2 => hk1 q h1 (ax_not h1 h2))) (Nat.le_trans hSZ hz1) hsl (by omega) (by omega) hS1
set_option maxHeartbeats 4000000 in
set_option maxRecDepth 100000 in
theorem law_c19 {p : Program} {l : Launch} {e : Env} {s : State} {m : MethodId} {below : List Frame} {meth : Method} {c : Code} {b L : Nat} {xs : Nat → Int32} (hL : L ≤ 3072) (C0 : lw_At p s m meth c b L xs) {dC : Nat → ClassId} {dI : Nat → Nat → Nat} {cyI cyB cyJ cyZ cyH cyN cyM : ClassId} {tR tF : Nat} {aK aV : Nat → Nat} {tg : Nat → Nat} {SZ x0 m0 : Nat} (hFIX : FIX dC dI cyI cyB cyJ cyZ cyH cyN cyM tR tF aK aV tg SZ s) {i : Int32} (hi0 : 0 ≤ i.toInt) (hi : i.toInt + 6 ≤ (L : Int)) {ls : Array Slot} (hl : lv_has ls 4 [(3, .int i), (2, .ref m0), (1, .ref x0), (0, .ref b)]) (kk : ∀ (H : Heap) (locs : List Loc) (cells slots : Nat), INV dC dI cyI cyB cyJ cyZ cyH cyN cyM tg SZ x0 m0 H cells slots → va_S (fun q : Nat => s.heap.size ≤ q) s.heap H locs → W p l e room_1 s m #[Value.ref b] below meth c H locs cells slots (lw_Z below #[Value.ref b] s) (F0 m 1930 ls [])) {H : Heap} {locs : List Loc} {cells slots : Nat} (hI : INV dC dI cyI cyB cyJ cyZ cyH cyN cyM tg SZ x0 m0 H cells slots) (hS : va_S (fun q : Nat => s.heap.size ≤ q) s.heap H locs) : W p l e room_1 s m #[Value.ref b] below meth c H locs cells slots (lw_Z below #[Value.ref b] s) (F0 m 779 ls []) := by
  obtain ⟨hx, hb, hr, hml, hown, hts0, hX, hbl, hlocks, hgv⟩ := id C0
  have hts : ∀ w ∈ uU, w.before #[Value.ref b] s = true := fun w h => hts0 w (uU_in h)
  have hbA : ¬ (fun q : Nat => s.heap.size ≤ q) b := Nat.not_le.mpr hbl
  refine lv_aload_n hx hb dL_law_779 rfl (lv_at hl 2 rfl) ?_
  obtain ⟨sl, ke_f, s_fm, s_fl, s_fw, m_isKept, m_many, m_width, hXE, hMI, hRR, hSZ, hsl, hce, hso⟩ := hI
  have cont : ∀ (r : Int32) (H : Heap) (locs : List Loc) (cells slots sl : Nat) (ke_1 fm_1 fl_1 fw_1 : Nat → Int32), (True) → (ke_1 = ke_f ∧ fm_1 = s_fm ∧ fl_1 = s_fl ∧ fw_1 = s_fw) → XE dC dI cyI cyB cyJ cyZ cyH cyN cyM tg x0 sl ke_1 fm_1 fl_1 fw_1 H → MI dC dI cyI cyB cyJ cyZ cyH cyN cyM tg m0 m_isKept m_many m_width H → SZ ≤ H.size → (sl = 0 ∨ sl = 1) → cells ≤ 110 + 16 * sl → slots ≤ 15598 + 40501 * sl → va_S (fun q : Nat => s.heap.size ≤ q) s.heap H locs → W p l e room_1 s m #[Value.ref b] below meth c H locs cells slots (lw_Z below #[Value.ref b] s) (F0 m 783 ls [.int r]) := by
    intro r H locs cells slots sl ke_1 fm_1 fl_1 fw_1 hw1 hrel hXE hMI hSZ hsl hce hso hS
    refine lv_pop hx hb dL_law_783 rfl ?_
    refine lv_aload_n hx hb dL_law_784 rfl (lv_at hl 1 rfl) ?_
    refine va_calli (va_runV (As := []) (rest := []) ⟨hx, hb, hml, hown, hts⟩ (wm_steps l dC dI cyI cyB cyJ cyZ cyH cyN cyM tg H.size m0 m_isKept m_many m_width ) (cwV 0 hts (gdV wd_7_195 wd_7_196 wd_7_197 wd_1_11 wd_7_198) rfl rfl rfl (by decide +kernel) ⟨Nat.le_of_ble_eq_true rfl, Nat.le_of_ble_eq_true rfl⟩) (mp_pre hFIX hMI) rfl rfl hl.1 rfl (lv_room (Nat.le_of_ble_eq_true rfl)) dL_law_785 ⟨show cells + 0 ≤ 600000 by omega, show slots + 0 ≤ 7302250 by omega⟩) hS (fun q _ h => am_old hFIX hS q h) (am_old hFIX hS) (fun r2 u t H1 locs1 ht hvm hw hB hz1 hk1 hS1 => ?_)
    replace hB : MI dC dI cyI cyB cyJ cyZ cyH cyN cyM tg m0 m_isKept m_many m_width t.heap := hB
    rw [ht] at hB
    have hXE2 := hXE.go (fun q h1 h2 => hk1 q h1 (am_not h1 h2))
    have hRR2 : RR ke_1 fm_1 fl_1 fw_1 m_isKept m_many m_width := by
      rw [hrel.1, hrel.2.1, hrel.2.2.1, hrel.2.2.2]
      exact hRR
    refine lv_pop hx hb dL_law_788 rfl ?_
    refine lv_goto (tgt := 1930) hx hb dL_law_789 (by decide) ?_
    exact kk _ _ _ _ ⟨sl, ke_1, fm_1, fl_1, fw_1, m_isKept, m_many, m_width, hXE2, hB, hRR2, Nat.le_trans hSZ hz1, hsl, hce, hso⟩ hS1
  refine va_calli (va_runV (As := []) (rest := []) ⟨hx, hb, hml, hown, hts⟩ (wx_steps l dC dI cyI cyB cyJ cyZ cyH cyN cyM tR tF aK aV tg H.size x0 sl ke_f s_fm s_fl s_fw ) (cwV 0 hts (gdV wd_3_206 wd_3_207 wd_3_208 wd_1_1 wd_3_209) rfl rfl rfl (by decide +kernel) ⟨Nat.le_of_ble_eq_true rfl, Nat.le_of_ble_eq_true rfl⟩) (xp_pre hFIX hS hXE) rfl rfl hl.1 rfl (lv_room (Nat.le_of_ble_eq_true rfl)) dL_law_780 ⟨show cells + 0 ≤ 600000 by omega, show slots + 0 ≤ 7302250 by omega⟩) hS (fun q _ h => ax_old hFIX hS q h) (ax_old hFIX hS) (fun r1 u t H1 locs1 ht hvm hw hB hz1 hk1 hS1 => ?_)
  replace hB : XE dC dI cyI cyB cyJ cyZ cyH cyN cyM tg x0 sl ke_f s_fm s_fl s_fw t.heap := hB
  rw [ht] at hB
  exact cont r1 H1 locs1 _ _ sl ke_f s_fm s_fl s_fw trivial ⟨rfl, rfl, rfl, rfl⟩ hB (hMI.go (fun q h1 h2 => hk1 q h1 (ax_not h1 h2))) (Nat.le_trans hSZ hz1) hsl (by omega) (by omega) hS1
set_option maxHeartbeats 4000000 in
set_option maxRecDepth 100000 in
theorem law_c20 {p : Program} {l : Launch} {e : Env} {s : State} {m : MethodId} {below : List Frame} {meth : Method} {c : Code} {b L : Nat} {xs : Nat → Int32} (hL : L ≤ 3072) (C0 : lw_At p s m meth c b L xs) {dC : Nat → ClassId} {dI : Nat → Nat → Nat} {cyI cyB cyJ cyZ cyH cyN cyM : ClassId} {tR tF : Nat} {aK aV : Nat → Nat} {tg : Nat → Nat} {SZ x0 m0 : Nat} (hFIX : FIX dC dI cyI cyB cyJ cyZ cyH cyN cyM tR tF aK aV tg SZ s) {i : Int32} (hi0 : 0 ≤ i.toInt) (hi : i.toInt + 6 ≤ (L : Int)) {ls : Array Slot} (hl : lv_has ls 4 [(3, .int i), (2, .ref m0), (1, .ref x0), (0, .ref b)]) (kk : ∀ (H : Heap) (locs : List Loc) (cells slots : Nat), INV dC dI cyI cyB cyJ cyZ cyH cyN cyM tg SZ x0 m0 H cells slots → va_S (fun q : Nat => s.heap.size ≤ q) s.heap H locs → W p l e room_1 s m #[Value.ref b] below meth c H locs cells slots (lw_Z below #[Value.ref b] s) (F0 m 1930 ls [])) {H : Heap} {locs : List Loc} {cells slots : Nat} (hI : INV dC dI cyI cyB cyJ cyZ cyH cyN cyM tg SZ x0 m0 H cells slots) (hS : va_S (fun q : Nat => s.heap.size ≤ q) s.heap H locs) : W p l e room_1 s m #[Value.ref b] below meth c H locs cells slots (lw_Z below #[Value.ref b] s) (F0 m 792 ls []) := by
  obtain ⟨hx, hb, hr, hml, hown, hts0, hX, hbl, hlocks, hgv⟩ := id C0
  have hts : ∀ w ∈ uU, w.before #[Value.ref b] s = true := fun w h => hts0 w (uU_in h)
  have hbA : ¬ (fun q : Nat => s.heap.size ≤ q) b := Nat.not_le.mpr hbl
  refine lv_aload_n hx hb dL_law_792 rfl (lv_at hl 2 rfl) ?_
  obtain ⟨sl, ke_f, s_fm, s_fl, s_fw, m_isKept, m_many, m_width, hXE, hMI, hRR, hSZ, hsl, hce, hso⟩ := hI
  have cont : ∀ (r : Int32) (H : Heap) (locs : List Loc) (cells slots sl : Nat) (ke_1 fm_1 fl_1 fw_1 : Nat → Int32), (True) → (ke_1 = ke_f ∧ fm_1 = s_fm ∧ fl_1 = s_fl ∧ fw_1 = s_fw) → XE dC dI cyI cyB cyJ cyZ cyH cyN cyM tg x0 sl ke_1 fm_1 fl_1 fw_1 H → MI dC dI cyI cyB cyJ cyZ cyH cyN cyM tg m0 m_isKept m_many m_width H → SZ ≤ H.size → (sl = 0 ∨ sl = 1) → cells ≤ 110 + 16 * sl → slots ≤ 15598 + 40501 * sl → va_S (fun q : Nat => s.heap.size ≤ q) s.heap H locs → W p l e room_1 s m #[Value.ref b] below meth c H locs cells slots (lw_Z below #[Value.ref b] s) (F0 m 796 ls [.int r]) := by
    intro r H locs cells slots sl ke_1 fm_1 fl_1 fw_1 hw1 hrel hXE hMI hSZ hsl hce hso hS
    refine lv_pop hx hb dL_law_796 rfl ?_
    refine lv_aload_n hx hb dL_law_797 rfl (lv_at hl 1 rfl) ?_
    refine va_calli (va_runV (As := []) (rest := []) ⟨hx, hb, hml, hown, hts⟩ (wm_rings l dC dI cyI cyB cyJ cyZ cyH cyN cyM tg H.size m0 m_isKept m_many m_width ) (cwV 0 hts (gdV wd_7_199 wd_7_200 wd_7_201 wd_1_11 wd_7_202) rfl rfl rfl (by decide +kernel) ⟨Nat.le_of_ble_eq_true rfl, Nat.le_of_ble_eq_true rfl⟩) (mp_pre hFIX hMI) rfl rfl hl.1 rfl (lv_room (Nat.le_of_ble_eq_true rfl)) dL_law_798 ⟨show cells + 0 ≤ 600000 by omega, show slots + 0 ≤ 7302250 by omega⟩) hS (fun q _ h => am_old hFIX hS q h) (am_old hFIX hS) (fun r2 u t H1 locs1 ht hvm hw hB hz1 hk1 hS1 => ?_)
    replace hB : MI dC dI cyI cyB cyJ cyZ cyH cyN cyM tg m0 m_isKept m_many m_width t.heap := hB
    rw [ht] at hB
    have hXE2 := hXE.go (fun q h1 h2 => hk1 q h1 (am_not h1 h2))
    have hRR2 : RR ke_1 fm_1 fl_1 fw_1 m_isKept m_many m_width := by
      rw [hrel.1, hrel.2.1, hrel.2.2.1, hrel.2.2.2]
      exact hRR
    refine lv_pop hx hb dL_law_801 rfl ?_
    refine lv_goto (tgt := 1930) hx hb dL_law_802 (by decide) ?_
    exact kk _ _ _ _ ⟨sl, ke_1, fm_1, fl_1, fw_1, m_isKept, m_many, m_width, hXE2, hB, hRR2, Nat.le_trans hSZ hz1, hsl, hce, hso⟩ hS1
  refine va_calli (va_runV (As := []) (rest := []) ⟨hx, hb, hml, hown, hts⟩ (wx_rings l dC dI cyI cyB cyJ cyZ cyH cyN cyM tR tF aK aV tg H.size x0 sl ke_f s_fm s_fl s_fw ) (cwV 0 hts (gdV wd_3_213 wd_3_214 wd_3_215 wd_1_1 wd_3_216) rfl rfl rfl (by decide +kernel) ⟨Nat.le_of_ble_eq_true rfl, Nat.le_of_ble_eq_true rfl⟩) (xp_pre hFIX hS hXE) rfl rfl hl.1 rfl (lv_room (Nat.le_of_ble_eq_true rfl)) dL_law_793 ⟨show cells + 0 ≤ 600000 by omega, show slots + 0 ≤ 7302250 by omega⟩) hS (fun q _ h => ax_old hFIX hS q h) (ax_old hFIX hS) (fun r1 u t H1 locs1 ht hvm hw hB hz1 hk1 hS1 => ?_)
  replace hB : XE dC dI cyI cyB cyJ cyZ cyH cyN cyM tg x0 sl ke_f s_fm s_fl s_fw t.heap := hB
  rw [ht] at hB
  exact cont r1 H1 locs1 _ _ sl ke_f s_fm s_fl s_fw trivial ⟨rfl, rfl, rfl, rfl⟩ hB (hMI.go (fun q h1 h2 => hk1 q h1 (ax_not h1 h2))) (Nat.le_trans hSZ hz1) hsl (by omega) (by omega) hS1
set_option maxHeartbeats 4000000 in
set_option maxRecDepth 100000 in
theorem law_c21 {p : Program} {l : Launch} {e : Env} {s : State} {m : MethodId} {below : List Frame} {meth : Method} {c : Code} {b L : Nat} {xs : Nat → Int32} (hL : L ≤ 3072) (C0 : lw_At p s m meth c b L xs) {dC : Nat → ClassId} {dI : Nat → Nat → Nat} {cyI cyB cyJ cyZ cyH cyN cyM : ClassId} {tR tF : Nat} {aK aV : Nat → Nat} {tg : Nat → Nat} {SZ x0 m0 : Nat} (hFIX : FIX dC dI cyI cyB cyJ cyZ cyH cyN cyM tR tF aK aV tg SZ s) {i : Int32} (hi0 : 0 ≤ i.toInt) (hi : i.toInt + 6 ≤ (L : Int)) {ls : Array Slot} (hl : lv_has ls 4 [(3, .int i), (2, .ref m0), (1, .ref x0), (0, .ref b)]) (kk : ∀ (H : Heap) (locs : List Loc) (cells slots : Nat), INV dC dI cyI cyB cyJ cyZ cyH cyN cyM tg SZ x0 m0 H cells slots → va_S (fun q : Nat => s.heap.size ≤ q) s.heap H locs → W p l e room_1 s m #[Value.ref b] below meth c H locs cells slots (lw_Z below #[Value.ref b] s) (F0 m 1930 ls [])) {H : Heap} {locs : List Loc} {cells slots : Nat} (hI : INV dC dI cyI cyB cyJ cyZ cyH cyN cyM tg SZ x0 m0 H cells slots) (hS : va_S (fun q : Nat => s.heap.size ≤ q) s.heap H locs) : W p l e room_1 s m #[Value.ref b] below meth c H locs cells slots (lw_Z below #[Value.ref b] s) (F0 m 805 ls []) := by
  obtain ⟨hx, hb, hr, hml, hown, hts0, hX, hbl, hlocks, hgv⟩ := id C0
  have hts : ∀ w ∈ uU, w.before #[Value.ref b] s = true := fun w h => hts0 w (uU_in h)
  have hbA : ¬ (fun q : Nat => s.heap.size ≤ q) b := Nat.not_le.mpr hbl
  refine lv_aload_n hx hb dL_law_805 rfl (lv_at hl 2 rfl) ?_
  obtain ⟨sl, ke_f, s_fm, s_fl, s_fw, m_isKept, m_many, m_width, hXE, hMI, hRR, hSZ, hsl, hce, hso⟩ := hI
  have cont : ∀ (r : Int32) (H : Heap) (locs : List Loc) (cells slots sl : Nat) (ke_1 fm_1 fl_1 fw_1 : Nat → Int32), (True) → (ke_1 = ke_f ∧ fm_1 = s_fm ∧ fl_1 = s_fl ∧ fw_1 = s_fw) → XE dC dI cyI cyB cyJ cyZ cyH cyN cyM tg x0 sl ke_1 fm_1 fl_1 fw_1 H → MI dC dI cyI cyB cyJ cyZ cyH cyN cyM tg m0 m_isKept m_many m_width H → SZ ≤ H.size → (sl = 0 ∨ sl = 1) → cells ≤ 110 + 16 * sl → slots ≤ 15598 + 40501 * sl → va_S (fun q : Nat => s.heap.size ≤ q) s.heap H locs → W p l e room_1 s m #[Value.ref b] below meth c H locs cells slots (lw_Z below #[Value.ref b] s) (F0 m 809 ls [.int r]) := by
    intro r H locs cells slots sl ke_1 fm_1 fl_1 fw_1 hw1 hrel hXE hMI hSZ hsl hce hso hS
    refine lv_pop hx hb dL_law_809 rfl ?_
    refine lv_aload_n hx hb dL_law_810 rfl (lv_at hl 1 rfl) ?_
    refine va_calli (va_runV (As := []) (rest := []) ⟨hx, hb, hml, hown, hts⟩ (wm_stay l dC dI cyI cyB cyJ cyZ cyH cyN cyM tg H.size m0 m_isKept m_many m_width ) (cwV 0 hts (gdV wd_7_203 wd_7_204 wd_7_205 wd_1_11 wd_7_206) rfl rfl rfl (by decide +kernel) ⟨Nat.le_of_ble_eq_true rfl, Nat.le_of_ble_eq_true rfl⟩) (mp_pre hFIX hMI) rfl rfl hl.1 rfl (lv_room (Nat.le_of_ble_eq_true rfl)) dL_law_811 ⟨show cells + 0 ≤ 600000 by omega, show slots + 0 ≤ 7302250 by omega⟩) hS (fun q _ h => am_old hFIX hS q h) (am_old hFIX hS) (fun r2 u t H1 locs1 ht hvm hw hB hz1 hk1 hS1 => ?_)
    replace hB : MI dC dI cyI cyB cyJ cyZ cyH cyN cyM tg m0 m_isKept m_many m_width t.heap := hB
    rw [ht] at hB
    have hXE2 := hXE.go (fun q h1 h2 => hk1 q h1 (am_not h1 h2))
    have hRR2 : RR ke_1 fm_1 fl_1 fw_1 m_isKept m_many m_width := by
      rw [hrel.1, hrel.2.1, hrel.2.2.1, hrel.2.2.2]
      exact hRR
    refine lv_pop hx hb dL_law_814 rfl ?_
    refine lv_goto (tgt := 1930) hx hb dL_law_815 (by decide) ?_
    exact kk _ _ _ _ ⟨sl, ke_1, fm_1, fl_1, fw_1, m_isKept, m_many, m_width, hXE2, hB, hRR2, Nat.le_trans hSZ hz1, hsl, hce, hso⟩ hS1
  refine va_calli (va_runV (As := []) (rest := []) ⟨hx, hb, hml, hown, hts⟩ (wx_stay l dC dI cyI cyB cyJ cyZ cyH cyN cyM tR tF aK aV tg H.size x0 sl ke_f s_fm s_fl s_fw ) (cwV 0 hts (gdV wd_3_221 wd_3_222 wd_3_223 wd_1_1 wd_3_224) rfl rfl rfl (by decide +kernel) ⟨Nat.le_of_ble_eq_true rfl, Nat.le_of_ble_eq_true rfl⟩) (xp_pre hFIX hS hXE) rfl rfl hl.1 rfl (lv_room (Nat.le_of_ble_eq_true rfl)) dL_law_806 ⟨show cells + 0 ≤ 600000 by omega, show slots + 0 ≤ 7302250 by omega⟩) hS (fun q _ h => ax_old hFIX hS q h) (ax_old hFIX hS) (fun r1 u t H1 locs1 ht hvm hw hB hz1 hk1 hS1 => ?_)
  replace hB : XE dC dI cyI cyB cyJ cyZ cyH cyN cyM tg x0 sl ke_f s_fm s_fl s_fw t.heap := hB
  rw [ht] at hB
  exact cont r1 H1 locs1 _ _ sl ke_f s_fm s_fl s_fw trivial ⟨rfl, rfl, rfl, rfl⟩ hB (hMI.go (fun q h1 h2 => hk1 q h1 (ax_not h1 h2))) (Nat.le_trans hSZ hz1) hsl (by omega) (by omega) hS1

set_option maxHeartbeats 4000000 in
set_option maxRecDepth 100000 in
theorem wx_wins (l : Launch) (dC : Nat → ClassId) (dI : Nat → Nat → Nat) (cyI cyB cyJ cyZ cyH cyN cyM : ClassId) (tR tF : Nat) (aK aV : Nat → Nat) (tg : Nat → Nat) (sz : Nat) (x0 sl : Nat) (ke_f s_fm s_fl s_fw : Nat → Int32) (p0 : Int32) : Met l yX11_wins (wk yX11_wins cX11_wins 2 (some .int)) ({ frames := 4, cells := 0, slots := 0, locals := 129 }) (va_Pc [.ref x0, .int p0] (XP dC dI cyI cyB cyJ cyZ cyH cyN cyM tR tF aK aV tg sz x0 sl ke_f s_fm s_fl s_fw)) (va_Qi (fun (r : Int32) (_ : Unit) => True) (fun (_ : Unit) (t : State) => XE dC dI cyI cyB cyJ cyZ cyH cyN cyM tg x0 sl ke_f s_fm s_fl s_fw t.heap) (AX tg sz)) 0 0 (AX tg sz) := by
  refine met_of (fun a st hp => ?_)
  obtain ⟨ha, hsz, ⟨a_pl, s_n0, s_n1, s_n2, s_n3, t0, h0, d0, im, ke, sl0, c0, v0, q0, s0, gm0, l0, to, tr, vsl, hx, h_tape, h_hall, h_draft, h_images, h_kept, h_slots, h_course, h_sight, h_parting, h_suiting, h_game, h_lots, h_told, h_tried, hsl⟩, hK, hNB, hFX⟩ := hp
  subst hsz
  obtain ⟨_, rfl, hP_x, hD_x⟩ := hx
  obtain ⟨_, ⟨a_first, a_now, a_lawPlace, a_lawOther, a_lawEach, a_lawFrom, a_foes, a_suitTable, a_acts, a_li, a_le, a_lc, a_ac, a_ng, a_f_first, a_f_now, a_f_lawPlace, a_f_lawOther, a_f_lawEach, a_f_lawFrom, a_f_foes, a_f_suitTable, a_f_acts, Fhall_0, Fhall_1, Fhall_2, Fhall_3, Fhall_4, Fhall_5, Fhall_6, Fhall_7, Fhall_8, rfl⟩, hP_hall, hD_hall⟩ := h_hall
  obtain ⟨_, ⟨g_won, g_f, ghv, rfl⟩, hP_game, hD_game⟩ := h_game
  have hPa : va_P (dC, dI) vwCl [(x0, .inr (10, [.ref t0, .ref h0, .ref d0, .ref im, .ref ke, .ref sl0, .ref c0, .ref v0, .ref q0, .ref s0, .ref gm0, .ref l0, .ref to, .ref tr, vsl])), (h0, .inr (2, [.int a_pl, .int a_li, .int a_le, .int a_lc, .int a_ac, .int a_ng, .ref a_first, .ref a_now, .ref a_lawPlace, .ref a_lawOther, .ref a_lawEach, .ref a_lawFrom, .ref a_foes, .ref a_suitTable, .ref a_acts])), (a_first, .inl (cyI, 7, .inl a_f_first)), (a_now, .inl (cyI, 7, .inl a_f_now)), (a_lawPlace, .inl (cyI, 6, .inl a_f_lawPlace)), (a_lawOther, .inl (cyI, 6, .inl a_f_lawOther)), (a_lawEach, .inl (cyI, 6, .inl a_f_lawEach)), (a_lawFrom, .inl (cyI, 6, .inl a_f_lawFrom)), (a_foes, .inl (cyI, 7, .inl a_f_foes)), (a_suitTable, .inl (cyI, 49, .inl a_f_suitTable)), (a_acts, .inl (cyI, 40, .inl a_f_acts)), (gm0, .inr (1, [.ref g_won, ghv])), (g_won, .inl (cyI, 128, .inl g_f))] st.heap := va_P.app hP_x (va_P.app hP_hall hP_game)
  have hDa : va_D (TT tg [0, 2, 11]) [(x0, .inr (10, [.ref t0, .ref h0, .ref d0, .ref im, .ref ke, .ref sl0, .ref c0, .ref v0, .ref q0, .ref s0, .ref gm0, .ref l0, .ref to, .ref tr, vsl])), (h0, .inr (2, [.int a_pl, .int a_li, .int a_le, .int a_lc, .int a_ac, .int a_ng, .ref a_first, .ref a_now, .ref a_lawPlace, .ref a_lawOther, .ref a_lawEach, .ref a_lawFrom, .ref a_foes, .ref a_suitTable, .ref a_acts])), (a_first, .inl (cyI, 7, .inl a_f_first)), (a_now, .inl (cyI, 7, .inl a_f_now)), (a_lawPlace, .inl (cyI, 6, .inl a_f_lawPlace)), (a_lawOther, .inl (cyI, 6, .inl a_f_lawOther)), (a_lawEach, .inl (cyI, 6, .inl a_f_lawEach)), (a_lawFrom, .inl (cyI, 6, .inl a_f_lawFrom)), (a_foes, .inl (cyI, 7, .inl a_f_foes)), (a_suitTable, .inl (cyI, 49, .inl a_f_suitTable)), (a_acts, .inl (cyI, 40, .inl a_f_acts)), (gm0, .inr (1, [.ref g_won, ghv])), (g_won, .inl (cyI, 128, .inl g_f))] := (va_D.tt hD_x (va_D.tt hD_hall hD_game (by decide)) (by decide))
  refine ⟨_, _, _, x_wins l dC dI cyI cyB cyJ cyZ cyH cyN tR tF aK aV st.heap.size x0 h0 a_first a_now a_lawPlace a_lawOther a_lawEach a_lawFrom a_foes a_suitTable a_acts a_pl a_li a_le a_lc a_ac a_ng a_f_first a_f_now a_f_lawPlace a_f_lawOther a_f_lawEach a_f_lawFrom a_f_foes a_f_suitTable a_f_acts gm0 g_won g_f ghv t0 d0 im ke sl0 c0 v0 q0 s0 l0 to tr vsl p0 Fhall_0 Fhall_1 Fhall_2 Fhall_3 Fhall_4 Fhall_5 Fhall_6 Fhall_7 Fhall_8, ⟨ha, rfl, hPa, hK.sub [0, 1, 2, 3, 4, 5] rfl, hDa.weaken (fun _ _ _ _ => trivial), hFX.narrow (ax_of hDa (by decide))⟩, ?_, ax_of hDa (by decide)⟩
  rintro o t ⟨⟨r, u, ho, hr, z0, y1, hP', hD'⟩, hF⟩
  refine ⟨⟨r, (), ho, hr, a_pl, s_n0, s_n1, s_n2, s_n3, t0, h0, d0, im, ke, sl0, c0, v0, q0, s0, gm0, l0, to, tr, vsl, ⟨_, rfl, hP'.sub [0] rfl, hD_x.same rfl⟩,
    h_tape.frame hF hDa (by decide),
    ⟨_, ⟨a_first, a_now, a_lawPlace, a_lawOther, a_lawEach, a_lawFrom, a_foes, a_suitTable, a_acts, a_li, a_le, a_lc, a_ac, a_ng, a_f_first, a_f_now, a_f_lawPlace, a_f_lawOther, a_f_lawEach, a_f_lawFrom, a_f_foes, a_f_suitTable, a_f_acts, Fhall_0, Fhall_1, Fhall_2, Fhall_3, Fhall_4, Fhall_5, Fhall_6, Fhall_7, Fhall_8, rfl⟩, hP'.sub [1, 2, 3, 4, 5, 6, 7, 8, 9, 10] rfl, hD_hall.same rfl⟩,
    h_draft.frame hF hDa (by decide),
    h_images.frame hF hDa (by decide),
    h_kept.frame hF hDa (by decide),
    h_slots.frame hF hDa (by decide),
    h_course.frame hF hDa (by decide),
    h_sight.frame hF hDa (by decide),
    h_parting.frame hF hDa (by decide),
    h_suiting.frame hF hDa (by decide),
    ⟨_, ⟨g_won, y1, z0, rfl⟩, hP'.sub [11, 12] rfl, hD_game.same rfl⟩,
    h_lots.frame hF hDa (by decide),
    h_told.frame hF hDa (by decide),
    h_tried.frame hF hDa (by decide),
    hsl.go (tt_keep hF hDa (by decide))⟩, hF.wide (ax_of hDa (by decide))⟩
set_option maxHeartbeats 4000000 in
set_option maxRecDepth 100000 in
theorem wx_takes (l : Launch) (dC : Nat → ClassId) (dI : Nat → Nat → Nat) (cyI cyB cyJ cyZ cyH cyN cyM : ClassId) (tR tF : Nat) (aK aV : Nat → Nat) (tg : Nat → Nat) (sz : Nat) (x0 sl : Nat) (ke_f s_fm s_fl s_fw : Nat → Int32) (p0 : Int32) : Met l yX11_takes (wk yX11_takes cX11_takes 2 (some .int)) ({ frames := 4, cells := 0, slots := 0, locals := 129 }) (va_Pc [.ref x0, .int p0] (XP dC dI cyI cyB cyJ cyZ cyH cyN cyM tR tF aK aV tg sz x0 sl ke_f s_fm s_fl s_fw)) (va_Qi (fun (r : Int32) (_ : Unit) => True) (fun (_ : Unit) (t : State) => XE dC dI cyI cyB cyJ cyZ cyH cyN cyM tg x0 sl ke_f s_fm s_fl s_fw t.heap) (AX tg sz)) 0 0 (AX tg sz) := by
  refine met_of (fun a st hp => ?_)
  obtain ⟨ha, hsz, ⟨a_pl, s_n0, s_n1, s_n2, s_n3, t0, h0, d0, im, ke, sl0, c0, v0, q0, s0, gm0, l0, to, tr, vsl, hx, h_tape, h_hall, h_draft, h_images, h_kept, h_slots, h_course, h_sight, h_parting, h_suiting, h_game, h_lots, h_told, h_tried, hsl⟩, hK, hNB, hFX⟩ := hp
  subst hsz
  obtain ⟨_, rfl, hP_x, hD_x⟩ := hx
  obtain ⟨_, ⟨a_first, a_now, a_lawPlace, a_lawOther, a_lawEach, a_lawFrom, a_foes, a_suitTable, a_acts, a_li, a_le, a_lc, a_ac, a_ng, a_f_first, a_f_now, a_f_lawPlace, a_f_lawOther, a_f_lawEach, a_f_lawFrom, a_f_foes, a_f_suitTable, a_f_acts, Fhall_0, Fhall_1, Fhall_2, Fhall_3, Fhall_4, Fhall_5, Fhall_6, Fhall_7, Fhall_8, rfl⟩, hP_hall, hD_hall⟩ := h_hall
  obtain ⟨_, ⟨g_won, g_f, ghv, rfl⟩, hP_game, hD_game⟩ := h_game
  have hPa : va_P (dC, dI) vwCl [(x0, .inr (10, [.ref t0, .ref h0, .ref d0, .ref im, .ref ke, .ref sl0, .ref c0, .ref v0, .ref q0, .ref s0, .ref gm0, .ref l0, .ref to, .ref tr, vsl])), (h0, .inr (2, [.int a_pl, .int a_li, .int a_le, .int a_lc, .int a_ac, .int a_ng, .ref a_first, .ref a_now, .ref a_lawPlace, .ref a_lawOther, .ref a_lawEach, .ref a_lawFrom, .ref a_foes, .ref a_suitTable, .ref a_acts])), (a_first, .inl (cyI, 7, .inl a_f_first)), (a_now, .inl (cyI, 7, .inl a_f_now)), (a_lawPlace, .inl (cyI, 6, .inl a_f_lawPlace)), (a_lawOther, .inl (cyI, 6, .inl a_f_lawOther)), (a_lawEach, .inl (cyI, 6, .inl a_f_lawEach)), (a_lawFrom, .inl (cyI, 6, .inl a_f_lawFrom)), (a_foes, .inl (cyI, 7, .inl a_f_foes)), (a_suitTable, .inl (cyI, 49, .inl a_f_suitTable)), (a_acts, .inl (cyI, 40, .inl a_f_acts)), (gm0, .inr (1, [.ref g_won, ghv])), (g_won, .inl (cyI, 128, .inl g_f))] st.heap := va_P.app hP_x (va_P.app hP_hall hP_game)
  have hDa : va_D (TT tg [0, 2, 11]) [(x0, .inr (10, [.ref t0, .ref h0, .ref d0, .ref im, .ref ke, .ref sl0, .ref c0, .ref v0, .ref q0, .ref s0, .ref gm0, .ref l0, .ref to, .ref tr, vsl])), (h0, .inr (2, [.int a_pl, .int a_li, .int a_le, .int a_lc, .int a_ac, .int a_ng, .ref a_first, .ref a_now, .ref a_lawPlace, .ref a_lawOther, .ref a_lawEach, .ref a_lawFrom, .ref a_foes, .ref a_suitTable, .ref a_acts])), (a_first, .inl (cyI, 7, .inl a_f_first)), (a_now, .inl (cyI, 7, .inl a_f_now)), (a_lawPlace, .inl (cyI, 6, .inl a_f_lawPlace)), (a_lawOther, .inl (cyI, 6, .inl a_f_lawOther)), (a_lawEach, .inl (cyI, 6, .inl a_f_lawEach)), (a_lawFrom, .inl (cyI, 6, .inl a_f_lawFrom)), (a_foes, .inl (cyI, 7, .inl a_f_foes)), (a_suitTable, .inl (cyI, 49, .inl a_f_suitTable)), (a_acts, .inl (cyI, 40, .inl a_f_acts)), (gm0, .inr (1, [.ref g_won, ghv])), (g_won, .inl (cyI, 128, .inl g_f))] := (va_D.tt hD_x (va_D.tt hD_hall hD_game (by decide)) (by decide))
  refine ⟨_, _, _, x_takes l dC dI cyI cyB cyJ cyZ cyH cyN tR tF aK aV st.heap.size x0 h0 a_first a_now a_lawPlace a_lawOther a_lawEach a_lawFrom a_foes a_suitTable a_acts a_pl a_li a_le a_lc a_ac a_ng a_f_first a_f_now a_f_lawPlace a_f_lawOther a_f_lawEach a_f_lawFrom a_f_foes a_f_suitTable a_f_acts gm0 g_won g_f ghv t0 d0 im ke sl0 c0 v0 q0 s0 l0 to tr vsl p0 Fhall_0 Fhall_1 Fhall_2 Fhall_3 Fhall_4 Fhall_5 Fhall_6 Fhall_7 Fhall_8, ⟨ha, rfl, hPa, hK.sub [0, 1, 2, 3, 4, 5] rfl, hDa.weaken (fun _ _ _ _ => trivial), hFX.narrow (ax_of hDa (by decide))⟩, ?_, ax_of hDa (by decide)⟩
  rintro o t ⟨⟨r, u, ho, hr, z0, y1, hP', hD'⟩, hF⟩
  refine ⟨⟨r, (), ho, hr, a_pl, s_n0, s_n1, s_n2, s_n3, t0, h0, d0, im, ke, sl0, c0, v0, q0, s0, gm0, l0, to, tr, vsl, ⟨_, rfl, hP'.sub [0] rfl, hD_x.same rfl⟩,
    h_tape.frame hF hDa (by decide),
    ⟨_, ⟨a_first, a_now, a_lawPlace, a_lawOther, a_lawEach, a_lawFrom, a_foes, a_suitTable, a_acts, a_li, a_le, a_lc, a_ac, a_ng, a_f_first, a_f_now, a_f_lawPlace, a_f_lawOther, a_f_lawEach, a_f_lawFrom, a_f_foes, a_f_suitTable, a_f_acts, Fhall_0, Fhall_1, Fhall_2, Fhall_3, Fhall_4, Fhall_5, Fhall_6, Fhall_7, Fhall_8, rfl⟩, hP'.sub [1, 2, 3, 4, 5, 6, 7, 8, 9, 10] rfl, hD_hall.same rfl⟩,
    h_draft.frame hF hDa (by decide),
    h_images.frame hF hDa (by decide),
    h_kept.frame hF hDa (by decide),
    h_slots.frame hF hDa (by decide),
    h_course.frame hF hDa (by decide),
    h_sight.frame hF hDa (by decide),
    h_parting.frame hF hDa (by decide),
    h_suiting.frame hF hDa (by decide),
    ⟨_, ⟨g_won, y1, z0, rfl⟩, hP'.sub [11, 12] rfl, hD_game.same rfl⟩,
    h_lots.frame hF hDa (by decide),
    h_told.frame hF hDa (by decide),
    h_tried.frame hF hDa (by decide),
    hsl.go (tt_keep hF hDa (by decide))⟩, hF.wide (ax_of hDa (by decide))⟩
set_option maxHeartbeats 4000000 in
set_option maxRecDepth 100000 in
theorem wx_chance (l : Launch) (dC : Nat → ClassId) (dI : Nat → Nat → Nat) (cyI cyB cyJ cyZ cyH cyN cyM : ClassId) (tR tF : Nat) (aK aV : Nat → Nat) (tg : Nat → Nat) (sz : Nat) (x0 sl : Nat) (ke_f s_fm s_fl s_fw : Nat → Int32) (p0 p1 p2 : Int32) : Met l yX11_chance (wk yX11_chance cX11_chance 8 (some .long)) ({ frames := 4, cells := 0, slots := 0, locals := 128 }) (va_Pc [.ref x0, .int p0, .int p1, .int p2] (XP dC dI cyI cyB cyJ cyZ cyH cyN cyM tR tF aK aV tg sz x0 sl ke_f s_fm s_fl s_fw)) (va_Ql (fun (r : Int64) (_ : Unit) => True) (fun (_ : Unit) (t : State) => XE dC dI cyI cyB cyJ cyZ cyH cyN cyM tg x0 sl ke_f s_fm s_fl s_fw t.heap) (AX tg sz)) 0 0 (AX tg sz) := by
  refine met_of (fun a st hp => ?_)
  obtain ⟨ha, hsz, ⟨a_pl, s_n0, s_n1, s_n2, s_n3, t0, h0, d0, im, ke, sl0, c0, v0, q0, s0, gm0, l0, to, tr, vsl, hx, h_tape, h_hall, h_draft, h_images, h_kept, h_slots, h_course, h_sight, h_parting, h_suiting, h_game, h_lots, h_told, h_tried, hsl⟩, hK, hNB, hFX⟩ := hp
  subst hsz
  obtain ⟨_, rfl, hP_x, hD_x⟩ := hx
  obtain ⟨_, ⟨a_first, a_now, a_lawPlace, a_lawOther, a_lawEach, a_lawFrom, a_foes, a_suitTable, a_acts, a_li, a_le, a_lc, a_ac, a_ng, a_f_first, a_f_now, a_f_lawPlace, a_f_lawOther, a_f_lawEach, a_f_lawFrom, a_f_foes, a_f_suitTable, a_f_acts, Fhall_0, Fhall_1, Fhall_2, Fhall_3, Fhall_4, Fhall_5, Fhall_6, Fhall_7, Fhall_8, rfl⟩, hP_hall, hD_hall⟩ := h_hall
  obtain ⟨_, ⟨l_cases, l_before, l_all, l_fc, l_fb, rfl⟩, hP_lots, hD_lots⟩ := h_lots
  have hPa : va_P (dC, dI) vwCl [(x0, .inr (10, [.ref t0, .ref h0, .ref d0, .ref im, .ref ke, .ref sl0, .ref c0, .ref v0, .ref q0, .ref s0, .ref gm0, .ref l0, .ref to, .ref tr, vsl])), (h0, .inr (2, [.int a_pl, .int a_li, .int a_le, .int a_lc, .int a_ac, .int a_ng, .ref a_first, .ref a_now, .ref a_lawPlace, .ref a_lawOther, .ref a_lawEach, .ref a_lawFrom, .ref a_foes, .ref a_suitTable, .ref a_acts])), (a_first, .inl (cyI, 7, .inl a_f_first)), (a_now, .inl (cyI, 7, .inl a_f_now)), (a_lawPlace, .inl (cyI, 6, .inl a_f_lawPlace)), (a_lawOther, .inl (cyI, 6, .inl a_f_lawOther)), (a_lawEach, .inl (cyI, 6, .inl a_f_lawEach)), (a_lawFrom, .inl (cyI, 6, .inl a_f_lawFrom)), (a_foes, .inl (cyI, 7, .inl a_f_foes)), (a_suitTable, .inl (cyI, 49, .inl a_f_suitTable)), (a_acts, .inl (cyI, 40, .inl a_f_acts)), (l0, .inr (3, [.ref l_cases, .long l_all, .ref l_before])), (l_cases, .inl (cyJ, 7, .inr (.inl l_fc))), (l_before, .inl (cyJ, 7, .inr (.inl l_fb)))] st.heap := va_P.app hP_x (va_P.app hP_hall hP_lots)
  have hDa : va_D (TT tg [0, 2, 12]) [(x0, .inr (10, [.ref t0, .ref h0, .ref d0, .ref im, .ref ke, .ref sl0, .ref c0, .ref v0, .ref q0, .ref s0, .ref gm0, .ref l0, .ref to, .ref tr, vsl])), (h0, .inr (2, [.int a_pl, .int a_li, .int a_le, .int a_lc, .int a_ac, .int a_ng, .ref a_first, .ref a_now, .ref a_lawPlace, .ref a_lawOther, .ref a_lawEach, .ref a_lawFrom, .ref a_foes, .ref a_suitTable, .ref a_acts])), (a_first, .inl (cyI, 7, .inl a_f_first)), (a_now, .inl (cyI, 7, .inl a_f_now)), (a_lawPlace, .inl (cyI, 6, .inl a_f_lawPlace)), (a_lawOther, .inl (cyI, 6, .inl a_f_lawOther)), (a_lawEach, .inl (cyI, 6, .inl a_f_lawEach)), (a_lawFrom, .inl (cyI, 6, .inl a_f_lawFrom)), (a_foes, .inl (cyI, 7, .inl a_f_foes)), (a_suitTable, .inl (cyI, 49, .inl a_f_suitTable)), (a_acts, .inl (cyI, 40, .inl a_f_acts)), (l0, .inr (3, [.ref l_cases, .long l_all, .ref l_before])), (l_cases, .inl (cyJ, 7, .inr (.inl l_fc))), (l_before, .inl (cyJ, 7, .inr (.inl l_fb)))] := (va_D.tt hD_x (va_D.tt hD_hall hD_lots (by decide)) (by decide))
  refine ⟨_, _, _, x_chance l dC dI cyI cyB cyJ cyZ cyH cyN tR tF aK aV st.heap.size x0 h0 a_first a_now a_lawPlace a_lawOther a_lawEach a_lawFrom a_foes a_suitTable a_acts a_pl a_li a_le a_lc a_ac a_ng a_f_first a_f_now a_f_lawPlace a_f_lawOther a_f_lawEach a_f_lawFrom a_f_foes a_f_suitTable a_f_acts l0 l_cases l_before l_all l_fc l_fb t0 d0 im ke sl0 c0 v0 q0 s0 gm0 to tr vsl p0 p1 p2 Fhall_0 Fhall_1 Fhall_2 Fhall_3 Fhall_4 Fhall_5 Fhall_6 Fhall_7 Fhall_8, ⟨ha, rfl, hPa, hK.sub [0, 1, 2, 3, 4, 5] rfl, hDa.weaken (fun _ _ _ _ => trivial), hFX.narrow (ax_of hDa (by decide))⟩, ?_, ax_of hDa (by decide)⟩
  rintro o t ⟨⟨r, u, ho, hr, z0, y1, y2, hP', hD'⟩, hF⟩
  refine ⟨⟨r, (), ho, hr, a_pl, s_n0, s_n1, s_n2, s_n3, t0, h0, d0, im, ke, sl0, c0, v0, q0, s0, gm0, l0, to, tr, vsl, ⟨_, rfl, hP'.sub [0] rfl, hD_x.same rfl⟩,
    h_tape.frame hF hDa (by decide),
    ⟨_, ⟨a_first, a_now, a_lawPlace, a_lawOther, a_lawEach, a_lawFrom, a_foes, a_suitTable, a_acts, a_li, a_le, a_lc, a_ac, a_ng, a_f_first, a_f_now, a_f_lawPlace, a_f_lawOther, a_f_lawEach, a_f_lawFrom, a_f_foes, a_f_suitTable, a_f_acts, Fhall_0, Fhall_1, Fhall_2, Fhall_3, Fhall_4, Fhall_5, Fhall_6, Fhall_7, Fhall_8, rfl⟩, hP'.sub [1, 2, 3, 4, 5, 6, 7, 8, 9, 10] rfl, hD_hall.same rfl⟩,
    h_draft.frame hF hDa (by decide),
    h_images.frame hF hDa (by decide),
    h_kept.frame hF hDa (by decide),
    h_slots.frame hF hDa (by decide),
    h_course.frame hF hDa (by decide),
    h_sight.frame hF hDa (by decide),
    h_parting.frame hF hDa (by decide),
    h_suiting.frame hF hDa (by decide),
    h_game.frame hF hDa (by decide),
    ⟨_, ⟨l_cases, l_before, z0, y1, y2, rfl⟩, hP'.sub [11, 12, 13] rfl, hD_lots.same rfl⟩,
    h_told.frame hF hDa (by decide),
    h_tried.frame hF hDa (by decide),
    hsl.go (tt_keep hF hDa (by decide))⟩, hF.wide (ax_of hDa (by decide))⟩
set_option maxHeartbeats 4000000 in
set_option maxRecDepth 100000 in
theorem wx_likely (l : Launch) (dC : Nat → ClassId) (dI : Nat → Nat → Nat) (cyI cyB cyJ cyZ cyH cyN cyM : ClassId) (tR tF : Nat) (aK aV : Nat → Nat) (tg : Nat → Nat) (sz : Nat) (x0 sl : Nat) (ke_f s_fm s_fl s_fw : Nat → Int32) (p0 : Int32) : Met l yX11_likely (wk yX11_likely cX11_likely 4 (some .int)) ({ frames := 4, cells := 0, slots := 0, locals := 128 }) (va_Pc [.ref x0, .int p0] (XP dC dI cyI cyB cyJ cyZ cyH cyN cyM tR tF aK aV tg sz x0 sl ke_f s_fm s_fl s_fw)) (va_Qi (fun (r : Int32) (_ : Unit) => True) (fun (_ : Unit) (t : State) => XE dC dI cyI cyB cyJ cyZ cyH cyN cyM tg x0 sl ke_f s_fm s_fl s_fw t.heap) (AX tg sz)) 0 0 (AX tg sz) := by
  refine met_of (fun a st hp => ?_)
  obtain ⟨ha, hsz, ⟨a_pl, s_n0, s_n1, s_n2, s_n3, t0, h0, d0, im, ke, sl0, c0, v0, q0, s0, gm0, l0, to, tr, vsl, hx, h_tape, h_hall, h_draft, h_images, h_kept, h_slots, h_course, h_sight, h_parting, h_suiting, h_game, h_lots, h_told, h_tried, hsl⟩, hK, hNB, hFX⟩ := hp
  subst hsz
  obtain ⟨_, rfl, hP_x, hD_x⟩ := hx
  obtain ⟨_, ⟨a_first, a_now, a_lawPlace, a_lawOther, a_lawEach, a_lawFrom, a_foes, a_suitTable, a_acts, a_li, a_le, a_lc, a_ac, a_ng, a_f_first, a_f_now, a_f_lawPlace, a_f_lawOther, a_f_lawEach, a_f_lawFrom, a_f_foes, a_f_suitTable, a_f_acts, Fhall_0, Fhall_1, Fhall_2, Fhall_3, Fhall_4, Fhall_5, Fhall_6, Fhall_7, Fhall_8, rfl⟩, hP_hall, hD_hall⟩ := h_hall
  obtain ⟨_, ⟨l_cases, l_before, l_all, l_fc, l_fb, rfl⟩, hP_lots, hD_lots⟩ := h_lots
  have hPa : va_P (dC, dI) vwCl [(x0, .inr (10, [.ref t0, .ref h0, .ref d0, .ref im, .ref ke, .ref sl0, .ref c0, .ref v0, .ref q0, .ref s0, .ref gm0, .ref l0, .ref to, .ref tr, vsl])), (h0, .inr (2, [.int a_pl, .int a_li, .int a_le, .int a_lc, .int a_ac, .int a_ng, .ref a_first, .ref a_now, .ref a_lawPlace, .ref a_lawOther, .ref a_lawEach, .ref a_lawFrom, .ref a_foes, .ref a_suitTable, .ref a_acts])), (a_first, .inl (cyI, 7, .inl a_f_first)), (a_now, .inl (cyI, 7, .inl a_f_now)), (a_lawPlace, .inl (cyI, 6, .inl a_f_lawPlace)), (a_lawOther, .inl (cyI, 6, .inl a_f_lawOther)), (a_lawEach, .inl (cyI, 6, .inl a_f_lawEach)), (a_lawFrom, .inl (cyI, 6, .inl a_f_lawFrom)), (a_foes, .inl (cyI, 7, .inl a_f_foes)), (a_suitTable, .inl (cyI, 49, .inl a_f_suitTable)), (a_acts, .inl (cyI, 40, .inl a_f_acts)), (l0, .inr (3, [.ref l_cases, .long l_all, .ref l_before])), (l_cases, .inl (cyJ, 7, .inr (.inl l_fc))), (l_before, .inl (cyJ, 7, .inr (.inl l_fb)))] st.heap := va_P.app hP_x (va_P.app hP_hall hP_lots)
  have hDa : va_D (TT tg [0, 2, 12]) [(x0, .inr (10, [.ref t0, .ref h0, .ref d0, .ref im, .ref ke, .ref sl0, .ref c0, .ref v0, .ref q0, .ref s0, .ref gm0, .ref l0, .ref to, .ref tr, vsl])), (h0, .inr (2, [.int a_pl, .int a_li, .int a_le, .int a_lc, .int a_ac, .int a_ng, .ref a_first, .ref a_now, .ref a_lawPlace, .ref a_lawOther, .ref a_lawEach, .ref a_lawFrom, .ref a_foes, .ref a_suitTable, .ref a_acts])), (a_first, .inl (cyI, 7, .inl a_f_first)), (a_now, .inl (cyI, 7, .inl a_f_now)), (a_lawPlace, .inl (cyI, 6, .inl a_f_lawPlace)), (a_lawOther, .inl (cyI, 6, .inl a_f_lawOther)), (a_lawEach, .inl (cyI, 6, .inl a_f_lawEach)), (a_lawFrom, .inl (cyI, 6, .inl a_f_lawFrom)), (a_foes, .inl (cyI, 7, .inl a_f_foes)), (a_suitTable, .inl (cyI, 49, .inl a_f_suitTable)), (a_acts, .inl (cyI, 40, .inl a_f_acts)), (l0, .inr (3, [.ref l_cases, .long l_all, .ref l_before])), (l_cases, .inl (cyJ, 7, .inr (.inl l_fc))), (l_before, .inl (cyJ, 7, .inr (.inl l_fb)))] := (va_D.tt hD_x (va_D.tt hD_hall hD_lots (by decide)) (by decide))
  refine ⟨_, _, _, x_likely l dC dI cyI cyB cyJ cyZ cyH cyN tR tF aK aV st.heap.size x0 h0 a_first a_now a_lawPlace a_lawOther a_lawEach a_lawFrom a_foes a_suitTable a_acts a_pl a_li a_le a_lc a_ac a_ng a_f_first a_f_now a_f_lawPlace a_f_lawOther a_f_lawEach a_f_lawFrom a_f_foes a_f_suitTable a_f_acts l0 l_cases l_before l_all l_fc l_fb t0 d0 im ke sl0 c0 v0 q0 s0 gm0 to tr vsl p0 Fhall_0 Fhall_1 Fhall_2 Fhall_3 Fhall_4 Fhall_5 Fhall_6 Fhall_7 Fhall_8, ⟨ha, rfl, hPa, hK.sub [0, 1, 2, 3, 4, 5] rfl, hDa.weaken (fun _ _ _ _ => trivial), hFX.narrow (ax_of hDa (by decide))⟩, ?_, ax_of hDa (by decide)⟩
  rintro o t ⟨⟨r, u, ho, hr, z0, y1, y2, hP', hD'⟩, hF⟩
  refine ⟨⟨r, (), ho, hr, a_pl, s_n0, s_n1, s_n2, s_n3, t0, h0, d0, im, ke, sl0, c0, v0, q0, s0, gm0, l0, to, tr, vsl, ⟨_, rfl, hP'.sub [0] rfl, hD_x.same rfl⟩,
    h_tape.frame hF hDa (by decide),
    ⟨_, ⟨a_first, a_now, a_lawPlace, a_lawOther, a_lawEach, a_lawFrom, a_foes, a_suitTable, a_acts, a_li, a_le, a_lc, a_ac, a_ng, a_f_first, a_f_now, a_f_lawPlace, a_f_lawOther, a_f_lawEach, a_f_lawFrom, a_f_foes, a_f_suitTable, a_f_acts, Fhall_0, Fhall_1, Fhall_2, Fhall_3, Fhall_4, Fhall_5, Fhall_6, Fhall_7, Fhall_8, rfl⟩, hP'.sub [1, 2, 3, 4, 5, 6, 7, 8, 9, 10] rfl, hD_hall.same rfl⟩,
    h_draft.frame hF hDa (by decide),
    h_images.frame hF hDa (by decide),
    h_kept.frame hF hDa (by decide),
    h_slots.frame hF hDa (by decide),
    h_course.frame hF hDa (by decide),
    h_sight.frame hF hDa (by decide),
    h_parting.frame hF hDa (by decide),
    h_suiting.frame hF hDa (by decide),
    h_game.frame hF hDa (by decide),
    ⟨_, ⟨l_cases, l_before, z0, y1, y2, rfl⟩, hP'.sub [11, 12, 13] rfl, hD_lots.same rfl⟩,
    h_told.frame hF hDa (by decide),
    h_tried.frame hF hDa (by decide),
    hsl.go (tt_keep hF hDa (by decide))⟩, hF.wide (ax_of hDa (by decide))⟩
set_option maxHeartbeats 4000000 in
set_option maxRecDepth 100000 in
theorem wx_swap (l : Launch) (dC : Nat → ClassId) (dI : Nat → Nat → Nat) (cyI cyB cyJ cyZ cyH cyN cyM : ClassId) (tR tF : Nat) (aK aV : Nat → Nat) (tg : Nat → Nat) (sz : Nat) (x0 sl : Nat) (ke_f s_fm s_fl s_fw : Nat → Int32) (p0 p1 : Int32) : Met l yX11_swap (wk yX11_swap cX11_swap 3 (some .int)) ({ frames := 3, cells := 0, slots := 0, locals := 105 }) (va_Pc [.ref x0, .int p0, .int p1] (XP dC dI cyI cyB cyJ cyZ cyH cyN cyM tR tF aK aV tg sz x0 sl ke_f s_fm s_fl s_fw)) (va_Qi (fun (r : Int32) (_ : Unit) => True) (fun (_ : Unit) (t : State) => XE dC dI cyI cyB cyJ cyZ cyH cyN cyM tg x0 sl ke_f s_fm s_fl s_fw t.heap) (AX tg sz)) 0 0 (AX tg sz) := by
  refine met_of (fun a st hp => ?_)
  obtain ⟨ha, hsz, ⟨a_pl, s_n0, s_n1, s_n2, s_n3, t0, h0, d0, im, ke, sl0, c0, v0, q0, s0, gm0, l0, to, tr, vsl, hx, h_tape, h_hall, h_draft, h_images, h_kept, h_slots, h_course, h_sight, h_parting, h_suiting, h_game, h_lots, h_told, h_tried, hsl⟩, hK, hNB, hFX⟩ := hp
  subst hsz
  obtain ⟨_, rfl, hP_x, hD_x⟩ := hx
  obtain ⟨_, ⟨a_first, a_now, a_lawPlace, a_lawOther, a_lawEach, a_lawFrom, a_foes, a_suitTable, a_acts, a_li, a_le, a_lc, a_ac, a_ng, a_f_first, a_f_now, a_f_lawPlace, a_f_lawOther, a_f_lawEach, a_f_lawFrom, a_f_foes, a_f_suitTable, a_f_acts, Fhall_0, Fhall_1, Fhall_2, Fhall_3, Fhall_4, Fhall_5, Fhall_6, Fhall_7, Fhall_8, rfl⟩, hP_hall, hD_hall⟩ := h_hall
  have hPa : va_P (dC, dI) vwCl [(x0, .inr (10, [.ref t0, .ref h0, .ref d0, .ref im, .ref ke, .ref sl0, .ref c0, .ref v0, .ref q0, .ref s0, .ref gm0, .ref l0, .ref to, .ref tr, vsl])), (h0, .inr (2, [.int a_pl, .int a_li, .int a_le, .int a_lc, .int a_ac, .int a_ng, .ref a_first, .ref a_now, .ref a_lawPlace, .ref a_lawOther, .ref a_lawEach, .ref a_lawFrom, .ref a_foes, .ref a_suitTable, .ref a_acts])), (a_first, .inl (cyI, 7, .inl a_f_first)), (a_now, .inl (cyI, 7, .inl a_f_now)), (a_lawPlace, .inl (cyI, 6, .inl a_f_lawPlace)), (a_lawOther, .inl (cyI, 6, .inl a_f_lawOther)), (a_lawEach, .inl (cyI, 6, .inl a_f_lawEach)), (a_lawFrom, .inl (cyI, 6, .inl a_f_lawFrom)), (a_foes, .inl (cyI, 7, .inl a_f_foes)), (a_suitTable, .inl (cyI, 49, .inl a_f_suitTable)), (a_acts, .inl (cyI, 40, .inl a_f_acts))] st.heap := va_P.app hP_x hP_hall
  have hDa : va_D (TT tg [0, 2]) [(x0, .inr (10, [.ref t0, .ref h0, .ref d0, .ref im, .ref ke, .ref sl0, .ref c0, .ref v0, .ref q0, .ref s0, .ref gm0, .ref l0, .ref to, .ref tr, vsl])), (h0, .inr (2, [.int a_pl, .int a_li, .int a_le, .int a_lc, .int a_ac, .int a_ng, .ref a_first, .ref a_now, .ref a_lawPlace, .ref a_lawOther, .ref a_lawEach, .ref a_lawFrom, .ref a_foes, .ref a_suitTable, .ref a_acts])), (a_first, .inl (cyI, 7, .inl a_f_first)), (a_now, .inl (cyI, 7, .inl a_f_now)), (a_lawPlace, .inl (cyI, 6, .inl a_f_lawPlace)), (a_lawOther, .inl (cyI, 6, .inl a_f_lawOther)), (a_lawEach, .inl (cyI, 6, .inl a_f_lawEach)), (a_lawFrom, .inl (cyI, 6, .inl a_f_lawFrom)), (a_foes, .inl (cyI, 7, .inl a_f_foes)), (a_suitTable, .inl (cyI, 49, .inl a_f_suitTable)), (a_acts, .inl (cyI, 40, .inl a_f_acts))] := (va_D.tt hD_x hD_hall (by decide))
  refine ⟨_, _, _, x_swap l dC dI cyI cyB cyJ cyZ cyH cyN tR tF aK aV st.heap.size x0 h0 a_first a_now a_lawPlace a_lawOther a_lawEach a_lawFrom a_foes a_suitTable a_acts a_pl a_li a_le a_lc a_ac a_ng a_f_first a_f_now a_f_lawPlace a_f_lawOther a_f_lawEach a_f_lawFrom a_f_foes a_f_suitTable a_f_acts t0 d0 im ke sl0 c0 v0 q0 s0 gm0 l0 to tr vsl p0 p1 Fhall_0 Fhall_1 Fhall_2 Fhall_3 Fhall_4 Fhall_5 Fhall_6 Fhall_7 Fhall_8, ⟨ha, rfl, hPa, hK.sub [0, 1, 2, 3, 4, 5] rfl, hDa.weaken (fun _ _ _ _ => trivial), hFX.narrow (ax_of hDa (by decide))⟩, ?_, ax_of hDa (by decide)⟩
  rintro o t ⟨⟨r, u, ho, hr, z0, y1, y2, P0, P1, P2, P3, hP', hD'⟩, hF⟩
  refine ⟨⟨r, (), ho, hr, a_pl, s_n0, s_n1, s_n2, s_n3, t0, h0, d0, im, ke, sl0, c0, v0, q0, s0, gm0, l0, to, tr, vsl, ⟨_, rfl, hP'.sub [0] rfl, hD_x.same rfl⟩,
    h_tape.frame hF hDa (by decide),
    ⟨_, ⟨a_first, a_now, a_lawPlace, a_lawOther, a_lawEach, a_lawFrom, a_foes, a_suitTable, a_acts, a_li, a_le, a_lc, z0, a_ng, a_f_first, y1, a_f_lawPlace, a_f_lawOther, a_f_lawEach, a_f_lawFrom, a_f_foes, a_f_suitTable, y2, Fhall_0, P1, Fhall_2, Fhall_3, P2, Fhall_5, Fhall_6, P0, P3, rfl⟩, hP'.sub [1, 2, 3, 4, 5, 6, 7, 8, 9, 10] rfl, hD_hall.same rfl⟩,
    h_draft.frame hF hDa (by decide),
    h_images.frame hF hDa (by decide),
    h_kept.frame hF hDa (by decide),
    h_slots.frame hF hDa (by decide),
    h_course.frame hF hDa (by decide),
    h_sight.frame hF hDa (by decide),
    h_parting.frame hF hDa (by decide),
    h_suiting.frame hF hDa (by decide),
    h_game.frame hF hDa (by decide),
    h_lots.frame hF hDa (by decide),
    h_told.frame hF hDa (by decide),
    h_tried.frame hF hDa (by decide),
    hsl.go (tt_keep hF hDa (by decide))⟩, hF.wide (ax_of hDa (by decide))⟩
set_option maxHeartbeats 4000000 in
set_option maxRecDepth 100000 in
theorem wx_night (l : Launch) (dC : Nat → ClassId) (dI : Nat → Nat → Nat) (cyI cyB cyJ cyZ cyH cyN cyM : ClassId) (tR tF : Nat) (aK aV : Nat → Nat) (tg : Nat → Nat) (sz : Nat) (x0 sl : Nat) (ke_f s_fm s_fl s_fw : Nat → Int32)  : Met l yX11_night (wk yX11_night cX11_night 1 (some .int)) ({ frames := 3, cells := 0, slots := 0, locals := 104 }) (va_Pc [.ref x0] (XP dC dI cyI cyB cyJ cyZ cyH cyN cyM tR tF aK aV tg sz x0 sl ke_f s_fm s_fl s_fw)) (va_Qi (fun (r : Int32) (_ : Unit) => True) (fun (_ : Unit) (t : State) => XE dC dI cyI cyB cyJ cyZ cyH cyN cyM tg x0 sl ke_f s_fm s_fl s_fw t.heap) (AX tg sz)) 0 0 (AX tg sz) := by
  refine met_of (fun a st hp => ?_)
  obtain ⟨ha, hsz, ⟨a_pl, s_n0, s_n1, s_n2, s_n3, t0, h0, d0, im, ke, sl0, c0, v0, q0, s0, gm0, l0, to, tr, vsl, hx, h_tape, h_hall, h_draft, h_images, h_kept, h_slots, h_course, h_sight, h_parting, h_suiting, h_game, h_lots, h_told, h_tried, hsl⟩, hK, hNB, hFX⟩ := hp
  subst hsz
  obtain ⟨_, rfl, hP_x, hD_x⟩ := hx
  obtain ⟨_, ⟨a_first, a_now, a_lawPlace, a_lawOther, a_lawEach, a_lawFrom, a_foes, a_suitTable, a_acts, a_li, a_le, a_lc, a_ac, a_ng, a_f_first, a_f_now, a_f_lawPlace, a_f_lawOther, a_f_lawEach, a_f_lawFrom, a_f_foes, a_f_suitTable, a_f_acts, Fhall_0, Fhall_1, Fhall_2, Fhall_3, Fhall_4, Fhall_5, Fhall_6, Fhall_7, Fhall_8, rfl⟩, hP_hall, hD_hall⟩ := h_hall
  have hPa : va_P (dC, dI) vwCl [(x0, .inr (10, [.ref t0, .ref h0, .ref d0, .ref im, .ref ke, .ref sl0, .ref c0, .ref v0, .ref q0, .ref s0, .ref gm0, .ref l0, .ref to, .ref tr, vsl])), (h0, .inr (2, [.int a_pl, .int a_li, .int a_le, .int a_lc, .int a_ac, .int a_ng, .ref a_first, .ref a_now, .ref a_lawPlace, .ref a_lawOther, .ref a_lawEach, .ref a_lawFrom, .ref a_foes, .ref a_suitTable, .ref a_acts])), (a_first, .inl (cyI, 7, .inl a_f_first)), (a_now, .inl (cyI, 7, .inl a_f_now)), (a_lawPlace, .inl (cyI, 6, .inl a_f_lawPlace)), (a_lawOther, .inl (cyI, 6, .inl a_f_lawOther)), (a_lawEach, .inl (cyI, 6, .inl a_f_lawEach)), (a_lawFrom, .inl (cyI, 6, .inl a_f_lawFrom)), (a_foes, .inl (cyI, 7, .inl a_f_foes)), (a_suitTable, .inl (cyI, 49, .inl a_f_suitTable)), (a_acts, .inl (cyI, 40, .inl a_f_acts))] st.heap := va_P.app hP_x hP_hall
  have hDa : va_D (TT tg [0, 2]) [(x0, .inr (10, [.ref t0, .ref h0, .ref d0, .ref im, .ref ke, .ref sl0, .ref c0, .ref v0, .ref q0, .ref s0, .ref gm0, .ref l0, .ref to, .ref tr, vsl])), (h0, .inr (2, [.int a_pl, .int a_li, .int a_le, .int a_lc, .int a_ac, .int a_ng, .ref a_first, .ref a_now, .ref a_lawPlace, .ref a_lawOther, .ref a_lawEach, .ref a_lawFrom, .ref a_foes, .ref a_suitTable, .ref a_acts])), (a_first, .inl (cyI, 7, .inl a_f_first)), (a_now, .inl (cyI, 7, .inl a_f_now)), (a_lawPlace, .inl (cyI, 6, .inl a_f_lawPlace)), (a_lawOther, .inl (cyI, 6, .inl a_f_lawOther)), (a_lawEach, .inl (cyI, 6, .inl a_f_lawEach)), (a_lawFrom, .inl (cyI, 6, .inl a_f_lawFrom)), (a_foes, .inl (cyI, 7, .inl a_f_foes)), (a_suitTable, .inl (cyI, 49, .inl a_f_suitTable)), (a_acts, .inl (cyI, 40, .inl a_f_acts))] := (va_D.tt hD_x hD_hall (by decide))
  refine ⟨_, _, _, x_night l dC dI cyI cyB cyJ cyZ cyH cyN tR tF aK aV st.heap.size x0 h0 a_first a_now a_lawPlace a_lawOther a_lawEach a_lawFrom a_foes a_suitTable a_acts a_pl a_li a_le a_lc a_ac a_ng a_f_first a_f_now a_f_lawPlace a_f_lawOther a_f_lawEach a_f_lawFrom a_f_foes a_f_suitTable a_f_acts t0 d0 im ke sl0 c0 v0 q0 s0 gm0 l0 to tr vsl Fhall_0 Fhall_1 Fhall_2 Fhall_3 Fhall_4 Fhall_5 Fhall_6 Fhall_7 Fhall_8, ⟨ha, rfl, hPa, hK.sub [0, 1, 2, 3, 4, 5] rfl, hDa.weaken (fun _ _ _ _ => trivial), hFX.narrow (ax_of hDa (by decide))⟩, ?_, ax_of hDa (by decide)⟩
  rintro o t ⟨⟨r, u, ho, hr, z0, z1, y2, y3, P0, P1, P2, P3, P4, hP', hD'⟩, hF⟩
  refine ⟨⟨r, (), ho, hr, a_pl, s_n0, s_n1, s_n2, s_n3, t0, h0, d0, im, ke, sl0, c0, v0, q0, s0, gm0, l0, to, tr, vsl, ⟨_, rfl, hP'.sub [0] rfl, hD_x.same rfl⟩,
    h_tape.frame hF hDa (by decide),
    ⟨_, ⟨a_first, a_now, a_lawPlace, a_lawOther, a_lawEach, a_lawFrom, a_foes, a_suitTable, a_acts, a_li, a_le, a_lc, z0, z1, a_f_first, y2, a_f_lawPlace, a_f_lawOther, a_f_lawEach, a_f_lawFrom, a_f_foes, a_f_suitTable, y3, Fhall_0, P2, Fhall_2, Fhall_3, P3, Fhall_5, Fhall_6, P0, P4, rfl⟩, hP'.sub [1, 2, 3, 4, 5, 6, 7, 8, 9, 10] rfl, hD_hall.same rfl⟩,
    h_draft.frame hF hDa (by decide),
    h_images.frame hF hDa (by decide),
    h_kept.frame hF hDa (by decide),
    h_slots.frame hF hDa (by decide),
    h_course.frame hF hDa (by decide),
    h_sight.frame hF hDa (by decide),
    h_parting.frame hF hDa (by decide),
    h_suiting.frame hF hDa (by decide),
    h_game.frame hF hDa (by decide),
    h_lots.frame hF hDa (by decide),
    h_told.frame hF hDa (by decide),
    h_tried.frame hF hDa (by decide),
    hsl.go (tt_keep hF hDa (by decide))⟩, hF.wide (ax_of hDa (by decide))⟩
set_option maxHeartbeats 4000000 in
set_option maxRecDepth 100000 in
theorem wx_undo (l : Launch) (dC : Nat → ClassId) (dI : Nat → Nat → Nat) (cyI cyB cyJ cyZ cyH cyN cyM : ClassId) (tR tF : Nat) (aK aV : Nat → Nat) (tg : Nat → Nat) (sz : Nat) (x0 sl : Nat) (ke_f s_fm s_fl s_fw : Nat → Int32)  : Met l yX11_undo (wk yX11_undo cX11_undo 1 (some .int)) ({ frames := 4, cells := 0, slots := 0, locals := 127 }) (va_Pc [.ref x0] (XP dC dI cyI cyB cyJ cyZ cyH cyN cyM tR tF aK aV tg sz x0 sl ke_f s_fm s_fl s_fw)) (va_Qi (fun (r : Int32) (_ : Unit) => True) (fun (_ : Unit) (t : State) => XE dC dI cyI cyB cyJ cyZ cyH cyN cyM tg x0 sl ke_f s_fm s_fl s_fw t.heap) (AX tg sz)) 0 0 (AX tg sz) := by
  refine met_of (fun a st hp => ?_)
  obtain ⟨ha, hsz, ⟨a_pl, s_n0, s_n1, s_n2, s_n3, t0, h0, d0, im, ke, sl0, c0, v0, q0, s0, gm0, l0, to, tr, vsl, hx, h_tape, h_hall, h_draft, h_images, h_kept, h_slots, h_course, h_sight, h_parting, h_suiting, h_game, h_lots, h_told, h_tried, hsl⟩, hK, hNB, hFX⟩ := hp
  subst hsz
  obtain ⟨_, rfl, hP_x, hD_x⟩ := hx
  obtain ⟨_, ⟨a_first, a_now, a_lawPlace, a_lawOther, a_lawEach, a_lawFrom, a_foes, a_suitTable, a_acts, a_li, a_le, a_lc, a_ac, a_ng, a_f_first, a_f_now, a_f_lawPlace, a_f_lawOther, a_f_lawEach, a_f_lawFrom, a_f_foes, a_f_suitTable, a_f_acts, Fhall_0, Fhall_1, Fhall_2, Fhall_3, Fhall_4, Fhall_5, Fhall_6, Fhall_7, Fhall_8, rfl⟩, hP_hall, hD_hall⟩ := h_hall
  have hPa : va_P (dC, dI) vwCl [(x0, .inr (10, [.ref t0, .ref h0, .ref d0, .ref im, .ref ke, .ref sl0, .ref c0, .ref v0, .ref q0, .ref s0, .ref gm0, .ref l0, .ref to, .ref tr, vsl])), (h0, .inr (2, [.int a_pl, .int a_li, .int a_le, .int a_lc, .int a_ac, .int a_ng, .ref a_first, .ref a_now, .ref a_lawPlace, .ref a_lawOther, .ref a_lawEach, .ref a_lawFrom, .ref a_foes, .ref a_suitTable, .ref a_acts])), (a_first, .inl (cyI, 7, .inl a_f_first)), (a_now, .inl (cyI, 7, .inl a_f_now)), (a_lawPlace, .inl (cyI, 6, .inl a_f_lawPlace)), (a_lawOther, .inl (cyI, 6, .inl a_f_lawOther)), (a_lawEach, .inl (cyI, 6, .inl a_f_lawEach)), (a_lawFrom, .inl (cyI, 6, .inl a_f_lawFrom)), (a_foes, .inl (cyI, 7, .inl a_f_foes)), (a_suitTable, .inl (cyI, 49, .inl a_f_suitTable)), (a_acts, .inl (cyI, 40, .inl a_f_acts))] st.heap := va_P.app hP_x hP_hall
  have hDa : va_D (TT tg [0, 2]) [(x0, .inr (10, [.ref t0, .ref h0, .ref d0, .ref im, .ref ke, .ref sl0, .ref c0, .ref v0, .ref q0, .ref s0, .ref gm0, .ref l0, .ref to, .ref tr, vsl])), (h0, .inr (2, [.int a_pl, .int a_li, .int a_le, .int a_lc, .int a_ac, .int a_ng, .ref a_first, .ref a_now, .ref a_lawPlace, .ref a_lawOther, .ref a_lawEach, .ref a_lawFrom, .ref a_foes, .ref a_suitTable, .ref a_acts])), (a_first, .inl (cyI, 7, .inl a_f_first)), (a_now, .inl (cyI, 7, .inl a_f_now)), (a_lawPlace, .inl (cyI, 6, .inl a_f_lawPlace)), (a_lawOther, .inl (cyI, 6, .inl a_f_lawOther)), (a_lawEach, .inl (cyI, 6, .inl a_f_lawEach)), (a_lawFrom, .inl (cyI, 6, .inl a_f_lawFrom)), (a_foes, .inl (cyI, 7, .inl a_f_foes)), (a_suitTable, .inl (cyI, 49, .inl a_f_suitTable)), (a_acts, .inl (cyI, 40, .inl a_f_acts))] := (va_D.tt hD_x hD_hall (by decide))
  refine ⟨_, _, _, x_undo l dC dI cyI cyB cyJ cyZ cyH cyN tR tF aK aV st.heap.size x0 h0 a_first a_now a_lawPlace a_lawOther a_lawEach a_lawFrom a_foes a_suitTable a_acts a_pl a_li a_le a_lc a_ac a_ng a_f_first a_f_now a_f_lawPlace a_f_lawOther a_f_lawEach a_f_lawFrom a_f_foes a_f_suitTable a_f_acts t0 d0 im ke sl0 c0 v0 q0 s0 gm0 l0 to tr vsl Fhall_0 Fhall_1 Fhall_2 Fhall_3 Fhall_4 Fhall_5 Fhall_6 Fhall_7 Fhall_8, ⟨ha, rfl, hPa, hK.sub [0, 1, 2, 3, 4, 5] rfl, hDa.weaken (fun _ _ _ _ => trivial), hFX.narrow (ax_of hDa (by decide))⟩, ?_, ax_of hDa (by decide)⟩
  rintro o t ⟨⟨r, u, ho, hr, z0, z1, y2, P0, P1, P2, P3, hP', hD'⟩, hF⟩
  refine ⟨⟨r, (), ho, hr, a_pl, s_n0, s_n1, s_n2, s_n3, t0, h0, d0, im, ke, sl0, c0, v0, q0, s0, gm0, l0, to, tr, vsl, ⟨_, rfl, hP'.sub [0] rfl, hD_x.same rfl⟩,
    h_tape.frame hF hDa (by decide),
    ⟨_, ⟨a_first, a_now, a_lawPlace, a_lawOther, a_lawEach, a_lawFrom, a_foes, a_suitTable, a_acts, a_li, a_le, a_lc, z0, z1, a_f_first, y2, a_f_lawPlace, a_f_lawOther, a_f_lawEach, a_f_lawFrom, a_f_foes, a_f_suitTable, a_f_acts, Fhall_0, P2, Fhall_2, Fhall_3, Fhall_4, Fhall_5, Fhall_6, P0, P3, rfl⟩, hP'.sub [1, 2, 3, 4, 5, 6, 7, 8, 9, 10] rfl, hD_hall.same rfl⟩,
    h_draft.frame hF hDa (by decide),
    h_images.frame hF hDa (by decide),
    h_kept.frame hF hDa (by decide),
    h_slots.frame hF hDa (by decide),
    h_course.frame hF hDa (by decide),
    h_sight.frame hF hDa (by decide),
    h_parting.frame hF hDa (by decide),
    h_suiting.frame hF hDa (by decide),
    h_game.frame hF hDa (by decide),
    h_lots.frame hF hDa (by decide),
    h_told.frame hF hDa (by decide),
    h_tried.frame hF hDa (by decide),
    hsl.go (tt_keep hF hDa (by decide))⟩, hF.wide (ax_of hDa (by decide))⟩
set_option maxHeartbeats 4000000 in
set_option maxRecDepth 100000 in
theorem wx_anew (l : Launch) (dC : Nat → ClassId) (dI : Nat → Nat → Nat) (cyI cyB cyJ cyZ cyH cyN cyM : ClassId) (tR tF : Nat) (aK aV : Nat → Nat) (tg : Nat → Nat) (sz : Nat) (x0 sl : Nat) (ke_f s_fm s_fl s_fw : Nat → Int32)  : Met l yX11_anew (wk yX11_anew cX11_anew 2 (some .int)) ({ frames := 2, cells := 0, slots := 0, locals := 80 }) (va_Pc [.ref x0] (XP dC dI cyI cyB cyJ cyZ cyH cyN cyM tR tF aK aV tg sz x0 sl ke_f s_fm s_fl s_fw)) (va_Qi (fun (r : Int32) (_ : Unit) => True) (fun (_ : Unit) (t : State) => XE dC dI cyI cyB cyJ cyZ cyH cyN cyM tg x0 sl ke_f s_fm s_fl s_fw t.heap) (AX tg sz)) 0 0 (AX tg sz) := by
  refine met_of (fun a st hp => ?_)
  obtain ⟨ha, hsz, ⟨a_pl, s_n0, s_n1, s_n2, s_n3, t0, h0, d0, im, ke, sl0, c0, v0, q0, s0, gm0, l0, to, tr, vsl, hx, h_tape, h_hall, h_draft, h_images, h_kept, h_slots, h_course, h_sight, h_parting, h_suiting, h_game, h_lots, h_told, h_tried, hsl⟩, hK, hNB, hFX⟩ := hp
  subst hsz
  obtain ⟨_, rfl, hP_x, hD_x⟩ := hx
  obtain ⟨_, ⟨a_first, a_now, a_lawPlace, a_lawOther, a_lawEach, a_lawFrom, a_foes, a_suitTable, a_acts, a_li, a_le, a_lc, a_ac, a_ng, a_f_first, a_f_now, a_f_lawPlace, a_f_lawOther, a_f_lawEach, a_f_lawFrom, a_f_foes, a_f_suitTable, a_f_acts, Fhall_0, Fhall_1, Fhall_2, Fhall_3, Fhall_4, Fhall_5, Fhall_6, Fhall_7, Fhall_8, rfl⟩, hP_hall, hD_hall⟩ := h_hall
  have hPa : va_P (dC, dI) vwCl [(x0, .inr (10, [.ref t0, .ref h0, .ref d0, .ref im, .ref ke, .ref sl0, .ref c0, .ref v0, .ref q0, .ref s0, .ref gm0, .ref l0, .ref to, .ref tr, vsl])), (h0, .inr (2, [.int a_pl, .int a_li, .int a_le, .int a_lc, .int a_ac, .int a_ng, .ref a_first, .ref a_now, .ref a_lawPlace, .ref a_lawOther, .ref a_lawEach, .ref a_lawFrom, .ref a_foes, .ref a_suitTable, .ref a_acts])), (a_first, .inl (cyI, 7, .inl a_f_first)), (a_now, .inl (cyI, 7, .inl a_f_now)), (a_lawPlace, .inl (cyI, 6, .inl a_f_lawPlace)), (a_lawOther, .inl (cyI, 6, .inl a_f_lawOther)), (a_lawEach, .inl (cyI, 6, .inl a_f_lawEach)), (a_lawFrom, .inl (cyI, 6, .inl a_f_lawFrom)), (a_foes, .inl (cyI, 7, .inl a_f_foes)), (a_suitTable, .inl (cyI, 49, .inl a_f_suitTable)), (a_acts, .inl (cyI, 40, .inl a_f_acts))] st.heap := va_P.app hP_x hP_hall
  have hDa : va_D (TT tg [0, 2]) [(x0, .inr (10, [.ref t0, .ref h0, .ref d0, .ref im, .ref ke, .ref sl0, .ref c0, .ref v0, .ref q0, .ref s0, .ref gm0, .ref l0, .ref to, .ref tr, vsl])), (h0, .inr (2, [.int a_pl, .int a_li, .int a_le, .int a_lc, .int a_ac, .int a_ng, .ref a_first, .ref a_now, .ref a_lawPlace, .ref a_lawOther, .ref a_lawEach, .ref a_lawFrom, .ref a_foes, .ref a_suitTable, .ref a_acts])), (a_first, .inl (cyI, 7, .inl a_f_first)), (a_now, .inl (cyI, 7, .inl a_f_now)), (a_lawPlace, .inl (cyI, 6, .inl a_f_lawPlace)), (a_lawOther, .inl (cyI, 6, .inl a_f_lawOther)), (a_lawEach, .inl (cyI, 6, .inl a_f_lawEach)), (a_lawFrom, .inl (cyI, 6, .inl a_f_lawFrom)), (a_foes, .inl (cyI, 7, .inl a_f_foes)), (a_suitTable, .inl (cyI, 49, .inl a_f_suitTable)), (a_acts, .inl (cyI, 40, .inl a_f_acts))] := (va_D.tt hD_x hD_hall (by decide))
  refine ⟨_, _, _, x_anew l dC dI cyI cyB cyJ cyZ cyH cyN tR tF aK aV st.heap.size x0 h0 a_first a_now a_lawPlace a_lawOther a_lawEach a_lawFrom a_foes a_suitTable a_acts a_pl a_li a_le a_lc a_ac a_ng a_f_first a_f_now a_f_lawPlace a_f_lawOther a_f_lawEach a_f_lawFrom a_f_foes a_f_suitTable a_f_acts t0 d0 im ke sl0 c0 v0 q0 s0 gm0 l0 to tr vsl Fhall_0 Fhall_1 Fhall_2 Fhall_3 Fhall_4 Fhall_5 Fhall_6 Fhall_7 Fhall_8, ⟨ha, rfl, hPa, hK.sub [0, 1, 2, 3, 4, 5] rfl, hDa.weaken (fun _ _ _ _ => trivial), hFX.narrow (ax_of hDa (by decide))⟩, ?_, ax_of hDa (by decide)⟩
  rintro o t ⟨⟨r, u, ho, hr, z0, z1, y2, P0, P1, P2, P3, hP', hD'⟩, hF⟩
  refine ⟨⟨r, (), ho, hr, a_pl, s_n0, s_n1, s_n2, s_n3, t0, h0, d0, im, ke, sl0, c0, v0, q0, s0, gm0, l0, to, tr, vsl, ⟨_, rfl, hP'.sub [0] rfl, hD_x.same rfl⟩,
    h_tape.frame hF hDa (by decide),
    ⟨_, ⟨a_first, a_now, a_lawPlace, a_lawOther, a_lawEach, a_lawFrom, a_foes, a_suitTable, a_acts, a_li, a_le, a_lc, z0, z1, a_f_first, y2, a_f_lawPlace, a_f_lawOther, a_f_lawEach, a_f_lawFrom, a_f_foes, a_f_suitTable, a_f_acts, Fhall_0, P2, Fhall_2, Fhall_3, Fhall_4, Fhall_5, Fhall_6, P0, P3, rfl⟩, hP'.sub [1, 2, 3, 4, 5, 6, 7, 8, 9, 10] rfl, hD_hall.same rfl⟩,
    h_draft.frame hF hDa (by decide),
    h_images.frame hF hDa (by decide),
    h_kept.frame hF hDa (by decide),
    h_slots.frame hF hDa (by decide),
    h_course.frame hF hDa (by decide),
    h_sight.frame hF hDa (by decide),
    h_parting.frame hF hDa (by decide),
    h_suiting.frame hF hDa (by decide),
    h_game.frame hF hDa (by decide),
    h_lots.frame hF hDa (by decide),
    h_told.frame hF hDa (by decide),
    h_tried.frame hF hDa (by decide),
    hsl.go (tt_keep hF hDa (by decide))⟩, hF.wide (ax_of hDa (by decide))⟩
set_option maxHeartbeats 4000000 in
set_option maxRecDepth 100000 in
theorem wx_nights (l : Launch) (dC : Nat → ClassId) (dI : Nat → Nat → Nat) (cyI cyB cyJ cyZ cyH cyN cyM : ClassId) (tR tF : Nat) (aK aV : Nat → Nat) (tg : Nat → Nat) (sz : Nat) (x0 sl : Nat) (ke_f s_fm s_fl s_fw : Nat → Int32)  : Met l yX11_nights (wk yX11_nights cX11_nights 1 (some .int)) ({ frames := 2, cells := 0, slots := 0, locals := 80 }) (va_Pc [.ref x0] (XP dC dI cyI cyB cyJ cyZ cyH cyN cyM tR tF aK aV tg sz x0 sl ke_f s_fm s_fl s_fw)) (va_Qi (fun (r : Int32) (_ : Unit) => True) (fun (_ : Unit) (t : State) => XE dC dI cyI cyB cyJ cyZ cyH cyN cyM tg x0 sl ke_f s_fm s_fl s_fw t.heap) (AX tg sz)) 0 0 (AX tg sz) := by
  refine met_of (fun a st hp => ?_)
  obtain ⟨ha, hsz, ⟨a_pl, s_n0, s_n1, s_n2, s_n3, t0, h0, d0, im, ke, sl0, c0, v0, q0, s0, gm0, l0, to, tr, vsl, hx, h_tape, h_hall, h_draft, h_images, h_kept, h_slots, h_course, h_sight, h_parting, h_suiting, h_game, h_lots, h_told, h_tried, hsl⟩, hK, hNB, hFX⟩ := hp
  subst hsz
  obtain ⟨_, rfl, hP_x, hD_x⟩ := hx
  obtain ⟨_, ⟨a_first, a_now, a_lawPlace, a_lawOther, a_lawEach, a_lawFrom, a_foes, a_suitTable, a_acts, a_li, a_le, a_lc, a_ac, a_ng, a_f_first, a_f_now, a_f_lawPlace, a_f_lawOther, a_f_lawEach, a_f_lawFrom, a_f_foes, a_f_suitTable, a_f_acts, Fhall_0, Fhall_1, Fhall_2, Fhall_3, Fhall_4, Fhall_5, Fhall_6, Fhall_7, Fhall_8, rfl⟩, hP_hall, hD_hall⟩ := h_hall
  have hPa : va_P (dC, dI) vwCl [(x0, .inr (10, [.ref t0, .ref h0, .ref d0, .ref im, .ref ke, .ref sl0, .ref c0, .ref v0, .ref q0, .ref s0, .ref gm0, .ref l0, .ref to, .ref tr, vsl])), (h0, .inr (2, [.int a_pl, .int a_li, .int a_le, .int a_lc, .int a_ac, .int a_ng, .ref a_first, .ref a_now, .ref a_lawPlace, .ref a_lawOther, .ref a_lawEach, .ref a_lawFrom, .ref a_foes, .ref a_suitTable, .ref a_acts])), (a_first, .inl (cyI, 7, .inl a_f_first)), (a_now, .inl (cyI, 7, .inl a_f_now)), (a_lawPlace, .inl (cyI, 6, .inl a_f_lawPlace)), (a_lawOther, .inl (cyI, 6, .inl a_f_lawOther)), (a_lawEach, .inl (cyI, 6, .inl a_f_lawEach)), (a_lawFrom, .inl (cyI, 6, .inl a_f_lawFrom)), (a_foes, .inl (cyI, 7, .inl a_f_foes)), (a_suitTable, .inl (cyI, 49, .inl a_f_suitTable)), (a_acts, .inl (cyI, 40, .inl a_f_acts))] st.heap := va_P.app hP_x hP_hall
  have hDa : va_D (TT tg [0, 2]) [(x0, .inr (10, [.ref t0, .ref h0, .ref d0, .ref im, .ref ke, .ref sl0, .ref c0, .ref v0, .ref q0, .ref s0, .ref gm0, .ref l0, .ref to, .ref tr, vsl])), (h0, .inr (2, [.int a_pl, .int a_li, .int a_le, .int a_lc, .int a_ac, .int a_ng, .ref a_first, .ref a_now, .ref a_lawPlace, .ref a_lawOther, .ref a_lawEach, .ref a_lawFrom, .ref a_foes, .ref a_suitTable, .ref a_acts])), (a_first, .inl (cyI, 7, .inl a_f_first)), (a_now, .inl (cyI, 7, .inl a_f_now)), (a_lawPlace, .inl (cyI, 6, .inl a_f_lawPlace)), (a_lawOther, .inl (cyI, 6, .inl a_f_lawOther)), (a_lawEach, .inl (cyI, 6, .inl a_f_lawEach)), (a_lawFrom, .inl (cyI, 6, .inl a_f_lawFrom)), (a_foes, .inl (cyI, 7, .inl a_f_foes)), (a_suitTable, .inl (cyI, 49, .inl a_f_suitTable)), (a_acts, .inl (cyI, 40, .inl a_f_acts))] := (va_D.tt hD_x hD_hall (by decide))
  refine ⟨_, _, _, x_nights l dC dI cyI cyB cyJ cyZ cyH cyN tR tF aK aV st.heap.size x0 h0 a_first a_now a_lawPlace a_lawOther a_lawEach a_lawFrom a_foes a_suitTable a_acts a_pl a_li a_le a_lc a_ac a_ng a_f_first a_f_now a_f_lawPlace a_f_lawOther a_f_lawEach a_f_lawFrom a_f_foes a_f_suitTable a_f_acts t0 d0 im ke sl0 c0 v0 q0 s0 gm0 l0 to tr vsl Fhall_0 Fhall_1 Fhall_2 Fhall_3 Fhall_4 Fhall_5 Fhall_6 Fhall_7 Fhall_8, ⟨ha, rfl, hPa, hK.sub [0, 1, 2, 3, 4, 5] rfl, hDa.weaken (fun _ _ _ _ => trivial), hFX.narrow (ax_of hDa (by decide))⟩, ?_, ax_of hDa (by decide)⟩
  rintro o t ⟨⟨r, u, ho, hr, hP', hD'⟩, hF⟩
  refine ⟨⟨r, (), ho, hr, a_pl, s_n0, s_n1, s_n2, s_n3, t0, h0, d0, im, ke, sl0, c0, v0, q0, s0, gm0, l0, to, tr, vsl, ⟨_, rfl, hP'.sub [0] rfl, hD_x.same rfl⟩,
    h_tape.frame hF hDa (by decide),
    ⟨_, ⟨a_first, a_now, a_lawPlace, a_lawOther, a_lawEach, a_lawFrom, a_foes, a_suitTable, a_acts, a_li, a_le, a_lc, a_ac, a_ng, a_f_first, a_f_now, a_f_lawPlace, a_f_lawOther, a_f_lawEach, a_f_lawFrom, a_f_foes, a_f_suitTable, a_f_acts, Fhall_0, Fhall_1, Fhall_2, Fhall_3, Fhall_4, Fhall_5, Fhall_6, Fhall_7, Fhall_8, rfl⟩, hP'.sub [1, 2, 3, 4, 5, 6, 7, 8, 9, 10] rfl, hD_hall.same rfl⟩,
    h_draft.frame hF hDa (by decide),
    h_images.frame hF hDa (by decide),
    h_kept.frame hF hDa (by decide),
    h_slots.frame hF hDa (by decide),
    h_course.frame hF hDa (by decide),
    h_sight.frame hF hDa (by decide),
    h_parting.frame hF hDa (by decide),
    h_suiting.frame hF hDa (by decide),
    h_game.frame hF hDa (by decide),
    h_lots.frame hF hDa (by decide),
    h_told.frame hF hDa (by decide),
    h_tried.frame hF hDa (by decide),
    hsl.go (tt_keep hF hDa (by decide))⟩, hF.wide (ax_of hDa (by decide))⟩
set_option maxHeartbeats 4000000 in
set_option maxRecDepth 100000 in
theorem wx_drawn (l : Launch) (dC : Nat → ClassId) (dI : Nat → Nat → Nat) (cyI cyB cyJ cyZ cyH cyN cyM : ClassId) (tR tF : Nat) (aK aV : Nat → Nat) (tg : Nat → Nat) (sz : Nat) (x0 sl : Nat) (ke_f s_fm s_fl s_fw : Nat → Int32) (p0 p1 p2 : Int32) : Met l yX11_drawn (wk yX11_drawn cX11_drawn 4 (some .int)) ({ frames := 3, cells := 0, slots := 0, locals := 104 }) (va_Pc [.ref x0, .int p0, .int p1, .int p2] (XP dC dI cyI cyB cyJ cyZ cyH cyN cyM tR tF aK aV tg sz x0 sl ke_f s_fm s_fl s_fw)) (va_Qi (fun (r : Int32) (_ : Unit) => True) (fun (_ : Unit) (t : State) => XE dC dI cyI cyB cyJ cyZ cyH cyN cyM tg x0 sl ke_f s_fm s_fl s_fw t.heap) (AX tg sz)) 0 0 (AX tg sz) := by
  refine met_of (fun a st hp => ?_)
  obtain ⟨ha, hsz, ⟨a_pl, s_n0, s_n1, s_n2, s_n3, t0, h0, d0, im, ke, sl0, c0, v0, q0, s0, gm0, l0, to, tr, vsl, hx, h_tape, h_hall, h_draft, h_images, h_kept, h_slots, h_course, h_sight, h_parting, h_suiting, h_game, h_lots, h_told, h_tried, hsl⟩, hK, hNB, hFX⟩ := hp
  subst hsz
  obtain ⟨_, rfl, hP_x, hD_x⟩ := hx
  obtain ⟨_, ⟨a_first, a_now, a_lawPlace, a_lawOther, a_lawEach, a_lawFrom, a_foes, a_suitTable, a_acts, a_li, a_le, a_lc, a_ac, a_ng, a_f_first, a_f_now, a_f_lawPlace, a_f_lawOther, a_f_lawEach, a_f_lawFrom, a_f_foes, a_f_suitTable, a_f_acts, Fhall_0, Fhall_1, Fhall_2, Fhall_3, Fhall_4, Fhall_5, Fhall_6, Fhall_7, Fhall_8, rfl⟩, hP_hall, hD_hall⟩ := h_hall
  have hPa : va_P (dC, dI) vwCl [(x0, .inr (10, [.ref t0, .ref h0, .ref d0, .ref im, .ref ke, .ref sl0, .ref c0, .ref v0, .ref q0, .ref s0, .ref gm0, .ref l0, .ref to, .ref tr, vsl])), (h0, .inr (2, [.int a_pl, .int a_li, .int a_le, .int a_lc, .int a_ac, .int a_ng, .ref a_first, .ref a_now, .ref a_lawPlace, .ref a_lawOther, .ref a_lawEach, .ref a_lawFrom, .ref a_foes, .ref a_suitTable, .ref a_acts])), (a_first, .inl (cyI, 7, .inl a_f_first)), (a_now, .inl (cyI, 7, .inl a_f_now)), (a_lawPlace, .inl (cyI, 6, .inl a_f_lawPlace)), (a_lawOther, .inl (cyI, 6, .inl a_f_lawOther)), (a_lawEach, .inl (cyI, 6, .inl a_f_lawEach)), (a_lawFrom, .inl (cyI, 6, .inl a_f_lawFrom)), (a_foes, .inl (cyI, 7, .inl a_f_foes)), (a_suitTable, .inl (cyI, 49, .inl a_f_suitTable)), (a_acts, .inl (cyI, 40, .inl a_f_acts))] st.heap := va_P.app hP_x hP_hall
  have hDa : va_D (TT tg [0, 2]) [(x0, .inr (10, [.ref t0, .ref h0, .ref d0, .ref im, .ref ke, .ref sl0, .ref c0, .ref v0, .ref q0, .ref s0, .ref gm0, .ref l0, .ref to, .ref tr, vsl])), (h0, .inr (2, [.int a_pl, .int a_li, .int a_le, .int a_lc, .int a_ac, .int a_ng, .ref a_first, .ref a_now, .ref a_lawPlace, .ref a_lawOther, .ref a_lawEach, .ref a_lawFrom, .ref a_foes, .ref a_suitTable, .ref a_acts])), (a_first, .inl (cyI, 7, .inl a_f_first)), (a_now, .inl (cyI, 7, .inl a_f_now)), (a_lawPlace, .inl (cyI, 6, .inl a_f_lawPlace)), (a_lawOther, .inl (cyI, 6, .inl a_f_lawOther)), (a_lawEach, .inl (cyI, 6, .inl a_f_lawEach)), (a_lawFrom, .inl (cyI, 6, .inl a_f_lawFrom)), (a_foes, .inl (cyI, 7, .inl a_f_foes)), (a_suitTable, .inl (cyI, 49, .inl a_f_suitTable)), (a_acts, .inl (cyI, 40, .inl a_f_acts))] := (va_D.tt hD_x hD_hall (by decide))
  refine ⟨_, _, _, x_drawn l dC dI cyI cyB cyJ cyZ cyH cyN tR tF aK aV st.heap.size x0 h0 a_first a_now a_lawPlace a_lawOther a_lawEach a_lawFrom a_foes a_suitTable a_acts a_pl a_li a_le a_lc a_ac a_ng a_f_first a_f_now a_f_lawPlace a_f_lawOther a_f_lawEach a_f_lawFrom a_f_foes a_f_suitTable a_f_acts t0 d0 im ke sl0 c0 v0 q0 s0 gm0 l0 to tr vsl p0 p1 p2 Fhall_0 Fhall_1 Fhall_2 Fhall_3 Fhall_4 Fhall_5 Fhall_6 Fhall_7 Fhall_8, ⟨ha, rfl, hPa, hK.sub [0, 1, 2, 3, 4, 5] rfl, hDa.weaken (fun _ _ _ _ => trivial), hFX.narrow (ax_of hDa (by decide))⟩, ?_, ax_of hDa (by decide)⟩
  rintro o t ⟨⟨r, u, ho, hr, hP', hD'⟩, hF⟩
  refine ⟨⟨r, (), ho, hr, a_pl, s_n0, s_n1, s_n2, s_n3, t0, h0, d0, im, ke, sl0, c0, v0, q0, s0, gm0, l0, to, tr, vsl, ⟨_, rfl, hP'.sub [0] rfl, hD_x.same rfl⟩,
    h_tape.frame hF hDa (by decide),
    ⟨_, ⟨a_first, a_now, a_lawPlace, a_lawOther, a_lawEach, a_lawFrom, a_foes, a_suitTable, a_acts, a_li, a_le, a_lc, a_ac, a_ng, a_f_first, a_f_now, a_f_lawPlace, a_f_lawOther, a_f_lawEach, a_f_lawFrom, a_f_foes, a_f_suitTable, a_f_acts, Fhall_0, Fhall_1, Fhall_2, Fhall_3, Fhall_4, Fhall_5, Fhall_6, Fhall_7, Fhall_8, rfl⟩, hP'.sub [1, 2, 3, 4, 5, 6, 7, 8, 9, 10] rfl, hD_hall.same rfl⟩,
    h_draft.frame hF hDa (by decide),
    h_images.frame hF hDa (by decide),
    h_kept.frame hF hDa (by decide),
    h_slots.frame hF hDa (by decide),
    h_course.frame hF hDa (by decide),
    h_sight.frame hF hDa (by decide),
    h_parting.frame hF hDa (by decide),
    h_suiting.frame hF hDa (by decide),
    h_game.frame hF hDa (by decide),
    h_lots.frame hF hDa (by decide),
    h_told.frame hF hDa (by decide),
    h_tried.frame hF hDa (by decide),
    hsl.go (tt_keep hF hDa (by decide))⟩, hF.wide (ax_of hDa (by decide))⟩
set_option maxHeartbeats 4000000 in
set_option maxRecDepth 100000 in
theorem wx_luck (l : Launch) (dC : Nat → ClassId) (dI : Nat → Nat → Nat) (cyI cyB cyJ cyZ cyH cyN cyM : ClassId) (tR tF : Nat) (aK aV : Nat → Nat) (tg : Nat → Nat) (sz : Nat) (x0 sl : Nat) (ke_f s_fm s_fl s_fw : Nat → Int32) (p0 p1 p2 p3 : Int32) : Met l yX11_luck (wk yX11_luck cX11_luck 8 (some .int)) ({ frames := 3, cells := 0, slots := 0, locals := 104 }) (va_Pc [.ref x0, .int p0, .int p1, .int p2, .int p3] (XP dC dI cyI cyB cyJ cyZ cyH cyN cyM tR tF aK aV tg sz x0 sl ke_f s_fm s_fl s_fw)) (va_Qi (fun (r : Int32) (_ : Unit) => True) (fun (_ : Unit) (t : State) => XE dC dI cyI cyB cyJ cyZ cyH cyN cyM tg x0 sl ke_f s_fm s_fl s_fw t.heap) (AX tg sz)) 0 0 (AX tg sz) := by
  refine met_of (fun a st hp => ?_)
  obtain ⟨ha, hsz, ⟨a_pl, s_n0, s_n1, s_n2, s_n3, t0, h0, d0, im, ke, sl0, c0, v0, q0, s0, gm0, l0, to, tr, vsl, hx, h_tape, h_hall, h_draft, h_images, h_kept, h_slots, h_course, h_sight, h_parting, h_suiting, h_game, h_lots, h_told, h_tried, hsl⟩, hK, hNB, hFX⟩ := hp
  subst hsz
  obtain ⟨_, rfl, hP_x, hD_x⟩ := hx
  obtain ⟨_, ⟨a_first, a_now, a_lawPlace, a_lawOther, a_lawEach, a_lawFrom, a_foes, a_suitTable, a_acts, a_li, a_le, a_lc, a_ac, a_ng, a_f_first, a_f_now, a_f_lawPlace, a_f_lawOther, a_f_lawEach, a_f_lawFrom, a_f_foes, a_f_suitTable, a_f_acts, Fhall_0, Fhall_1, Fhall_2, Fhall_3, Fhall_4, Fhall_5, Fhall_6, Fhall_7, Fhall_8, rfl⟩, hP_hall, hD_hall⟩ := h_hall
  have hPa : va_P (dC, dI) vwCl [(x0, .inr (10, [.ref t0, .ref h0, .ref d0, .ref im, .ref ke, .ref sl0, .ref c0, .ref v0, .ref q0, .ref s0, .ref gm0, .ref l0, .ref to, .ref tr, vsl])), (h0, .inr (2, [.int a_pl, .int a_li, .int a_le, .int a_lc, .int a_ac, .int a_ng, .ref a_first, .ref a_now, .ref a_lawPlace, .ref a_lawOther, .ref a_lawEach, .ref a_lawFrom, .ref a_foes, .ref a_suitTable, .ref a_acts])), (a_first, .inl (cyI, 7, .inl a_f_first)), (a_now, .inl (cyI, 7, .inl a_f_now)), (a_lawPlace, .inl (cyI, 6, .inl a_f_lawPlace)), (a_lawOther, .inl (cyI, 6, .inl a_f_lawOther)), (a_lawEach, .inl (cyI, 6, .inl a_f_lawEach)), (a_lawFrom, .inl (cyI, 6, .inl a_f_lawFrom)), (a_foes, .inl (cyI, 7, .inl a_f_foes)), (a_suitTable, .inl (cyI, 49, .inl a_f_suitTable)), (a_acts, .inl (cyI, 40, .inl a_f_acts))] st.heap := va_P.app hP_x hP_hall
  have hDa : va_D (TT tg [0, 2]) [(x0, .inr (10, [.ref t0, .ref h0, .ref d0, .ref im, .ref ke, .ref sl0, .ref c0, .ref v0, .ref q0, .ref s0, .ref gm0, .ref l0, .ref to, .ref tr, vsl])), (h0, .inr (2, [.int a_pl, .int a_li, .int a_le, .int a_lc, .int a_ac, .int a_ng, .ref a_first, .ref a_now, .ref a_lawPlace, .ref a_lawOther, .ref a_lawEach, .ref a_lawFrom, .ref a_foes, .ref a_suitTable, .ref a_acts])), (a_first, .inl (cyI, 7, .inl a_f_first)), (a_now, .inl (cyI, 7, .inl a_f_now)), (a_lawPlace, .inl (cyI, 6, .inl a_f_lawPlace)), (a_lawOther, .inl (cyI, 6, .inl a_f_lawOther)), (a_lawEach, .inl (cyI, 6, .inl a_f_lawEach)), (a_lawFrom, .inl (cyI, 6, .inl a_f_lawFrom)), (a_foes, .inl (cyI, 7, .inl a_f_foes)), (a_suitTable, .inl (cyI, 49, .inl a_f_suitTable)), (a_acts, .inl (cyI, 40, .inl a_f_acts))] := (va_D.tt hD_x hD_hall (by decide))
  refine ⟨_, _, _, x_luck l dC dI cyI cyB cyJ cyZ cyH cyN tR tF aK aV st.heap.size x0 h0 a_first a_now a_lawPlace a_lawOther a_lawEach a_lawFrom a_foes a_suitTable a_acts a_pl a_li a_le a_lc a_ac a_ng a_f_first a_f_now a_f_lawPlace a_f_lawOther a_f_lawEach a_f_lawFrom a_f_foes a_f_suitTable a_f_acts t0 d0 im ke sl0 c0 v0 q0 s0 gm0 l0 to tr vsl p0 p1 p2 p3 Fhall_0 Fhall_1 Fhall_2 Fhall_3 Fhall_4 Fhall_5 Fhall_6 Fhall_7 Fhall_8, ⟨ha, rfl, hPa, hK.sub [0, 1, 2, 3, 4, 5] rfl, hDa.weaken (fun _ _ _ _ => trivial), hFX.narrow (ax_of hDa (by decide))⟩, ?_, ax_of hDa (by decide)⟩
  rintro o t ⟨⟨r, u, ho, hr, hP', hD'⟩, hF⟩
  refine ⟨⟨r, (), ho, hr, a_pl, s_n0, s_n1, s_n2, s_n3, t0, h0, d0, im, ke, sl0, c0, v0, q0, s0, gm0, l0, to, tr, vsl, ⟨_, rfl, hP'.sub [0] rfl, hD_x.same rfl⟩,
    h_tape.frame hF hDa (by decide),
    ⟨_, ⟨a_first, a_now, a_lawPlace, a_lawOther, a_lawEach, a_lawFrom, a_foes, a_suitTable, a_acts, a_li, a_le, a_lc, a_ac, a_ng, a_f_first, a_f_now, a_f_lawPlace, a_f_lawOther, a_f_lawEach, a_f_lawFrom, a_f_foes, a_f_suitTable, a_f_acts, Fhall_0, Fhall_1, Fhall_2, Fhall_3, Fhall_4, Fhall_5, Fhall_6, Fhall_7, Fhall_8, rfl⟩, hP'.sub [1, 2, 3, 4, 5, 6, 7, 8, 9, 10] rfl, hD_hall.same rfl⟩,
    h_draft.frame hF hDa (by decide),
    h_images.frame hF hDa (by decide),
    h_kept.frame hF hDa (by decide),
    h_slots.frame hF hDa (by decide),
    h_course.frame hF hDa (by decide),
    h_sight.frame hF hDa (by decide),
    h_parting.frame hF hDa (by decide),
    h_suiting.frame hF hDa (by decide),
    h_game.frame hF hDa (by decide),
    h_lots.frame hF hDa (by decide),
    h_told.frame hF hDa (by decide),
    h_tried.frame hF hDa (by decide),
    hsl.go (tt_keep hF hDa (by decide))⟩, hF.wide (ax_of hDa (by decide))⟩
set_option maxHeartbeats 4000000 in
set_option maxRecDepth 100000 in
theorem wx_tell (l : Launch) (dC : Nat → ClassId) (dI : Nat → Nat → Nat) (cyI cyB cyJ cyZ cyH cyN cyM : ClassId) (tR tF : Nat) (aK aV : Nat → Nat) (tg : Nat → Nat) (sz : Nat) (x0 sl : Nat) (ke_f s_fm s_fl s_fw : Nat → Int32) (p0 p1 p2 : Int32) : Met l yX11_tell (wk yX11_tell cX11_tell 5 (some .int)) ({ frames := 2, cells := 0, slots := 0, locals := 83 }) (va_Pc [.ref x0, .int p0, .int p1, .int p2] (XP dC dI cyI cyB cyJ cyZ cyH cyN cyM tR tF aK aV tg sz x0 sl ke_f s_fm s_fl s_fw)) (va_Qi (fun (r : Int32) (_ : Unit) => True) (fun (_ : Unit) (t : State) => XE dC dI cyI cyB cyJ cyZ cyH cyN cyM tg x0 sl ke_f s_fm s_fl s_fw t.heap) (AX tg sz)) 0 0 (AX tg sz) := by
  refine met_of (fun a st hp => ?_)
  obtain ⟨ha, hsz, ⟨a_pl, s_n0, s_n1, s_n2, s_n3, t0, h0, d0, im, ke, sl0, c0, v0, q0, s0, gm0, l0, to, tr, vsl, hx, h_tape, h_hall, h_draft, h_images, h_kept, h_slots, h_course, h_sight, h_parting, h_suiting, h_game, h_lots, h_told, h_tried, hsl⟩, hK, hNB, hFX⟩ := hp
  subst hsz
  obtain ⟨_, rfl, hP_x, hD_x⟩ := hx
  obtain ⟨_, ⟨a_first, a_now, a_lawPlace, a_lawOther, a_lawEach, a_lawFrom, a_foes, a_suitTable, a_acts, a_li, a_le, a_lc, a_ac, a_ng, a_f_first, a_f_now, a_f_lawPlace, a_f_lawOther, a_f_lawEach, a_f_lawFrom, a_f_foes, a_f_suitTable, a_f_acts, Fhall_0, Fhall_1, Fhall_2, Fhall_3, Fhall_4, Fhall_5, Fhall_6, Fhall_7, Fhall_8, rfl⟩, hP_hall, hD_hall⟩ := h_hall
  have hPa : va_P (dC, dI) vwCl [(x0, .inr (10, [.ref t0, .ref h0, .ref d0, .ref im, .ref ke, .ref sl0, .ref c0, .ref v0, .ref q0, .ref s0, .ref gm0, .ref l0, .ref to, .ref tr, vsl])), (h0, .inr (2, [.int a_pl, .int a_li, .int a_le, .int a_lc, .int a_ac, .int a_ng, .ref a_first, .ref a_now, .ref a_lawPlace, .ref a_lawOther, .ref a_lawEach, .ref a_lawFrom, .ref a_foes, .ref a_suitTable, .ref a_acts])), (a_first, .inl (cyI, 7, .inl a_f_first)), (a_now, .inl (cyI, 7, .inl a_f_now)), (a_lawPlace, .inl (cyI, 6, .inl a_f_lawPlace)), (a_lawOther, .inl (cyI, 6, .inl a_f_lawOther)), (a_lawEach, .inl (cyI, 6, .inl a_f_lawEach)), (a_lawFrom, .inl (cyI, 6, .inl a_f_lawFrom)), (a_foes, .inl (cyI, 7, .inl a_f_foes)), (a_suitTable, .inl (cyI, 49, .inl a_f_suitTable)), (a_acts, .inl (cyI, 40, .inl a_f_acts))] st.heap := va_P.app hP_x hP_hall
  have hDa : va_D (TT tg [0, 2]) [(x0, .inr (10, [.ref t0, .ref h0, .ref d0, .ref im, .ref ke, .ref sl0, .ref c0, .ref v0, .ref q0, .ref s0, .ref gm0, .ref l0, .ref to, .ref tr, vsl])), (h0, .inr (2, [.int a_pl, .int a_li, .int a_le, .int a_lc, .int a_ac, .int a_ng, .ref a_first, .ref a_now, .ref a_lawPlace, .ref a_lawOther, .ref a_lawEach, .ref a_lawFrom, .ref a_foes, .ref a_suitTable, .ref a_acts])), (a_first, .inl (cyI, 7, .inl a_f_first)), (a_now, .inl (cyI, 7, .inl a_f_now)), (a_lawPlace, .inl (cyI, 6, .inl a_f_lawPlace)), (a_lawOther, .inl (cyI, 6, .inl a_f_lawOther)), (a_lawEach, .inl (cyI, 6, .inl a_f_lawEach)), (a_lawFrom, .inl (cyI, 6, .inl a_f_lawFrom)), (a_foes, .inl (cyI, 7, .inl a_f_foes)), (a_suitTable, .inl (cyI, 49, .inl a_f_suitTable)), (a_acts, .inl (cyI, 40, .inl a_f_acts))] := (va_D.tt hD_x hD_hall (by decide))
  refine ⟨_, _, _, x_tell l dC dI cyI cyB cyJ cyZ cyH cyN tR tF aK aV st.heap.size x0 h0 a_first a_now a_lawPlace a_lawOther a_lawEach a_lawFrom a_foes a_suitTable a_acts a_pl a_li a_le a_lc a_ac a_ng a_f_first a_f_now a_f_lawPlace a_f_lawOther a_f_lawEach a_f_lawFrom a_f_foes a_f_suitTable a_f_acts t0 d0 im ke sl0 c0 v0 q0 s0 gm0 l0 to tr vsl p0 p1 p2 Fhall_0 Fhall_1 Fhall_2 Fhall_3 Fhall_4 Fhall_5 Fhall_6 Fhall_7 Fhall_8, ⟨ha, rfl, hPa, hK.sub [0, 1, 2, 3, 4, 5] rfl, hDa.weaken (fun _ _ _ _ => trivial), hFX.narrow (ax_of hDa (by decide))⟩, ?_, ax_of hDa (by decide)⟩
  rintro o t ⟨⟨r, u, ho, hr, y0, hP', hD'⟩, hF⟩
  refine ⟨⟨r, (), ho, hr, a_pl, s_n0, s_n1, s_n2, s_n3, t0, h0, d0, im, ke, sl0, c0, v0, q0, s0, gm0, l0, to, tr, vsl, ⟨_, rfl, hP'.sub [0] rfl, hD_x.same rfl⟩,
    h_tape.frame hF hDa (by decide),
    ⟨_, ⟨a_first, a_now, a_lawPlace, a_lawOther, a_lawEach, a_lawFrom, a_foes, a_suitTable, a_acts, a_li, a_le, a_lc, a_ac, a_ng, a_f_first, a_f_now, a_f_lawPlace, a_f_lawOther, a_f_lawEach, a_f_lawFrom, a_f_foes, y0, a_f_acts, Fhall_0, Fhall_1, Fhall_2, Fhall_3, Fhall_4, Fhall_5, Fhall_6, Fhall_7, Fhall_8, rfl⟩, hP'.sub [1, 2, 3, 4, 5, 6, 7, 8, 9, 10] rfl, hD_hall.same rfl⟩,
    h_draft.frame hF hDa (by decide),
    h_images.frame hF hDa (by decide),
    h_kept.frame hF hDa (by decide),
    h_slots.frame hF hDa (by decide),
    h_course.frame hF hDa (by decide),
    h_sight.frame hF hDa (by decide),
    h_parting.frame hF hDa (by decide),
    h_suiting.frame hF hDa (by decide),
    h_game.frame hF hDa (by decide),
    h_lots.frame hF hDa (by decide),
    h_told.frame hF hDa (by decide),
    h_tried.frame hF hDa (by decide),
    hsl.go (tt_keep hF hDa (by decide))⟩, hF.wide (ax_of hDa (by decide))⟩
set_option maxHeartbeats 4000000 in
set_option maxRecDepth 100000 in
theorem wx_count (l : Launch) (dC : Nat → ClassId) (dI : Nat → Nat → Nat) (cyI cyB cyJ cyZ cyH cyN cyM : ClassId) (tR tF : Nat) (aK aV : Nat → Nat) (tg : Nat → Nat) (sz : Nat) (x0 sl : Nat) (ke_f s_fm s_fl s_fw : Nat → Int32) (p0 : Int32) : Met l yX11_count (wk yX11_count cX11_count 2 (some .int)) ({ frames := 3, cells := 0, slots := 0, locals := 102 }) (va_Pc [.ref x0, .int p0] (XP dC dI cyI cyB cyJ cyZ cyH cyN cyM tR tF aK aV tg sz x0 sl ke_f s_fm s_fl s_fw)) (va_Qi (fun (r : Int32) (_ : Unit) => True) (fun (_ : Unit) (t : State) => XE dC dI cyI cyB cyJ cyZ cyH cyN cyM tg x0 sl ke_f s_fm s_fl s_fw t.heap) (AX tg sz)) 0 0 (AX tg sz) := by
  refine met_of (fun a st hp => ?_)
  obtain ⟨ha, hsz, ⟨a_pl, s_n0, s_n1, s_n2, s_n3, t0, h0, d0, im, ke, sl0, c0, v0, q0, s0, gm0, l0, to, tr, vsl, hx, h_tape, h_hall, h_draft, h_images, h_kept, h_slots, h_course, h_sight, h_parting, h_suiting, h_game, h_lots, h_told, h_tried, hsl⟩, hK, hNB, hFX⟩ := hp
  subst hsz
  obtain ⟨_, rfl, hP_x, hD_x⟩ := hx
  obtain ⟨_, ⟨a_first, a_now, a_lawPlace, a_lawOther, a_lawEach, a_lawFrom, a_foes, a_suitTable, a_acts, a_li, a_le, a_lc, a_ac, a_ng, a_f_first, a_f_now, a_f_lawPlace, a_f_lawOther, a_f_lawEach, a_f_lawFrom, a_f_foes, a_f_suitTable, a_f_acts, Fhall_0, Fhall_1, Fhall_2, Fhall_3, Fhall_4, Fhall_5, Fhall_6, Fhall_7, Fhall_8, rfl⟩, hP_hall, hD_hall⟩ := h_hall
  obtain ⟨_, ⟨tBytes, tsz, tfa, tfp, tnx, tki, tst, tsp, tva, tac, t_f, Ftape_0, Ftape_1, Ftape_2, Ftape_3, Ftape_4, Ftape_5, rfl⟩, hP_tape, hD_tape⟩ := h_tape
  obtain ⟨_, ⟨sNum, sLen, sWid, sMade, n0, n1, n2, n3, nF, Fslots_0, Fslots_1, Fslots_2, Fslots_3, Fslots_4, Fslots_5, Fslots_6, rfl⟩, hP_slots, hD_slots⟩ := h_slots
  have hPa : va_P (dC, dI) vwCl [(x0, .inr (10, [.ref t0, .ref h0, .ref d0, .ref im, .ref ke, .ref sl0, .ref c0, .ref v0, .ref q0, .ref s0, .ref gm0, .ref l0, .ref to, .ref tr, vsl])), (h0, .inr (2, [.int a_pl, .int a_li, .int a_le, .int a_lc, .int a_ac, .int a_ng, .ref a_first, .ref a_now, .ref a_lawPlace, .ref a_lawOther, .ref a_lawEach, .ref a_lawFrom, .ref a_foes, .ref a_suitTable, .ref a_acts])), (a_first, .inl (cyI, 7, .inl a_f_first)), (a_now, .inl (cyI, 7, .inl a_f_now)), (a_lawPlace, .inl (cyI, 6, .inl a_f_lawPlace)), (a_lawOther, .inl (cyI, 6, .inl a_f_lawOther)), (a_lawEach, .inl (cyI, 6, .inl a_f_lawEach)), (a_lawFrom, .inl (cyI, 6, .inl a_f_lawFrom)), (a_foes, .inl (cyI, 7, .inl a_f_foes)), (a_suitTable, .inl (cyI, 49, .inl a_f_suitTable)), (a_acts, .inl (cyI, 40, .inl a_f_acts)), (t0, .inr (9, [.ref tBytes, .int tsz, .int tfa, .int tfp, .int tnx, .int tki, .int tst, .int tsp, .int tva, .int tac])), (tBytes, .inl (cyB, 800, .inl t_f)), (sl0, .inr (7, [.ref sNum, .ref sLen, .ref sWid, .ref sMade])), (sMade, .inl (cyZ, 4, .inl s_fm)), (sLen, .inl (cyI, 4, .inl s_fl)), (sWid, .inl (cyI, 4, .inl s_fw)), (sNum, .inl (cyN, 4, .inr (.inr (.inr (.inr nF))))), (n0, .inl (cyJ, 60, .inr (.inl s_n0))), (n1, .inl (cyJ, 60, .inr (.inl s_n1))), (n2, .inl (cyJ, 60, .inr (.inl s_n2))), (n3, .inl (cyJ, 60, .inr (.inl s_n3)))] st.heap := va_P.app hP_x (va_P.app hP_hall (va_P.app hP_tape hP_slots))
  have hDa : va_D (TT tg [0, 2, 1, 6]) [(x0, .inr (10, [.ref t0, .ref h0, .ref d0, .ref im, .ref ke, .ref sl0, .ref c0, .ref v0, .ref q0, .ref s0, .ref gm0, .ref l0, .ref to, .ref tr, vsl])), (h0, .inr (2, [.int a_pl, .int a_li, .int a_le, .int a_lc, .int a_ac, .int a_ng, .ref a_first, .ref a_now, .ref a_lawPlace, .ref a_lawOther, .ref a_lawEach, .ref a_lawFrom, .ref a_foes, .ref a_suitTable, .ref a_acts])), (a_first, .inl (cyI, 7, .inl a_f_first)), (a_now, .inl (cyI, 7, .inl a_f_now)), (a_lawPlace, .inl (cyI, 6, .inl a_f_lawPlace)), (a_lawOther, .inl (cyI, 6, .inl a_f_lawOther)), (a_lawEach, .inl (cyI, 6, .inl a_f_lawEach)), (a_lawFrom, .inl (cyI, 6, .inl a_f_lawFrom)), (a_foes, .inl (cyI, 7, .inl a_f_foes)), (a_suitTable, .inl (cyI, 49, .inl a_f_suitTable)), (a_acts, .inl (cyI, 40, .inl a_f_acts)), (t0, .inr (9, [.ref tBytes, .int tsz, .int tfa, .int tfp, .int tnx, .int tki, .int tst, .int tsp, .int tva, .int tac])), (tBytes, .inl (cyB, 800, .inl t_f)), (sl0, .inr (7, [.ref sNum, .ref sLen, .ref sWid, .ref sMade])), (sMade, .inl (cyZ, 4, .inl s_fm)), (sLen, .inl (cyI, 4, .inl s_fl)), (sWid, .inl (cyI, 4, .inl s_fw)), (sNum, .inl (cyN, 4, .inr (.inr (.inr (.inr nF))))), (n0, .inl (cyJ, 60, .inr (.inl s_n0))), (n1, .inl (cyJ, 60, .inr (.inl s_n1))), (n2, .inl (cyJ, 60, .inr (.inl s_n2))), (n3, .inl (cyJ, 60, .inr (.inl s_n3)))] := (va_D.tt hD_x (va_D.tt hD_hall (va_D.tt hD_tape hD_slots (by decide)) (by decide)) (by decide))
  refine ⟨_, _, _, x_count l dC dI cyI cyB cyJ cyZ cyH cyN tR tF aK aV st.heap.size x0 h0 a_first a_now a_lawPlace a_lawOther a_lawEach a_lawFrom a_foes a_suitTable a_acts a_pl a_li a_le a_lc a_ac a_ng a_f_first a_f_now a_f_lawPlace a_f_lawOther a_f_lawEach a_f_lawFrom a_f_foes a_f_suitTable a_f_acts t0 tBytes tsz tfa tfp tnx tki tst tsp tva tac t_f sl0 sNum sLen sWid sMade n0 n1 n2 n3 nF s_fm s_fl s_fw s_n0 s_n1 s_n2 s_n3 d0 im ke c0 v0 q0 s0 gm0 l0 to tr vsl p0 Fhall_0 Fhall_1 Fhall_2 Fhall_3 Fhall_4 Fslots_0 Fslots_1 Fslots_2 Fhall_5 Fhall_6 Fhall_7 Ftape_0 Ftape_1 Ftape_2 Ftape_3 Ftape_4 Ftape_5 Fhall_8 Fslots_3 Fslots_4 Fslots_5 Fslots_6, ⟨ha, rfl, hPa, hK.sub [0, 1, 2, 3, 4, 5] rfl, hDa.weaken (fun _ _ _ _ => trivial), hFX.narrow (ax_of hDa (by decide))⟩, ?_, ax_of hDa (by decide)⟩
  rintro o t ⟨⟨r, u, ho, hr, hP', hD'⟩, hF⟩
  refine ⟨⟨r, (), ho, hr, a_pl, s_n0, s_n1, s_n2, s_n3, t0, h0, d0, im, ke, sl0, c0, v0, q0, s0, gm0, l0, to, tr, vsl, ⟨_, rfl, hP'.sub [0] rfl, hD_x.same rfl⟩,
    ⟨_, ⟨tBytes, tsz, tfa, tfp, tnx, tki, tst, tsp, tva, tac, t_f, Ftape_0, Ftape_1, Ftape_2, Ftape_3, Ftape_4, Ftape_5, rfl⟩, hP'.sub [11, 12] rfl, hD_tape.same rfl⟩,
    ⟨_, ⟨a_first, a_now, a_lawPlace, a_lawOther, a_lawEach, a_lawFrom, a_foes, a_suitTable, a_acts, a_li, a_le, a_lc, a_ac, a_ng, a_f_first, a_f_now, a_f_lawPlace, a_f_lawOther, a_f_lawEach, a_f_lawFrom, a_f_foes, a_f_suitTable, a_f_acts, Fhall_0, Fhall_1, Fhall_2, Fhall_3, Fhall_4, Fhall_5, Fhall_6, Fhall_7, Fhall_8, rfl⟩, hP'.sub [1, 2, 3, 4, 5, 6, 7, 8, 9, 10] rfl, hD_hall.same rfl⟩,
    h_draft.frame hF hDa (by decide),
    h_images.frame hF hDa (by decide),
    h_kept.frame hF hDa (by decide),
    ⟨_, ⟨sNum, sLen, sWid, sMade, n0, n1, n2, n3, nF, Fslots_0, Fslots_1, Fslots_2, Fslots_3, Fslots_4, Fslots_5, Fslots_6, rfl⟩, hP'.sub [13, 14, 15, 16, 17, 18, 19, 20, 21] rfl, hD_slots.same rfl⟩,
    h_course.frame hF hDa (by decide),
    h_sight.frame hF hDa (by decide),
    h_parting.frame hF hDa (by decide),
    h_suiting.frame hF hDa (by decide),
    h_game.frame hF hDa (by decide),
    h_lots.frame hF hDa (by decide),
    h_told.frame hF hDa (by decide),
    h_tried.frame hF hDa (by decide),
    hsl.go (tt_keep hF hDa (by decide))⟩, hF.wide (ax_of hDa (by decide))⟩
set_option maxHeartbeats 4000000 in
set_option maxRecDepth 100000 in
theorem wx_image (l : Launch) (dC : Nat → ClassId) (dI : Nat → Nat → Nat) (cyI cyB cyJ cyZ cyH cyN cyM : ClassId) (tR tF : Nat) (aK aV : Nat → Nat) (tg : Nat → Nat) (sz : Nat) (x0 sl : Nat) (ke_f s_fm s_fl s_fw : Nat → Int32) (p0 : Int32) : Met l yX11_image (wk yX11_image cX11_image 2 (some .int)) ({ frames := 2, cells := 0, slots := 0, locals := 82 }) (va_Pc [.ref x0, .int p0] (XP dC dI cyI cyB cyJ cyZ cyH cyN cyM tR tF aK aV tg sz x0 sl ke_f s_fm s_fl s_fw)) (va_Qi (fun (r : Int32) (_ : Unit) => r = ims p0) (fun (_ : Unit) (t : State) => ∃ fk' : Nat → Int32, kq p0 ke_f fk' ∧ XE dC dI cyI cyB cyJ cyZ cyH cyN cyM tg x0 sl fk' s_fm s_fl s_fw t.heap) (AX tg sz)) 0 0 (AX tg sz) := by
  refine met_of (fun a st hp => ?_)
  obtain ⟨ha, hsz, ⟨a_pl, s_n0, s_n1, s_n2, s_n3, t0, h0, d0, im, ke, sl0, c0, v0, q0, s0, gm0, l0, to, tr, vsl, hx, h_tape, h_hall, h_draft, h_images, h_kept, h_slots, h_course, h_sight, h_parting, h_suiting, h_game, h_lots, h_told, h_tried, hsl⟩, hK, hNB, hFX⟩ := hp
  subst hsz
  obtain ⟨_, rfl, hP_x, hD_x⟩ := hx
  obtain ⟨_, ⟨a_first, a_now, a_lawPlace, a_lawOther, a_lawEach, a_lawFrom, a_foes, a_suitTable, a_acts, a_li, a_le, a_lc, a_ac, a_ng, a_f_first, a_f_now, a_f_lawPlace, a_f_lawOther, a_f_lawEach, a_f_lawFrom, a_f_foes, a_f_suitTable, a_f_acts, Fhall_0, Fhall_1, Fhall_2, Fhall_3, Fhall_4, Fhall_5, Fhall_6, Fhall_7, Fhall_8, rfl⟩, hP_hall, hD_hall⟩ := h_hall
  obtain ⟨_, ⟨imF, i0, i1, i2, _, _, _, Fim_0, Fim_1, Fim_2, ⟨e0_pl, e0_first, e0_now, e0_lawPlace, e0_lawOther, e0_lawEach, e0_lawFrom, e0_foes, e0_suitTable, e0_acts, e0_li, e0_le, e0_lc, e0_ac, e0_ng, e0_f_first, e0_f_now, e0_f_lawPlace, e0_f_lawOther, e0_f_lawEach, e0_f_lawFrom, e0_f_foes, e0_f_suitTable, e0_f_acts, Fe0_0, Fe0_1, Fe0_2, Fe0_3, Fe0_4, Fe0_5, Fe0_6, Fe0_7, Fe0_8, rfl⟩, ⟨e1_pl, e1_first, e1_now, e1_lawPlace, e1_lawOther, e1_lawEach, e1_lawFrom, e1_foes, e1_suitTable, e1_acts, e1_li, e1_le, e1_lc, e1_ac, e1_ng, e1_f_first, e1_f_now, e1_f_lawPlace, e1_f_lawOther, e1_f_lawEach, e1_f_lawFrom, e1_f_foes, e1_f_suitTable, e1_f_acts, Fe1_0, Fe1_1, Fe1_2, Fe1_3, Fe1_4, Fe1_5, Fe1_6, Fe1_7, Fe1_8, rfl⟩, ⟨e2_pl, e2_first, e2_now, e2_lawPlace, e2_lawOther, e2_lawEach, e2_lawFrom, e2_foes, e2_suitTable, e2_acts, e2_li, e2_le, e2_lc, e2_ac, e2_ng, e2_f_first, e2_f_now, e2_f_lawPlace, e2_f_lawOther, e2_f_lawEach, e2_f_lawFrom, e2_f_foes, e2_f_suitTable, e2_f_acts, Fe2_0, Fe2_1, Fe2_2, Fe2_3, Fe2_4, Fe2_5, Fe2_6, Fe2_7, Fe2_8, rfl⟩, rfl⟩, hP_images, hD_images⟩ := h_images
  obtain ⟨_, ⟨Fkept_0, rfl⟩, hP_kept, hD_kept⟩ := h_kept
  have hPa : va_P (dC, dI) vwCl [(x0, .inr (10, [.ref t0, .ref h0, .ref d0, .ref im, .ref ke, .ref sl0, .ref c0, .ref v0, .ref q0, .ref s0, .ref gm0, .ref l0, .ref to, .ref tr, vsl])), (h0, .inr (2, [.int a_pl, .int a_li, .int a_le, .int a_lc, .int a_ac, .int a_ng, .ref a_first, .ref a_now, .ref a_lawPlace, .ref a_lawOther, .ref a_lawEach, .ref a_lawFrom, .ref a_foes, .ref a_suitTable, .ref a_acts])), (a_first, .inl (cyI, 7, .inl a_f_first)), (a_now, .inl (cyI, 7, .inl a_f_now)), (a_lawPlace, .inl (cyI, 6, .inl a_f_lawPlace)), (a_lawOther, .inl (cyI, 6, .inl a_f_lawOther)), (a_lawEach, .inl (cyI, 6, .inl a_f_lawEach)), (a_lawFrom, .inl (cyI, 6, .inl a_f_lawFrom)), (a_foes, .inl (cyI, 7, .inl a_f_foes)), (a_suitTable, .inl (cyI, 49, .inl a_f_suitTable)), (a_acts, .inl (cyI, 40, .inl a_f_acts)), (im, .inl (cyH, 3, .inr (.inr (.inr (.inr imF))))), (i0, .inr (2, [.int e0_pl, .int e0_li, .int e0_le, .int e0_lc, .int e0_ac, .int e0_ng, .ref e0_first, .ref e0_now, .ref e0_lawPlace, .ref e0_lawOther, .ref e0_lawEach, .ref e0_lawFrom, .ref e0_foes, .ref e0_suitTable, .ref e0_acts])), (e0_first, .inl (cyI, 7, .inl e0_f_first)), (e0_now, .inl (cyI, 7, .inl e0_f_now)), (e0_lawPlace, .inl (cyI, 6, .inl e0_f_lawPlace)), (e0_lawOther, .inl (cyI, 6, .inl e0_f_lawOther)), (e0_lawEach, .inl (cyI, 6, .inl e0_f_lawEach)), (e0_lawFrom, .inl (cyI, 6, .inl e0_f_lawFrom)), (e0_foes, .inl (cyI, 7, .inl e0_f_foes)), (e0_suitTable, .inl (cyI, 49, .inl e0_f_suitTable)), (e0_acts, .inl (cyI, 40, .inl e0_f_acts)), (i1, .inr (2, [.int e1_pl, .int e1_li, .int e1_le, .int e1_lc, .int e1_ac, .int e1_ng, .ref e1_first, .ref e1_now, .ref e1_lawPlace, .ref e1_lawOther, .ref e1_lawEach, .ref e1_lawFrom, .ref e1_foes, .ref e1_suitTable, .ref e1_acts])), (e1_first, .inl (cyI, 7, .inl e1_f_first)), (e1_now, .inl (cyI, 7, .inl e1_f_now)), (e1_lawPlace, .inl (cyI, 6, .inl e1_f_lawPlace)), (e1_lawOther, .inl (cyI, 6, .inl e1_f_lawOther)), (e1_lawEach, .inl (cyI, 6, .inl e1_f_lawEach)), (e1_lawFrom, .inl (cyI, 6, .inl e1_f_lawFrom)), (e1_foes, .inl (cyI, 7, .inl e1_f_foes)), (e1_suitTable, .inl (cyI, 49, .inl e1_f_suitTable)), (e1_acts, .inl (cyI, 40, .inl e1_f_acts)), (i2, .inr (2, [.int e2_pl, .int e2_li, .int e2_le, .int e2_lc, .int e2_ac, .int e2_ng, .ref e2_first, .ref e2_now, .ref e2_lawPlace, .ref e2_lawOther, .ref e2_lawEach, .ref e2_lawFrom, .ref e2_foes, .ref e2_suitTable, .ref e2_acts])), (e2_first, .inl (cyI, 7, .inl e2_f_first)), (e2_now, .inl (cyI, 7, .inl e2_f_now)), (e2_lawPlace, .inl (cyI, 6, .inl e2_f_lawPlace)), (e2_lawOther, .inl (cyI, 6, .inl e2_f_lawOther)), (e2_lawEach, .inl (cyI, 6, .inl e2_f_lawEach)), (e2_lawFrom, .inl (cyI, 6, .inl e2_f_lawFrom)), (e2_foes, .inl (cyI, 7, .inl e2_f_foes)), (e2_suitTable, .inl (cyI, 49, .inl e2_f_suitTable)), (e2_acts, .inl (cyI, 40, .inl e2_f_acts)), (ke, .inl (cyZ, 3, .inl ke_f))] st.heap := va_P.app hP_x (va_P.app hP_hall (va_P.app hP_images hP_kept))
  have hDa : va_D (TT tg [0, 2, 4, 5]) [(x0, .inr (10, [.ref t0, .ref h0, .ref d0, .ref im, .ref ke, .ref sl0, .ref c0, .ref v0, .ref q0, .ref s0, .ref gm0, .ref l0, .ref to, .ref tr, vsl])), (h0, .inr (2, [.int a_pl, .int a_li, .int a_le, .int a_lc, .int a_ac, .int a_ng, .ref a_first, .ref a_now, .ref a_lawPlace, .ref a_lawOther, .ref a_lawEach, .ref a_lawFrom, .ref a_foes, .ref a_suitTable, .ref a_acts])), (a_first, .inl (cyI, 7, .inl a_f_first)), (a_now, .inl (cyI, 7, .inl a_f_now)), (a_lawPlace, .inl (cyI, 6, .inl a_f_lawPlace)), (a_lawOther, .inl (cyI, 6, .inl a_f_lawOther)), (a_lawEach, .inl (cyI, 6, .inl a_f_lawEach)), (a_lawFrom, .inl (cyI, 6, .inl a_f_lawFrom)), (a_foes, .inl (cyI, 7, .inl a_f_foes)), (a_suitTable, .inl (cyI, 49, .inl a_f_suitTable)), (a_acts, .inl (cyI, 40, .inl a_f_acts)), (im, .inl (cyH, 3, .inr (.inr (.inr (.inr imF))))), (i0, .inr (2, [.int e0_pl, .int e0_li, .int e0_le, .int e0_lc, .int e0_ac, .int e0_ng, .ref e0_first, .ref e0_now, .ref e0_lawPlace, .ref e0_lawOther, .ref e0_lawEach, .ref e0_lawFrom, .ref e0_foes, .ref e0_suitTable, .ref e0_acts])), (e0_first, .inl (cyI, 7, .inl e0_f_first)), (e0_now, .inl (cyI, 7, .inl e0_f_now)), (e0_lawPlace, .inl (cyI, 6, .inl e0_f_lawPlace)), (e0_lawOther, .inl (cyI, 6, .inl e0_f_lawOther)), (e0_lawEach, .inl (cyI, 6, .inl e0_f_lawEach)), (e0_lawFrom, .inl (cyI, 6, .inl e0_f_lawFrom)), (e0_foes, .inl (cyI, 7, .inl e0_f_foes)), (e0_suitTable, .inl (cyI, 49, .inl e0_f_suitTable)), (e0_acts, .inl (cyI, 40, .inl e0_f_acts)), (i1, .inr (2, [.int e1_pl, .int e1_li, .int e1_le, .int e1_lc, .int e1_ac, .int e1_ng, .ref e1_first, .ref e1_now, .ref e1_lawPlace, .ref e1_lawOther, .ref e1_lawEach, .ref e1_lawFrom, .ref e1_foes, .ref e1_suitTable, .ref e1_acts])), (e1_first, .inl (cyI, 7, .inl e1_f_first)), (e1_now, .inl (cyI, 7, .inl e1_f_now)), (e1_lawPlace, .inl (cyI, 6, .inl e1_f_lawPlace)), (e1_lawOther, .inl (cyI, 6, .inl e1_f_lawOther)), (e1_lawEach, .inl (cyI, 6, .inl e1_f_lawEach)), (e1_lawFrom, .inl (cyI, 6, .inl e1_f_lawFrom)), (e1_foes, .inl (cyI, 7, .inl e1_f_foes)), (e1_suitTable, .inl (cyI, 49, .inl e1_f_suitTable)), (e1_acts, .inl (cyI, 40, .inl e1_f_acts)), (i2, .inr (2, [.int e2_pl, .int e2_li, .int e2_le, .int e2_lc, .int e2_ac, .int e2_ng, .ref e2_first, .ref e2_now, .ref e2_lawPlace, .ref e2_lawOther, .ref e2_lawEach, .ref e2_lawFrom, .ref e2_foes, .ref e2_suitTable, .ref e2_acts])), (e2_first, .inl (cyI, 7, .inl e2_f_first)), (e2_now, .inl (cyI, 7, .inl e2_f_now)), (e2_lawPlace, .inl (cyI, 6, .inl e2_f_lawPlace)), (e2_lawOther, .inl (cyI, 6, .inl e2_f_lawOther)), (e2_lawEach, .inl (cyI, 6, .inl e2_f_lawEach)), (e2_lawFrom, .inl (cyI, 6, .inl e2_f_lawFrom)), (e2_foes, .inl (cyI, 7, .inl e2_f_foes)), (e2_suitTable, .inl (cyI, 49, .inl e2_f_suitTable)), (e2_acts, .inl (cyI, 40, .inl e2_f_acts)), (ke, .inl (cyZ, 3, .inl ke_f))] := (va_D.tt hD_x (va_D.tt hD_hall (va_D.tt hD_images hD_kept (by decide)) (by decide)) (by decide))
  refine ⟨_, _, _, x_image l dC dI cyI cyB cyJ cyZ cyH cyN tR tF aK aV st.heap.size x0 h0 a_first a_now a_lawPlace a_lawOther a_lawEach a_lawFrom a_foes a_suitTable a_acts a_pl a_li a_le a_lc a_ac a_ng a_f_first a_f_now a_f_lawPlace a_f_lawOther a_f_lawEach a_f_lawFrom a_f_foes a_f_suitTable a_f_acts im imF i0 e0_first e0_now e0_lawPlace e0_lawOther e0_lawEach e0_lawFrom e0_foes e0_suitTable e0_acts e0_pl e0_li e0_le e0_lc e0_ac e0_ng e0_f_first e0_f_now e0_f_lawPlace e0_f_lawOther e0_f_lawEach e0_f_lawFrom e0_f_foes e0_f_suitTable e0_f_acts i1 e1_first e1_now e1_lawPlace e1_lawOther e1_lawEach e1_lawFrom e1_foes e1_suitTable e1_acts e1_pl e1_li e1_le e1_lc e1_ac e1_ng e1_f_first e1_f_now e1_f_lawPlace e1_f_lawOther e1_f_lawEach e1_f_lawFrom e1_f_foes e1_f_suitTable e1_f_acts i2 e2_first e2_now e2_lawPlace e2_lawOther e2_lawEach e2_lawFrom e2_foes e2_suitTable e2_acts e2_pl e2_li e2_le e2_lc e2_ac e2_ng e2_f_first e2_f_now e2_f_lawPlace e2_f_lawOther e2_f_lawEach e2_f_lawFrom e2_f_foes e2_f_suitTable e2_f_acts ke ke_f t0 d0 sl0 c0 v0 q0 s0 gm0 l0 to tr vsl p0 Fhall_0 Fhall_1 Fhall_2 Fhall_3 Fhall_4 Fe0_0 Fe0_1 Fe0_2 Fe0_3 Fe0_4 Fe1_0 Fe1_1 Fe1_2 Fe1_3 Fe1_4 Fe2_0 Fe2_1 Fe2_2 Fe2_3 Fe2_4 Fkept_0 Fhall_5 Fhall_6 Fhall_7 Fe0_5 Fe0_6 Fe0_7 Fe1_5 Fe1_6 Fe1_7 Fe2_5 Fe2_6 Fe2_7 Fhall_8 Fim_0 Fim_1 Fim_2 Fe0_8 Fe1_8 Fe2_8, ⟨ha, rfl, hPa, hK.sub [0, 1, 2, 3, 4, 5] rfl, hDa.weaken (fun _ _ _ _ => trivial), hFX.narrow (ax_of hDa (by decide))⟩, ?_, ax_of hDa (by decide)⟩
  rintro o t ⟨⟨r, u, ho, hr, z0, z1, z2, z3, z4, z5, y6, y7, y8, y9, y10, y11, y12, y13, y14, z15, z16, z17, z18, z19, z20, y21, y22, y23, y24, y25, y26, y27, y28, y29, z30, z31, z32, z33, z34, z35, y36, y37, y38, y39, y40, y41, y42, y43, y44, y45, P0, P1, P2, P3, P4, P5, P6, P7, P8, P9, P10, P11, P12, P13, P14, P15, P16, P17, P18, P19, P20, P21, P22, P23, P24, P25, P26, P27, P28, hP', hD'⟩, hF⟩
  refine ⟨⟨r, (), ho, hr, y45, P28, a_pl, s_n0, s_n1, s_n2, s_n3, t0, h0, d0, im, ke, sl0, c0, v0, q0, s0, gm0, l0, to, tr, vsl, ⟨_, rfl, hP'.sub [0] rfl, hD_x.same rfl⟩,
    h_tape.frame hF hDa (by decide),
    ⟨_, ⟨a_first, a_now, a_lawPlace, a_lawOther, a_lawEach, a_lawFrom, a_foes, a_suitTable, a_acts, a_li, a_le, a_lc, a_ac, a_ng, a_f_first, a_f_now, a_f_lawPlace, a_f_lawOther, a_f_lawEach, a_f_lawFrom, a_f_foes, a_f_suitTable, a_f_acts, Fhall_0, Fhall_1, Fhall_2, Fhall_3, Fhall_4, Fhall_5, Fhall_6, Fhall_7, Fhall_8, rfl⟩, hP'.sub [1, 2, 3, 4, 5, 6, 7, 8, 9, 10] rfl, hD_hall.same rfl⟩,
    h_draft.frame hF hDa (by decide),
    ⟨_, ⟨imF, i0, i1, i2, _, _, _, Fim_0, Fim_1, Fim_2, ⟨z0, e0_first, e0_now, e0_lawPlace, e0_lawOther, e0_lawEach, e0_lawFrom, e0_foes, e0_suitTable, e0_acts, z1, z2, z3, z4, z5, y6, y7, y8, y9, y10, y11, y12, y13, y14, P3, P4, P5, P6, P7, P0, P1, P2, P25, rfl⟩, ⟨z15, e1_first, e1_now, e1_lawPlace, e1_lawOther, e1_lawEach, e1_lawFrom, e1_foes, e1_suitTable, e1_acts, z16, z17, z18, z19, z20, y21, y22, y23, y24, y25, y26, y27, y28, y29, P11, P12, P13, P14, P15, P8, P9, P10, P26, rfl⟩, ⟨z30, e2_first, e2_now, e2_lawPlace, e2_lawOther, e2_lawEach, e2_lawFrom, e2_foes, e2_suitTable, e2_acts, z31, z32, z33, z34, z35, y36, y37, y38, y39, y40, y41, y42, y43, y44, P19, P20, P21, P22, P23, P16, P17, P18, P27, rfl⟩, rfl⟩, hP'.sub [11, 12, 13, 14, 15, 16, 17, 18, 19, 20, 21, 22, 23, 24, 25, 26, 27, 28, 29, 30, 31, 32, 33, 34, 35, 36, 37, 38, 39, 40, 41] rfl, hD_images.same rfl⟩,
    ⟨_, ⟨P24, rfl⟩, hP'.sub [42] rfl, hD_kept.same rfl⟩,
    h_slots.frame hF hDa (by decide),
    h_course.frame hF hDa (by decide),
    h_sight.frame hF hDa (by decide),
    h_parting.frame hF hDa (by decide),
    h_suiting.frame hF hDa (by decide),
    h_game.frame hF hDa (by decide),
    h_lots.frame hF hDa (by decide),
    h_told.frame hF hDa (by decide),
    h_tried.frame hF hDa (by decide),
    hsl.go (tt_keep hF hDa (by decide))⟩, hF.wide (ax_of hDa (by decide))⟩

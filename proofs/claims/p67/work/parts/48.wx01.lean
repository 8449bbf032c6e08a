set_option maxHeartbeats 4000000 in
set_option maxRecDepth 100000 in
theorem wx_comes (l : Launch) (dC : Nat → ClassId) (dI : Nat → Nat → Nat) (cyI cyB cyJ cyZ cyH cyN cyM : ClassId) (tR tF : Nat) (aK aV : Nat → Nat) (tg : Nat → Nat) (sz : Nat) (x0 sl : Nat) (ke_f s_fm s_fl s_fw : Nat → Int32) (p0 p1 : Int32) : Met l yX11_comes (wk yX11_comes cX11_comes 4 (some .int)) ({ frames := 4, cells := 0, slots := 0, locals := 128 }) (va_Pc [.ref x0, .int p0, .int p1] (XP dC dI cyI cyB cyJ cyZ cyH cyN cyM tR tF aK aV tg sz x0 sl ke_f s_fm s_fl s_fw)) (va_Qi (fun (r : Int32) (_ : Unit) => True) (fun (_ : Unit) (t : State) => XE dC dI cyI cyB cyJ cyZ cyH cyN cyM tg x0 sl ke_f s_fm s_fl s_fw t.heap) (AX tg sz)) 0 0 (AX tg sz) := by
  refine met_of (fun a st hp => ?_)
  obtain ⟨ha, hsz, ⟨a_pl, s_n0, s_n1, s_n2, s_n3, t0, h0, d0, im, ke, sl0, c0, v0, q0, s0, gm0, l0, to, tr, vsl, hx, h_tape, h_hall, h_draft, h_images, h_kept, h_slots, h_course, h_sight, h_parting, h_suiting, h_game, h_lots, h_told, h_tried, hsl⟩, hK, hNB, hFX⟩ := hp
  subst hsz
  obtain ⟨_, rfl, hP_x, hD_x⟩ := hx
  obtain ⟨_, ⟨a_first, a_now, a_lawPlace, a_lawOther, a_lawEach, a_lawFrom, a_foes, a_suitTable, a_acts, a_li, a_le, a_lc, a_ac, a_ng, a_f_first, a_f_now, a_f_lawPlace, a_f_lawOther, a_f_lawEach, a_f_lawFrom, a_f_foes, a_f_suitTable, a_f_acts, Fhall_0, Fhall_1, Fhall_2, Fhall_3, Fhall_4, Fhall_5, Fhall_6, Fhall_7, Fhall_8, rfl⟩, hP_hall, hD_hall⟩ := h_hall
  obtain ⟨_, ⟨c_row, c_origins, c_before, c_lawsByNight, cnum, c_f_row, c_f_origins, c_f_before, c_f_lawsByNight, chv, Fcourse_0, Fcourse_1, Fcourse_2, rfl⟩, hP_course, hD_course⟩ := h_course
  have hPa : va_P (dC, dI) vwCl [(x0, .inr (10, [.ref t0, .ref h0, .ref d0, .ref im, .ref ke, .ref sl0, .ref c0, .ref v0, .ref q0, .ref s0, .ref gm0, .ref l0, .ref to, .ref tr, vsl])), (h0, .inr (2, [.int a_pl, .int a_li, .int a_le, .int a_lc, .int a_ac, .int a_ng, .ref a_first, .ref a_now, .ref a_lawPlace, .ref a_lawOther, .ref a_lawEach, .ref a_lawFrom, .ref a_foes, .ref a_suitTable, .ref a_acts])), (a_first, .inl (cyI, 7, .inl a_f_first)), (a_now, .inl (cyI, 7, .inl a_f_now)), (a_lawPlace, .inl (cyI, 6, .inl a_f_lawPlace)), (a_lawOther, .inl (cyI, 6, .inl a_f_lawOther)), (a_lawEach, .inl (cyI, 6, .inl a_f_lawEach)), (a_lawFrom, .inl (cyI, 6, .inl a_f_lawFrom)), (a_foes, .inl (cyI, 7, .inl a_f_foes)), (a_suitTable, .inl (cyI, 49, .inl a_f_suitTable)), (a_acts, .inl (cyI, 40, .inl a_f_acts)), (c0, .inr (0, [.ref c_row, .ref c_origins, .ref c_before, .ref c_lawsByNight, chv, .int cnum])), (c_row, .inl (cyI, 7, .inl c_f_row)), (c_origins, .inl (cyI, 7, .inl c_f_origins)), (c_before, .inl (cyI, 7, .inl c_f_before)), (c_lawsByNight, .inl (cyI, 60, .inl c_f_lawsByNight))] st.heap := va_P.app hP_x (va_P.app hP_hall hP_course)
  have hDa : va_D (TT tg [0, 2, 7]) [(x0, .inr (10, [.ref t0, .ref h0, .ref d0, .ref im, .ref ke, .ref sl0, .ref c0, .ref v0, .ref q0, .ref s0, .ref gm0, .ref l0, .ref to, .ref tr, vsl])), (h0, .inr (2, [.int a_pl, .int a_li, .int a_le, .int a_lc, .int a_ac, .int a_ng, .ref a_first, .ref a_now, .ref a_lawPlace, .ref a_lawOther, .ref a_lawEach, .ref a_lawFrom, .ref a_foes, .ref a_suitTable, .ref a_acts])), (a_first, .inl (cyI, 7, .inl a_f_first)), (a_now, .inl (cyI, 7, .inl a_f_now)), (a_lawPlace, .inl (cyI, 6, .inl a_f_lawPlace)), (a_lawOther, .inl (cyI, 6, .inl a_f_lawOther)), (a_lawEach, .inl (cyI, 6, .inl a_f_lawEach)), (a_lawFrom, .inl (cyI, 6, .inl a_f_lawFrom)), (a_foes, .inl (cyI, 7, .inl a_f_foes)), (a_suitTable, .inl (cyI, 49, .inl a_f_suitTable)), (a_acts, .inl (cyI, 40, .inl a_f_acts)), (c0, .inr (0, [.ref c_row, .ref c_origins, .ref c_before, .ref c_lawsByNight, chv, .int cnum])), (c_row, .inl (cyI, 7, .inl c_f_row)), (c_origins, .inl (cyI, 7, .inl c_f_origins)), (c_before, .inl (cyI, 7, .inl c_f_before)), (c_lawsByNight, .inl (cyI, 60, .inl c_f_lawsByNight))] := (va_D.tt hD_x (va_D.tt hD_hall hD_course (by decide)) (by decide))
  refine ⟨_, _, _, x_comes l dC dI cyI cyB cyJ cyZ cyH cyN tR tF aK aV st.heap.size x0 h0 a_first a_now a_lawPlace a_lawOther a_lawEach a_lawFrom a_foes a_suitTable a_acts a_pl a_li a_le a_lc a_ac a_ng a_f_first a_f_now a_f_lawPlace a_f_lawOther a_f_lawEach a_f_lawFrom a_f_foes a_f_suitTable a_f_acts c0 c_row c_origins c_before c_lawsByNight cnum c_f_row c_f_origins c_f_before c_f_lawsByNight chv t0 d0 im ke sl0 v0 q0 s0 gm0 l0 to tr vsl p0 p1 Fhall_0 Fhall_1 Fhall_2 Fhall_3 Fhall_4 Fcourse_0 Fcourse_1 Fcourse_2 Fhall_5 Fhall_6 Fhall_7 Fhall_8, ⟨ha, rfl, hPa, hK.sub [0, 1, 2, 3, 4, 5] rfl, hDa.weaken (fun _ _ _ _ => trivial), hFX.narrow (ax_of hDa (by decide))⟩, ?_, ax_of hDa (by decide)⟩
  rintro o t ⟨⟨r, u, ho, hr, z0, z1, y2, y3, P0, hP', hD'⟩, hF⟩
  refine ⟨⟨r, (), ho, hr, a_pl, s_n0, s_n1, s_n2, s_n3, t0, h0, d0, im, ke, sl0, c0, v0, q0, s0, gm0, l0, to, tr, vsl, ⟨_, rfl, hP'.sub [0] rfl, hD_x.same rfl⟩,
    h_tape.frame hF hDa (by decide),
    ⟨_, ⟨a_first, a_now, a_lawPlace, a_lawOther, a_lawEach, a_lawFrom, a_foes, a_suitTable, a_acts, a_li, a_le, a_lc, a_ac, a_ng, a_f_first, a_f_now, a_f_lawPlace, a_f_lawOther, a_f_lawEach, a_f_lawFrom, a_f_foes, a_f_suitTable, a_f_acts, Fhall_0, Fhall_1, Fhall_2, Fhall_3, Fhall_4, Fhall_5, Fhall_6, Fhall_7, Fhall_8, rfl⟩, hP'.sub [1, 2, 3, 4, 5, 6, 7, 8, 9, 10] rfl, hD_hall.same rfl⟩,
    h_draft.frame hF hDa (by decide),
    h_images.frame hF hDa (by decide),
    h_kept.frame hF hDa (by decide),
    h_slots.frame hF hDa (by decide),
    ⟨_, ⟨c_row, c_origins, c_before, c_lawsByNight, z1, y2, c_f_origins, c_f_before, y3, z0, P0, Fcourse_1, Fcourse_2, rfl⟩, hP'.sub [11, 12, 13, 14, 15] rfl, hD_course.same rfl⟩,
    h_sight.frame hF hDa (by decide),
    h_parting.frame hF hDa (by decide),
    h_suiting.frame hF hDa (by decide),
    h_game.frame hF hDa (by decide),
    h_lots.frame hF hDa (by decide),
    h_told.frame hF hDa (by decide),
    h_tried.frame hF hDa (by decide),
    hsl.go (tt_keep hF hDa (by decide))⟩, hF.wide (ax_of hDa (by decide))⟩
set_option maxHeartbeats 4000000 in
set_option maxRecDepth 100000 in
theorem wx_meet (l : Launch) (dC : Nat → ClassId) (dI : Nat → Nat → Nat) (cyI cyB cyJ cyZ cyH cyN cyM : ClassId) (tR tF : Nat) (aK aV : Nat → Nat) (tg : Nat → Nat) (sz : Nat) (x0 sl : Nat) (ke_f s_fm s_fl s_fw : Nat → Int32) (p0 p1 : Int32) : Met l yX11_meet (wk yX11_meet cX11_meet 4 (some .int)) ({ frames := 4, cells := 0, slots := 0, locals := 128 }) (va_Pc [.ref x0, .int p0, .int p1] (XP dC dI cyI cyB cyJ cyZ cyH cyN cyM tR tF aK aV tg sz x0 sl ke_f s_fm s_fl s_fw)) (va_Qi (fun (r : Int32) (_ : Unit) => True) (fun (_ : Unit) (t : State) => XE dC dI cyI cyB cyJ cyZ cyH cyN cyM tg x0 sl ke_f s_fm s_fl s_fw t.heap) (AX tg sz)) 0 0 (AX tg sz) := by
  refine met_of (fun a st hp => ?_)
  obtain ⟨ha, hsz, ⟨a_pl, s_n0, s_n1, s_n2, s_n3, t0, h0, d0, im, ke, sl0, c0, v0, q0, s0, gm0, l0, to, tr, vsl, hx, h_tape, h_hall, h_draft, h_images, h_kept, h_slots, h_course, h_sight, h_parting, h_suiting, h_game, h_lots, h_told, h_tried, hsl⟩, hK, hNB, hFX⟩ := hp
  subst hsz
  obtain ⟨_, rfl, hP_x, hD_x⟩ := hx
  obtain ⟨_, ⟨a_first, a_now, a_lawPlace, a_lawOther, a_lawEach, a_lawFrom, a_foes, a_suitTable, a_acts, a_li, a_le, a_lc, a_ac, a_ng, a_f_first, a_f_now, a_f_lawPlace, a_f_lawOther, a_f_lawEach, a_f_lawFrom, a_f_foes, a_f_suitTable, a_f_acts, Fhall_0, Fhall_1, Fhall_2, Fhall_3, Fhall_4, Fhall_5, Fhall_6, Fhall_7, Fhall_8, rfl⟩, hP_hall, hD_hall⟩ := h_hall
  obtain ⟨_, ⟨c_row, c_origins, c_before, c_lawsByNight, cnum, c_f_row, c_f_origins, c_f_before, c_f_lawsByNight, chv, Fcourse_0, Fcourse_1, Fcourse_2, rfl⟩, hP_course, hD_course⟩ := h_course
  have hPa : va_P (dC, dI) vwCl [(x0, .inr (10, [.ref t0, .ref h0, .ref d0, .ref im, .ref ke, .ref sl0, .ref c0, .ref v0, .ref q0, .ref s0, .ref gm0, .ref l0, .ref to, .ref tr, vsl])), (h0, .inr (2, [.int a_pl, .int a_li, .int a_le, .int a_lc, .int a_ac, .int a_ng, .ref a_first, .ref a_now, .ref a_lawPlace, .ref a_lawOther, .ref a_lawEach, .ref a_lawFrom, .ref a_foes, .ref a_suitTable, .ref a_acts])), (a_first, .inl (cyI, 7, .inl a_f_first)), (a_now, .inl (cyI, 7, .inl a_f_now)), (a_lawPlace, .inl (cyI, 6, .inl a_f_lawPlace)), (a_lawOther, .inl (cyI, 6, .inl a_f_lawOther)), (a_lawEach, .inl (cyI, 6, .inl a_f_lawEach)), (a_lawFrom, .inl (cyI, 6, .inl a_f_lawFrom)), (a_foes, .inl (cyI, 7, .inl a_f_foes)), (a_suitTable, .inl (cyI, 49, .inl a_f_suitTable)), (a_acts, .inl (cyI, 40, .inl a_f_acts)), (c0, .inr (0, [.ref c_row, .ref c_origins, .ref c_before, .ref c_lawsByNight, chv, .int cnum])), (c_row, .inl (cyI, 7, .inl c_f_row)), (c_origins, .inl (cyI, 7, .inl c_f_origins)), (c_before, .inl (cyI, 7, .inl c_f_before)), (c_lawsByNight, .inl (cyI, 60, .inl c_f_lawsByNight))] st.heap := va_P.app hP_x (va_P.app hP_hall hP_course)
  have hDa : va_D (TT tg [0, 2, 7]) [(x0, .inr (10, [.ref t0, .ref h0, .ref d0, .ref im, .ref ke, .ref sl0, .ref c0, .ref v0, .ref q0, .ref s0, .ref gm0, .ref l0, .ref to, .ref tr, vsl])), (h0, .inr (2, [.int a_pl, .int a_li, .int a_le, .int a_lc, .int a_ac, .int a_ng, .ref a_first, .ref a_now, .ref a_lawPlace, .ref a_lawOther, .ref a_lawEach, .ref a_lawFrom, .ref a_foes, .ref a_suitTable, .ref a_acts])), (a_first, .inl (cyI, 7, .inl a_f_first)), (a_now, .inl (cyI, 7, .inl a_f_now)), (a_lawPlace, .inl (cyI, 6, .inl a_f_lawPlace)), (a_lawOther, .inl (cyI, 6, .inl a_f_lawOther)), (a_lawEach, .inl (cyI, 6, .inl a_f_lawEach)), (a_lawFrom, .inl (cyI, 6, .inl a_f_lawFrom)), (a_foes, .inl (cyI, 7, .inl a_f_foes)), (a_suitTable, .inl (cyI, 49, .inl a_f_suitTable)), (a_acts, .inl (cyI, 40, .inl a_f_acts)), (c0, .inr (0, [.ref c_row, .ref c_origins, .ref c_before, .ref c_lawsByNight, chv, .int cnum])), (c_row, .inl (cyI, 7, .inl c_f_row)), (c_origins, .inl (cyI, 7, .inl c_f_origins)), (c_before, .inl (cyI, 7, .inl c_f_before)), (c_lawsByNight, .inl (cyI, 60, .inl c_f_lawsByNight))] := (va_D.tt hD_x (va_D.tt hD_hall hD_course (by decide)) (by decide))
  refine ⟨_, _, _, x_meet l dC dI cyI cyB cyJ cyZ cyH cyN tR tF aK aV st.heap.size x0 h0 a_first a_now a_lawPlace a_lawOther a_lawEach a_lawFrom a_foes a_suitTable a_acts a_pl a_li a_le a_lc a_ac a_ng a_f_first a_f_now a_f_lawPlace a_f_lawOther a_f_lawEach a_f_lawFrom a_f_foes a_f_suitTable a_f_acts c0 c_row c_origins c_before c_lawsByNight cnum c_f_row c_f_origins c_f_before c_f_lawsByNight chv t0 d0 im ke sl0 v0 q0 s0 gm0 l0 to tr vsl p0 p1 Fhall_0 Fhall_1 Fhall_2 Fhall_3 Fhall_4 Fcourse_0 Fcourse_1 Fcourse_2 Fhall_5 Fhall_6 Fhall_7 Fhall_8, ⟨ha, rfl, hPa, hK.sub [0, 1, 2, 3, 4, 5] rfl, hDa.weaken (fun _ _ _ _ => trivial), hFX.narrow (ax_of hDa (by decide))⟩, ?_, ax_of hDa (by decide)⟩
  rintro o t ⟨⟨r, u, ho, hr, z0, z1, y2, y3, P0, hP', hD'⟩, hF⟩
  refine ⟨⟨r, (), ho, hr, a_pl, s_n0, s_n1, s_n2, s_n3, t0, h0, d0, im, ke, sl0, c0, v0, q0, s0, gm0, l0, to, tr, vsl, ⟨_, rfl, hP'.sub [0] rfl, hD_x.same rfl⟩,
    h_tape.frame hF hDa (by decide),
    ⟨_, ⟨a_first, a_now, a_lawPlace, a_lawOther, a_lawEach, a_lawFrom, a_foes, a_suitTable, a_acts, a_li, a_le, a_lc, a_ac, a_ng, a_f_first, a_f_now, a_f_lawPlace, a_f_lawOther, a_f_lawEach, a_f_lawFrom, a_f_foes, a_f_suitTable, a_f_acts, Fhall_0, Fhall_1, Fhall_2, Fhall_3, Fhall_4, Fhall_5, Fhall_6, Fhall_7, Fhall_8, rfl⟩, hP'.sub [1, 2, 3, 4, 5, 6, 7, 8, 9, 10] rfl, hD_hall.same rfl⟩,
    h_draft.frame hF hDa (by decide),
    h_images.frame hF hDa (by decide),
    h_kept.frame hF hDa (by decide),
    h_slots.frame hF hDa (by decide),
    ⟨_, ⟨c_row, c_origins, c_before, c_lawsByNight, z1, y2, c_f_origins, c_f_before, y3, z0, P0, Fcourse_1, Fcourse_2, rfl⟩, hP'.sub [11, 12, 13, 14, 15] rfl, hD_course.same rfl⟩,
    h_sight.frame hF hDa (by decide),
    h_parting.frame hF hDa (by decide),
    h_suiting.frame hF hDa (by decide),
    h_game.frame hF hDa (by decide),
    h_lots.frame hF hDa (by decide),
    h_told.frame hF hDa (by decide),
    h_tried.frame hF hDa (by decide),
    hsl.go (tt_keep hF hDa (by decide))⟩, hF.wide (ax_of hDa (by decide))⟩
set_option maxHeartbeats 4000000 in
set_option maxRecDepth 100000 in
theorem wx_tonight (l : Launch) (dC : Nat → ClassId) (dI : Nat → Nat → Nat) (cyI cyB cyJ cyZ cyH cyN cyM : ClassId) (tR tF : Nat) (aK aV : Nat → Nat) (tg : Nat → Nat) (sz : Nat) (x0 sl : Nat) (ke_f s_fm s_fl s_fw : Nat → Int32) (p0 : Int32) : Met l yX11_tonight (wk yX11_tonight cX11_tonight 2 (some .int)) ({ frames := 2, cells := 0, slots := 0, locals := 84 }) (va_Pc [.ref x0, .int p0] (XP dC dI cyI cyB cyJ cyZ cyH cyN cyM tR tF aK aV tg sz x0 sl ke_f s_fm s_fl s_fw)) (va_Qi (fun (r : Int32) (_ : Unit) => True) (fun (_ : Unit) (t : State) => XE dC dI cyI cyB cyJ cyZ cyH cyN cyM tg x0 sl ke_f s_fm s_fl s_fw t.heap) (AX tg sz)) 0 0 (AX tg sz) := by
  refine met_of (fun a st hp => ?_)
  obtain ⟨ha, hsz, ⟨a_pl, s_n0, s_n1, s_n2, s_n3, t0, h0, d0, im, ke, sl0, c0, v0, q0, s0, gm0, l0, to, tr, vsl, hx, h_tape, h_hall, h_draft, h_images, h_kept, h_slots, h_course, h_sight, h_parting, h_suiting, h_game, h_lots, h_told, h_tried, hsl⟩, hK, hNB, hFX⟩ := hp
  subst hsz
  obtain ⟨_, rfl, hP_x, hD_x⟩ := hx
  obtain ⟨_, ⟨a_first, a_now, a_lawPlace, a_lawOther, a_lawEach, a_lawFrom, a_foes, a_suitTable, a_acts, a_li, a_le, a_lc, a_ac, a_ng, a_f_first, a_f_now, a_f_lawPlace, a_f_lawOther, a_f_lawEach, a_f_lawFrom, a_f_foes, a_f_suitTable, a_f_acts, Fhall_0, Fhall_1, Fhall_2, Fhall_3, Fhall_4, Fhall_5, Fhall_6, Fhall_7, Fhall_8, rfl⟩, hP_hall, hD_hall⟩ := h_hall
  have hPa : va_P (dC, dI) vwCl [(x0, .inr (10, [.ref t0, .ref h0, .ref d0, .ref im, .ref ke, .ref sl0, .ref c0, .ref v0, .ref q0, .ref s0, .ref gm0, .ref l0, .ref to, .ref tr, vsl])), (h0, .inr (2, [.int a_pl, .int a_li, .int a_le, .int a_lc, .int a_ac, .int a_ng, .ref a_first, .ref a_now, .ref a_lawPlace, .ref a_lawOther, .ref a_lawEach, .ref a_lawFrom, .ref a_foes, .ref a_suitTable, .ref a_acts])), (a_first, .inl (cyI, 7, .inl a_f_first)), (a_now, .inl (cyI, 7, .inl a_f_now)), (a_lawPlace, .inl (cyI, 6, .inl a_f_lawPlace)), (a_lawOther, .inl (cyI, 6, .inl a_f_lawOther)), (a_lawEach, .inl (cyI, 6, .inl a_f_lawEach)), (a_lawFrom, .inl (cyI, 6, .inl a_f_lawFrom)), (a_foes, .inl (cyI, 7, .inl a_f_foes)), (a_suitTable, .inl (cyI, 49, .inl a_f_suitTable)), (a_acts, .inl (cyI, 40, .inl a_f_acts))] st.heap := va_P.app hP_x hP_hall
  have hDa : va_D (TT tg [0, 2]) [(x0, .inr (10, [.ref t0, .ref h0, .ref d0, .ref im, .ref ke, .ref sl0, .ref c0, .ref v0, .ref q0, .ref s0, .ref gm0, .ref l0, .ref to, .ref tr, vsl])), (h0, .inr (2, [.int a_pl, .int a_li, .int a_le, .int a_lc, .int a_ac, .int a_ng, .ref a_first, .ref a_now, .ref a_lawPlace, .ref a_lawOther, .ref a_lawEach, .ref a_lawFrom, .ref a_foes, .ref a_suitTable, .ref a_acts])), (a_first, .inl (cyI, 7, .inl a_f_first)), (a_now, .inl (cyI, 7, .inl a_f_now)), (a_lawPlace, .inl (cyI, 6, .inl a_f_lawPlace)), (a_lawOther, .inl (cyI, 6, .inl a_f_lawOther)), (a_lawEach, .inl (cyI, 6, .inl a_f_lawEach)), (a_lawFrom, .inl (cyI, 6, .inl a_f_lawFrom)), (a_foes, .inl (cyI, 7, .inl a_f_foes)), (a_suitTable, .inl (cyI, 49, .inl a_f_suitTable)), (a_acts, .inl (cyI, 40, .inl a_f_acts))] := (va_D.tt hD_x hD_hall (by decide))
  refine ⟨_, _, _, x_tonight l dC dI cyI cyB cyJ cyZ cyH cyN tR tF aK aV st.heap.size x0 h0 a_first a_now a_lawPlace a_lawOther a_lawEach a_lawFrom a_foes a_suitTable a_acts a_pl a_li a_le a_lc a_ac a_ng a_f_first a_f_now a_f_lawPlace a_f_lawOther a_f_lawEach a_f_lawFrom a_f_foes a_f_suitTable a_f_acts t0 d0 im ke sl0 c0 v0 q0 s0 gm0 l0 to tr vsl p0 Fhall_0 Fhall_1 Fhall_2 Fhall_3 Fhall_4 Fhall_5 Fhall_6 Fhall_7 Fhall_8, ⟨ha, rfl, hPa, hK.sub [0, 1, 2, 3, 4, 5] rfl, hDa.weaken (fun _ _ _ _ => trivial), hFX.narrow (ax_of hDa (by decide))⟩, ?_, ax_of hDa (by decide)⟩
  rintro o t ⟨⟨r, u, ho, hr, hP', hD'⟩, hF⟩
  refine ⟨⟨r, (), ho, hr, a_pl, s_n0, s_n1, s_n2, s_n3, t0, h0, d0, im, ke, sl0, c0, v0, q0, s0, gm0, l0, to, tr, vsl, ⟨_, rfl, hP'.sub [0] rfl, hD_x.same rfl⟩,
    h_tape.frame hF hDa (by decide),
    ⟨_, ⟨a_first, a_now, a_lawPlace, a_lawOther, a_lawEach, a_lawFrom, a_foes, a_suitTable, a_acts, a_li, a_le, a_lc, a_ac, a_ng, a_f_first, a_f_now, a_f_lawPlace, a_f_lawOther, a_f_lawEach, a_f_lawFrom, a_f_foes, a_f_suitTable, a_f_acts, Fhall_0, Fhall_1, Fhall_2, Fhall_3, Fhall_4, Fhall_5, Fhall_6, Fhall_7, Fhall_8, rfl⟩, hP'.sub [1, 2, 3, 4, 5, 6, 7, 8, 9, 10] rfl, hD_hall.same rfl⟩,
    h_draft.frame hF hDa (by decide),
    h_images.frame hF hDa (by decide),
    h_kept.frame hF hDa (by decide),
    h_slots.frame hF hDa (by decide),
    h_course.frame hF hDa (by decide),
    h_sight.frame hF hDa (by decide),
    h_parting.frame hF hDa (by decide),
    h_suiting.frame hF hDa (by decide),
    h_game.frame hF hDa (by decide),
    h_lots.frame hF hDa (by decide),
    h_told.frame hF hDa (by decide),
    h_tried.frame hF hDa (by decide),
    hsl.go (tt_keep hF hDa (by decide))⟩, hF.wide (ax_of hDa (by decide))⟩
set_option maxHeartbeats 4000000 in
set_option maxRecDepth 100000 in
theorem wx_odd (l : Launch) (dC : Nat → ClassId) (dI : Nat → Nat → Nat) (cyI cyB cyJ cyZ cyH cyN cyM : ClassId) (tR tF : Nat) (aK aV : Nat → Nat) (tg : Nat → Nat) (sz : Nat) (x0 sl : Nat) (ke_f s_fm s_fl s_fw : Nat → Int32)  : Met l yX11_odd (wk yX11_odd cX11_odd 1 (some .int)) ({ frames := 4, cells := 0, slots := 0, locals := 130 }) (va_Pc [.ref x0] (XP dC dI cyI cyB cyJ cyZ cyH cyN cyM tR tF aK aV tg sz x0 sl ke_f s_fm s_fl s_fw)) (va_Qi (fun (r : Int32) (_ : Unit) => True) (fun (_ : Unit) (t : State) => XE dC dI cyI cyB cyJ cyZ cyH cyN cyM tg x0 sl ke_f s_fm s_fl s_fw t.heap) (AX tg sz)) 0 0 (AX tg sz) := by
  refine met_of (fun a st hp => ?_)
  obtain ⟨ha, hsz, ⟨a_pl, s_n0, s_n1, s_n2, s_n3, t0, h0, d0, im, ke, sl0, c0, v0, q0, s0, gm0, l0, to, tr, vsl, hx, h_tape, h_hall, h_draft, h_images, h_kept, h_slots, h_course, h_sight, h_parting, h_suiting, h_game, h_lots, h_told, h_tried, hsl⟩, hK, hNB, hFX⟩ := hp
  subst hsz
  obtain ⟨_, rfl, hP_x, hD_x⟩ := hx
  obtain ⟨_, ⟨a_first, a_now, a_lawPlace, a_lawOther, a_lawEach, a_lawFrom, a_foes, a_suitTable, a_acts, a_li, a_le, a_lc, a_ac, a_ng, a_f_first, a_f_now, a_f_lawPlace, a_f_lawOther, a_f_lawEach, a_f_lawFrom, a_f_foes, a_f_suitTable, a_f_acts, Fhall_0, Fhall_1, Fhall_2, Fhall_3, Fhall_4, Fhall_5, Fhall_6, Fhall_7, Fhall_8, rfl⟩, hP_hall, hD_hall⟩ := h_hall
  obtain ⟨_, ⟨tr_f, rfl⟩, hP_tried, hD_tried⟩ := h_tried
  have hPa : va_P (dC, dI) vwCl [(x0, .inr (10, [.ref t0, .ref h0, .ref d0, .ref im, .ref ke, .ref sl0, .ref c0, .ref v0, .ref q0, .ref s0, .ref gm0, .ref l0, .ref to, .ref tr, vsl])), (h0, .inr (2, [.int a_pl, .int a_li, .int a_le, .int a_lc, .int a_ac, .int a_ng, .ref a_first, .ref a_now, .ref a_lawPlace, .ref a_lawOther, .ref a_lawEach, .ref a_lawFrom, .ref a_foes, .ref a_suitTable, .ref a_acts])), (a_first, .inl (cyI, 7, .inl a_f_first)), (a_now, .inl (cyI, 7, .inl a_f_now)), (a_lawPlace, .inl (cyI, 6, .inl a_f_lawPlace)), (a_lawOther, .inl (cyI, 6, .inl a_f_lawOther)), (a_lawEach, .inl (cyI, 6, .inl a_f_lawEach)), (a_lawFrom, .inl (cyI, 6, .inl a_f_lawFrom)), (a_foes, .inl (cyI, 7, .inl a_f_foes)), (a_suitTable, .inl (cyI, 49, .inl a_f_suitTable)), (a_acts, .inl (cyI, 40, .inl a_f_acts)), (tr, .inl (cyI, 7, .inl tr_f))] st.heap := va_P.app hP_x (va_P.app hP_hall hP_tried)
  have hDa : va_D (TT tg [0, 2, 14]) [(x0, .inr (10, [.ref t0, .ref h0, .ref d0, .ref im, .ref ke, .ref sl0, .ref c0, .ref v0, .ref q0, .ref s0, .ref gm0, .ref l0, .ref to, .ref tr, vsl])), (h0, .inr (2, [.int a_pl, .int a_li, .int a_le, .int a_lc, .int a_ac, .int a_ng, .ref a_first, .ref a_now, .ref a_lawPlace, .ref a_lawOther, .ref a_lawEach, .ref a_lawFrom, .ref a_foes, .ref a_suitTable, .ref a_acts])), (a_first, .inl (cyI, 7, .inl a_f_first)), (a_now, .inl (cyI, 7, .inl a_f_now)), (a_lawPlace, .inl (cyI, 6, .inl a_f_lawPlace)), (a_lawOther, .inl (cyI, 6, .inl a_f_lawOther)), (a_lawEach, .inl (cyI, 6, .inl a_f_lawEach)), (a_lawFrom, .inl (cyI, 6, .inl a_f_lawFrom)), (a_foes, .inl (cyI, 7, .inl a_f_foes)), (a_suitTable, .inl (cyI, 49, .inl a_f_suitTable)), (a_acts, .inl (cyI, 40, .inl a_f_acts)), (tr, .inl (cyI, 7, .inl tr_f))] := (va_D.tt hD_x (va_D.tt hD_hall hD_tried (by decide)) (by decide))
  refine ⟨_, _, _, x_odd l dC dI cyI cyB cyJ cyZ cyH cyN tR tF aK aV st.heap.size x0 h0 a_first a_now a_lawPlace a_lawOther a_lawEach a_lawFrom a_foes a_suitTable a_acts a_pl a_li a_le a_lc a_ac a_ng a_f_first a_f_now a_f_lawPlace a_f_lawOther a_f_lawEach a_f_lawFrom a_f_foes a_f_suitTable a_f_acts tr tr_f t0 d0 im ke sl0 c0 v0 q0 s0 gm0 l0 to vsl Fhall_0 Fhall_1 Fhall_2 Fhall_3 Fhall_4 Fhall_5 Fhall_6 Fhall_7 Fhall_8, ⟨ha, rfl, hPa, hK.sub [0, 1, 2, 3, 4, 5] rfl, hDa.weaken (fun _ _ _ _ => trivial), hFX.narrow (ax_of hDa (by decide))⟩, ?_, ax_of hDa (by decide)⟩
  rintro o t ⟨⟨r, u, ho, hr, y0, hP', hD'⟩, hF⟩
  refine ⟨⟨r, (), ho, hr, a_pl, s_n0, s_n1, s_n2, s_n3, t0, h0, d0, im, ke, sl0, c0, v0, q0, s0, gm0, l0, to, tr, vsl, ⟨_, rfl, hP'.sub [0] rfl, hD_x.same rfl⟩,
    h_tape.frame hF hDa (by decide),
    ⟨_, ⟨a_first, a_now, a_lawPlace, a_lawOther, a_lawEach, a_lawFrom, a_foes, a_suitTable, a_acts, a_li, a_le, a_lc, a_ac, a_ng, a_f_first, a_f_now, a_f_lawPlace, a_f_lawOther, a_f_lawEach, a_f_lawFrom, a_f_foes, a_f_suitTable, a_f_acts, Fhall_0, Fhall_1, Fhall_2, Fhall_3, Fhall_4, Fhall_5, Fhall_6, Fhall_7, Fhall_8, rfl⟩, hP'.sub [1, 2, 3, 4, 5, 6, 7, 8, 9, 10] rfl, hD_hall.same rfl⟩,
    h_draft.frame hF hDa (by decide),
    h_images.frame hF hDa (by decide),
    h_kept.frame hF hDa (by decide),
    h_slots.frame hF hDa (by decide),
    h_course.frame hF hDa (by decide),
    h_sight.frame hF hDa (by decide),
    h_parting.frame hF hDa (by decide),
    h_suiting.frame hF hDa (by decide),
    h_game.frame hF hDa (by decide),
    h_lots.frame hF hDa (by decide),
    h_told.frame hF hDa (by decide),
    ⟨_, ⟨y0, rfl⟩, hP'.sub [11] rfl, hD_tried.same rfl⟩,
    hsl.go (tt_keep hF hDa (by decide))⟩, hF.wide (ax_of hDa (by decide))⟩
set_option maxHeartbeats 4000000 in
set_option maxRecDepth 100000 in
theorem wx_swaps (l : Launch) (dC : Nat → ClassId) (dI : Nat → Nat → Nat) (cyI cyB cyJ cyZ cyH cyN cyM : ClassId) (tR tF : Nat) (aK aV : Nat → Nat) (tg : Nat → Nat) (sz : Nat) (x0 sl : Nat) (ke_f s_fm s_fl s_fw : Nat → Int32)  : Met l yX11_swaps (wk yX11_swaps cX11_swaps 1 (some .int)) ({ frames := 4, cells := 0, slots := 0, locals := 130 }) (va_Pc [.ref x0] (XP dC dI cyI cyB cyJ cyZ cyH cyN cyM tR tF aK aV tg sz x0 sl ke_f s_fm s_fl s_fw)) (va_Qi (fun (r : Int32) (_ : Unit) => True) (fun (_ : Unit) (t : State) => XE dC dI cyI cyB cyJ cyZ cyH cyN cyM tg x0 sl ke_f s_fm s_fl s_fw t.heap) (AX tg sz)) 0 0 (AX tg sz) := by
  refine met_of (fun a st hp => ?_)
  obtain ⟨ha, hsz, ⟨a_pl, s_n0, s_n1, s_n2, s_n3, t0, h0, d0, im, ke, sl0, c0, v0, q0, s0, gm0, l0, to, tr, vsl, hx, h_tape, h_hall, h_draft, h_images, h_kept, h_slots, h_course, h_sight, h_parting, h_suiting, h_game, h_lots, h_told, h_tried, hsl⟩, hK, hNB, hFX⟩ := hp
  subst hsz
  obtain ⟨_, rfl, hP_x, hD_x⟩ := hx
  obtain ⟨_, ⟨a_first, a_now, a_lawPlace, a_lawOther, a_lawEach, a_lawFrom, a_foes, a_suitTable, a_acts, a_li, a_le, a_lc, a_ac, a_ng, a_f_first, a_f_now, a_f_lawPlace, a_f_lawOther, a_f_lawEach, a_f_lawFrom, a_f_foes, a_f_suitTable, a_f_acts, Fhall_0, Fhall_1, Fhall_2, Fhall_3, Fhall_4, Fhall_5, Fhall_6, Fhall_7, Fhall_8, rfl⟩, hP_hall, hD_hall⟩ := h_hall
  obtain ⟨_, ⟨tr_f, rfl⟩, hP_tried, hD_tried⟩ := h_tried
  have hPa : va_P (dC, dI) vwCl [(x0, .inr (10, [.ref t0, .ref h0, .ref d0, .ref im, .ref ke, .ref sl0, .ref c0, .ref v0, .ref q0, .ref s0, .ref gm0, .ref l0, .ref to, .ref tr, vsl])), (h0, .inr (2, [.int a_pl, .int a_li, .int a_le, .int a_lc, .int a_ac, .int a_ng, .ref a_first, .ref a_now, .ref a_lawPlace, .ref a_lawOther, .ref a_lawEach, .ref a_lawFrom, .ref a_foes, .ref a_suitTable, .ref a_acts])), (a_first, .inl (cyI, 7, .inl a_f_first)), (a_now, .inl (cyI, 7, .inl a_f_now)), (a_lawPlace, .inl (cyI, 6, .inl a_f_lawPlace)), (a_lawOther, .inl (cyI, 6, .inl a_f_lawOther)), (a_lawEach, .inl (cyI, 6, .inl a_f_lawEach)), (a_lawFrom, .inl (cyI, 6, .inl a_f_lawFrom)), (a_foes, .inl (cyI, 7, .inl a_f_foes)), (a_suitTable, .inl (cyI, 49, .inl a_f_suitTable)), (a_acts, .inl (cyI, 40, .inl a_f_acts)), (tr, .inl (cyI, 7, .inl tr_f))] st.heap := va_P.app hP_x (va_P.app hP_hall hP_tried)
  have hDa : va_D (TT tg [0, 2, 14]) [(x0, .inr (10, [.ref t0, .ref h0, .ref d0, .ref im, .ref ke, .ref sl0, .ref c0, .ref v0, .ref q0, .ref s0, .ref gm0, .ref l0, .ref to, .ref tr, vsl])), (h0, .inr (2, [.int a_pl, .int a_li, .int a_le, .int a_lc, .int a_ac, .int a_ng, .ref a_first, .ref a_now, .ref a_lawPlace, .ref a_lawOther, .ref a_lawEach, .ref a_lawFrom, .ref a_foes, .ref a_suitTable, .ref a_acts])), (a_first, .inl (cyI, 7, .inl a_f_first)), (a_now, .inl (cyI, 7, .inl a_f_now)), (a_lawPlace, .inl (cyI, 6, .inl a_f_lawPlace)), (a_lawOther, .inl (cyI, 6, .inl a_f_lawOther)), (a_lawEach, .inl (cyI, 6, .inl a_f_lawEach)), (a_lawFrom, .inl (cyI, 6, .inl a_f_lawFrom)), (a_foes, .inl (cyI, 7, .inl a_f_foes)), (a_suitTable, .inl (cyI, 49, .inl a_f_suitTable)), (a_acts, .inl (cyI, 40, .inl a_f_acts)), (tr, .inl (cyI, 7, .inl tr_f))] := (va_D.tt hD_x (va_D.tt hD_hall hD_tried (by decide)) (by decide))
  refine ⟨_, _, _, x_swaps l dC dI cyI cyB cyJ cyZ cyH cyN tR tF aK aV st.heap.size x0 h0 a_first a_now a_lawPlace a_lawOther a_lawEach a_lawFrom a_foes a_suitTable a_acts a_pl a_li a_le a_lc a_ac a_ng a_f_first a_f_now a_f_lawPlace a_f_lawOther a_f_lawEach a_f_lawFrom a_f_foes a_f_suitTable a_f_acts tr tr_f t0 d0 im ke sl0 c0 v0 q0 s0 gm0 l0 to vsl Fhall_0 Fhall_1 Fhall_2 Fhall_3 Fhall_4 Fhall_5 Fhall_6 Fhall_7 Fhall_8, ⟨ha, rfl, hPa, hK.sub [0, 1, 2, 3, 4, 5] rfl, hDa.weaken (fun _ _ _ _ => trivial), hFX.narrow (ax_of hDa (by decide))⟩, ?_, ax_of hDa (by decide)⟩
  rintro o t ⟨⟨r, u, ho, hr, y0, hP', hD'⟩, hF⟩
  refine ⟨⟨r, (), ho, hr, a_pl, s_n0, s_n1, s_n2, s_n3, t0, h0, d0, im, ke, sl0, c0, v0, q0, s0, gm0, l0, to, tr, vsl, ⟨_, rfl, hP'.sub [0] rfl, hD_x.same rfl⟩,
    h_tape.frame hF hDa (by decide),
    ⟨_, ⟨a_first, a_now, a_lawPlace, a_lawOther, a_lawEach, a_lawFrom, a_foes, a_suitTable, a_acts, a_li, a_le, a_lc, a_ac, a_ng, a_f_first, a_f_now, a_f_lawPlace, a_f_lawOther, a_f_lawEach, a_f_lawFrom, a_f_foes, a_f_suitTable, a_f_acts, Fhall_0, Fhall_1, Fhall_2, Fhall_3, Fhall_4, Fhall_5, Fhall_6, Fhall_7, Fhall_8, rfl⟩, hP'.sub [1, 2, 3, 4, 5, 6, 7, 8, 9, 10] rfl, hD_hall.same rfl⟩,
    h_draft.frame hF hDa (by decide),
    h_images.frame hF hDa (by decide),
    h_kept.frame hF hDa (by decide),
    h_slots.frame hF hDa (by decide),
    h_course.frame hF hDa (by decide),
    h_sight.frame hF hDa (by decide),
    h_parting.frame hF hDa (by decide),
    h_suiting.frame hF hDa (by decide),
    h_game.frame hF hDa (by decide),
    h_lots.frame hF hDa (by decide),
    h_told.frame hF hDa (by decide),
    ⟨_, ⟨y0, rfl⟩, hP'.sub [11] rfl, hD_tried.same rfl⟩,
    hsl.go (tt_keep hF hDa (by decide))⟩, hF.wide (ax_of hDa (by decide))⟩
set_option maxHeartbeats 4000000 in
set_option maxRecDepth 100000 in
theorem wx_steps (l : Launch) (dC : Nat → ClassId) (dI : Nat → Nat → Nat) (cyI cyB cyJ cyZ cyH cyN cyM : ClassId) (tR tF : Nat) (aK aV : Nat → Nat) (tg : Nat → Nat) (sz : Nat) (x0 sl : Nat) (ke_f s_fm s_fl s_fw : Nat → Int32)  : Met l yX11_steps (wk yX11_steps cX11_steps 1 (some .int)) ({ frames := 2, cells := 0, slots := 0, locals := 84 }) (va_Pc [.ref x0] (XP dC dI cyI cyB cyJ cyZ cyH cyN cyM tR tF aK aV tg sz x0 sl ke_f s_fm s_fl s_fw)) (va_Qi (fun (r : Int32) (_ : Unit) => True) (fun (_ : Unit) (t : State) => XE dC dI cyI cyB cyJ cyZ cyH cyN cyM tg x0 sl ke_f s_fm s_fl s_fw t.heap) (AX tg sz)) 0 0 (AX tg sz) := by
  refine met_of (fun a st hp => ?_)
  obtain ⟨ha, hsz, ⟨a_pl, s_n0, s_n1, s_n2, s_n3, t0, h0, d0, im, ke, sl0, c0, v0, q0, s0, gm0, l0, to, tr, vsl, hx, h_tape, h_hall, h_draft, h_images, h_kept, h_slots, h_course, h_sight, h_parting, h_suiting, h_game, h_lots, h_told, h_tried, hsl⟩, hK, hNB, hFX⟩ := hp
  subst hsz
  obtain ⟨_, rfl, hP_x, hD_x⟩ := hx
  obtain ⟨_, ⟨a_first, a_now, a_lawPlace, a_lawOther, a_lawEach, a_lawFrom, a_foes, a_suitTable, a_acts, a_li, a_le, a_lc, a_ac, a_ng, a_f_first, a_f_now, a_f_lawPlace, a_f_lawOther, a_f_lawEach, a_f_lawFrom, a_f_foes, a_f_suitTable, a_f_acts, Fhall_0, Fhall_1, Fhall_2, Fhall_3, Fhall_4, Fhall_5, Fhall_6, Fhall_7, Fhall_8, rfl⟩, hP_hall, hD_hall⟩ := h_hall
  have hPa : va_P (dC, dI) vwCl [(x0, .inr (10, [.ref t0, .ref h0, .ref d0, .ref im, .ref ke, .ref sl0, .ref c0, .ref v0, .ref q0, .ref s0, .ref gm0, .ref l0, .ref to, .ref tr, vsl])), (h0, .inr (2, [.int a_pl, .int a_li, .int a_le, .int a_lc, .int a_ac, .int a_ng, .ref a_first, .ref a_now, .ref a_lawPlace, .ref a_lawOther, .ref a_lawEach, .ref a_lawFrom, .ref a_foes, .ref a_suitTable, .ref a_acts])), (a_first, .inl (cyI, 7, .inl a_f_first)), (a_now, .inl (cyI, 7, .inl a_f_now)), (a_lawPlace, .inl (cyI, 6, .inl a_f_lawPlace)), (a_lawOther, .inl (cyI, 6, .inl a_f_lawOther)), (a_lawEach, .inl (cyI, 6, .inl a_f_lawEach)), (a_lawFrom, .inl (cyI, 6, .inl a_f_lawFrom)), (a_foes, .inl (cyI, 7, .inl a_f_foes)), (a_suitTable, .inl (cyI, 49, .inl a_f_suitTable)), (a_acts, .inl (cyI, 40, .inl a_f_acts))] st.heap := va_P.app hP_x hP_hall
  have hDa : va_D (TT tg [0, 2]) [(x0, .inr (10, [.ref t0, .ref h0, .ref d0, .ref im, .ref ke, .ref sl0, .ref c0, .ref v0, .ref q0, .ref s0, .ref gm0, .ref l0, .ref to, .ref tr, vsl])), (h0, .inr (2, [.int a_pl, .int a_li, .int a_le, .int a_lc, .int a_ac, .int a_ng, .ref a_first, .ref a_now, .ref a_lawPlace, .ref a_lawOther, .ref a_lawEach, .ref a_lawFrom, .ref a_foes, .ref a_suitTable, .ref a_acts])), (a_first, .inl (cyI, 7, .inl a_f_first)), (a_now, .inl (cyI, 7, .inl a_f_now)), (a_lawPlace, .inl (cyI, 6, .inl a_f_lawPlace)), (a_lawOther, .inl (cyI, 6, .inl a_f_lawOther)), (a_lawEach, .inl (cyI, 6, .inl a_f_lawEach)), (a_lawFrom, .inl (cyI, 6, .inl a_f_lawFrom)), (a_foes, .inl (cyI, 7, .inl a_f_foes)), (a_suitTable, .inl (cyI, 49, .inl a_f_suitTable)), (a_acts, .inl (cyI, 40, .inl a_f_acts))] := (va_D.tt hD_x hD_hall (by decide))
  refine ⟨_, _, _, x_steps l dC dI cyI cyB cyJ cyZ cyH cyN tR tF aK aV st.heap.size x0 h0 a_first a_now a_lawPlace a_lawOther a_lawEach a_lawFrom a_foes a_suitTable a_acts a_pl a_li a_le a_lc a_ac a_ng a_f_first a_f_now a_f_lawPlace a_f_lawOther a_f_lawEach a_f_lawFrom a_f_foes a_f_suitTable a_f_acts t0 d0 im ke sl0 c0 v0 q0 s0 gm0 l0 to tr vsl Fhall_0 Fhall_1 Fhall_2 Fhall_3 Fhall_4 Fhall_5 Fhall_6 Fhall_7 Fhall_8, ⟨ha, rfl, hPa, hK.sub [0, 1, 2, 3, 4, 5] rfl, hDa.weaken (fun _ _ _ _ => trivial), hFX.narrow (ax_of hDa (by decide))⟩, ?_, ax_of hDa (by decide)⟩
  rintro o t ⟨⟨r, u, ho, hr, hP', hD'⟩, hF⟩
  refine ⟨⟨r, (), ho, hr, a_pl, s_n0, s_n1, s_n2, s_n3, t0, h0, d0, im, ke, sl0, c0, v0, q0, s0, gm0, l0, to, tr, vsl, ⟨_, rfl, hP'.sub [0] rfl, hD_x.same rfl⟩,
    h_tape.frame hF hDa (by decide),
    ⟨_, ⟨a_first, a_now, a_lawPlace, a_lawOther, a_lawEach, a_lawFrom, a_foes, a_suitTable, a_acts, a_li, a_le, a_lc, a_ac, a_ng, a_f_first, a_f_now, a_f_lawPlace, a_f_lawOther, a_f_lawEach, a_f_lawFrom, a_f_foes, a_f_suitTable, a_f_acts, Fhall_0, Fhall_1, Fhall_2, Fhall_3, Fhall_4, Fhall_5, Fhall_6, Fhall_7, Fhall_8, rfl⟩, hP'.sub [1, 2, 3, 4, 5, 6, 7, 8, 9, 10] rfl, hD_hall.same rfl⟩,
    h_draft.frame hF hDa (by decide),
    h_images.frame hF hDa (by decide),
    h_kept.frame hF hDa (by decide),
    h_slots.frame hF hDa (by decide),
    h_course.frame hF hDa (by decide),
    h_sight.frame hF hDa (by decide),
    h_parting.frame hF hDa (by decide),
    h_suiting.frame hF hDa (by decide),
    h_game.frame hF hDa (by decide),
    h_lots.frame hF hDa (by decide),
    h_told.frame hF hDa (by decide),
    h_tried.frame hF hDa (by decide),
    hsl.go (tt_keep hF hDa (by decide))⟩, hF.wide (ax_of hDa (by decide))⟩
set_option maxHeartbeats 4000000 in
set_option maxRecDepth 100000 in
theorem wx_rings (l : Launch) (dC : Nat → ClassId) (dI : Nat → Nat → Nat) (cyI cyB cyJ cyZ cyH cyN cyM : ClassId) (tR tF : Nat) (aK aV : Nat → Nat) (tg : Nat → Nat) (sz : Nat) (x0 sl : Nat) (ke_f s_fm s_fl s_fw : Nat → Int32)  : Met l yX11_rings (wk yX11_rings cX11_rings 5 (some .int)) ({ frames := 2, cells := 0, slots := 0, locals := 85 }) (va_Pc [.ref x0] (XP dC dI cyI cyB cyJ cyZ cyH cyN cyM tR tF aK aV tg sz x0 sl ke_f s_fm s_fl s_fw)) (va_Qi (fun (r : Int32) (_ : Unit) => True) (fun (_ : Unit) (t : State) => XE dC dI cyI cyB cyJ cyZ cyH cyN cyM tg x0 sl ke_f s_fm s_fl s_fw t.heap) (AX tg sz)) 0 0 (AX tg sz) := by
  refine met_of (fun a st hp => ?_)
  obtain ⟨ha, hsz, ⟨a_pl, s_n0, s_n1, s_n2, s_n3, t0, h0, d0, im, ke, sl0, c0, v0, q0, s0, gm0, l0, to, tr, vsl, hx, h_tape, h_hall, h_draft, h_images, h_kept, h_slots, h_course, h_sight, h_parting, h_suiting, h_game, h_lots, h_told, h_tried, hsl⟩, hK, hNB, hFX⟩ := hp
  subst hsz
  obtain ⟨_, rfl, hP_x, hD_x⟩ := hx
  obtain ⟨_, ⟨a_first, a_now, a_lawPlace, a_lawOther, a_lawEach, a_lawFrom, a_foes, a_suitTable, a_acts, a_li, a_le, a_lc, a_ac, a_ng, a_f_first, a_f_now, a_f_lawPlace, a_f_lawOther, a_f_lawEach, a_f_lawFrom, a_f_foes, a_f_suitTable, a_f_acts, Fhall_0, Fhall_1, Fhall_2, Fhall_3, Fhall_4, Fhall_5, Fhall_6, Fhall_7, Fhall_8, rfl⟩, hP_hall, hD_hall⟩ := h_hall
  have hPa : va_P (dC, dI) vwCl [(x0, .inr (10, [.ref t0, .ref h0, .ref d0, .ref im, .ref ke, .ref sl0, .ref c0, .ref v0, .ref q0, .ref s0, .ref gm0, .ref l0, .ref to, .ref tr, vsl])), (h0, .inr (2, [.int a_pl, .int a_li, .int a_le, .int a_lc, .int a_ac, .int a_ng, .ref a_first, .ref a_now, .ref a_lawPlace, .ref a_lawOther, .ref a_lawEach, .ref a_lawFrom, .ref a_foes, .ref a_suitTable, .ref a_acts])), (a_first, .inl (cyI, 7, .inl a_f_first)), (a_now, .inl (cyI, 7, .inl a_f_now)), (a_lawPlace, .inl (cyI, 6, .inl a_f_lawPlace)), (a_lawOther, .inl (cyI, 6, .inl a_f_lawOther)), (a_lawEach, .inl (cyI, 6, .inl a_f_lawEach)), (a_lawFrom, .inl (cyI, 6, .inl a_f_lawFrom)), (a_foes, .inl (cyI, 7, .inl a_f_foes)), (a_suitTable, .inl (cyI, 49, .inl a_f_suitTable)), (a_acts, .inl (cyI, 40, .inl a_f_acts))] st.heap := va_P.app hP_x hP_hall
  have hDa : va_D (TT tg [0, 2]) [(x0, .inr (10, [.ref t0, .ref h0, .ref d0, .ref im, .ref ke, .ref sl0, .ref c0, .ref v0, .ref q0, .ref s0, .ref gm0, .ref l0, .ref to, .ref tr, vsl])), (h0, .inr (2, [.int a_pl, .int a_li, .int a_le, .int a_lc, .int a_ac, .int a_ng, .ref a_first, .ref a_now, .ref a_lawPlace, .ref a_lawOther, .ref a_lawEach, .ref a_lawFrom, .ref a_foes, .ref a_suitTable, .ref a_acts])), (a_first, .inl (cyI, 7, .inl a_f_first)), (a_now, .inl (cyI, 7, .inl a_f_now)), (a_lawPlace, .inl (cyI, 6, .inl a_f_lawPlace)), (a_lawOther, .inl (cyI, 6, .inl a_f_lawOther)), (a_lawEach, .inl (cyI, 6, .inl a_f_lawEach)), (a_lawFrom, .inl (cyI, 6, .inl a_f_lawFrom)), (a_foes, .inl (cyI, 7, .inl a_f_foes)), (a_suitTable, .inl (cyI, 49, .inl a_f_suitTable)), (a_acts, .inl (cyI, 40, .inl a_f_acts))] := (va_D.tt hD_x hD_hall (by decide))
  refine ⟨_, _, _, x_rings l dC dI cyI cyB cyJ cyZ cyH cyN tR tF aK aV st.heap.size x0 h0 a_first a_now a_lawPlace a_lawOther a_lawEach a_lawFrom a_foes a_suitTable a_acts a_pl a_li a_le a_lc a_ac a_ng a_f_first a_f_now a_f_lawPlace a_f_lawOther a_f_lawEach a_f_lawFrom a_f_foes a_f_suitTable a_f_acts t0 d0 im ke sl0 c0 v0 q0 s0 gm0 l0 to tr vsl Fhall_0 Fhall_1 Fhall_2 Fhall_3 Fhall_4 Fhall_5 Fhall_6 Fhall_7 Fhall_8, ⟨ha, rfl, hPa, hK.sub [0, 1, 2, 3, 4, 5] rfl, hDa.weaken (fun _ _ _ _ => trivial), hFX.narrow (ax_of hDa (by decide))⟩, ?_, ax_of hDa (by decide)⟩
  rintro o t ⟨⟨r, u, ho, hr, hP', hD'⟩, hF⟩
  refine ⟨⟨r, (), ho, hr, a_pl, s_n0, s_n1, s_n2, s_n3, t0, h0, d0, im, ke, sl0, c0, v0, q0, s0, gm0, l0, to, tr, vsl, ⟨_, rfl, hP'.sub [0] rfl, hD_x.same rfl⟩,
    h_tape.frame hF hDa (by decide),
    ⟨_, ⟨a_first, a_now, a_lawPlace, a_lawOther, a_lawEach, a_lawFrom, a_foes, a_suitTable, a_acts, a_li, a_le, a_lc, a_ac, a_ng, a_f_first, a_f_now, a_f_lawPlace, a_f_lawOther, a_f_lawEach, a_f_lawFrom, a_f_foes, a_f_suitTable, a_f_acts, Fhall_0, Fhall_1, Fhall_2, Fhall_3, Fhall_4, Fhall_5, Fhall_6, Fhall_7, Fhall_8, rfl⟩, hP'.sub [1, 2, 3, 4, 5, 6, 7, 8, 9, 10] rfl, hD_hall.same rfl⟩,
    h_draft.frame hF hDa (by decide),
    h_images.frame hF hDa (by decide),
    h_kept.frame hF hDa (by decide),
    h_slots.frame hF hDa (by decide),
    h_course.frame hF hDa (by decide),
    h_sight.frame hF hDa (by decide),
    h_parting.frame hF hDa (by decide),
    h_suiting.frame hF hDa (by decide),
    h_game.frame hF hDa (by decide),
    h_lots.frame hF hDa (by decide),
    h_told.frame hF hDa (by decide),
    h_tried.frame hF hDa (by decide),
    hsl.go (tt_keep hF hDa (by decide))⟩, hF.wide (ax_of hDa (by decide))⟩
set_option maxHeartbeats 4000000 in
set_option maxRecDepth 100000 in
theorem wx_stay (l : Launch) (dC : Nat → ClassId) (dI : Nat → Nat → Nat) (cyI cyB cyJ cyZ cyH cyN cyM : ClassId) (tR tF : Nat) (aK aV : Nat → Nat) (tg : Nat → Nat) (sz : Nat) (x0 sl : Nat) (ke_f s_fm s_fl s_fw : Nat → Int32)  : Met l yX11_stay (wk yX11_stay cX11_stay 1 (some .int)) ({ frames := 2, cells := 0, slots := 0, locals := 85 }) (va_Pc [.ref x0] (XP dC dI cyI cyB cyJ cyZ cyH cyN cyM tR tF aK aV tg sz x0 sl ke_f s_fm s_fl s_fw)) (va_Qi (fun (r : Int32) (_ : Unit) => True) (fun (_ : Unit) (t : State) => XE dC dI cyI cyB cyJ cyZ cyH cyN cyM tg x0 sl ke_f s_fm s_fl s_fw t.heap) (AX tg sz)) 0 0 (AX tg sz) := by
  refine met_of (fun a st hp => ?_)
  obtain ⟨ha, hsz, ⟨a_pl, s_n0, s_n1, s_n2, s_n3, t0, h0, d0, im, ke, sl0, c0, v0, q0, s0, gm0, l0, to, tr, vsl, hx, h_tape, h_hall, h_draft, h_images, h_kept, h_slots, h_course, h_sight, h_parting, h_suiting, h_game, h_lots, h_told, h_tried, hsl⟩, hK, hNB, hFX⟩ := hp
  subst hsz
  obtain ⟨_, rfl, hP_x, hD_x⟩ := hx
  obtain ⟨_, ⟨a_first, a_now, a_lawPlace, a_lawOther, a_lawEach, a_lawFrom, a_foes, a_suitTable, a_acts, a_li, a_le, a_lc, a_ac, a_ng, a_f_first, a_f_now, a_f_lawPlace, a_f_lawOther, a_f_lawEach, a_f_lawFrom, a_f_foes, a_f_suitTable, a_f_acts, Fhall_0, Fhall_1, Fhall_2, Fhall_3, Fhall_4, Fhall_5, Fhall_6, Fhall_7, Fhall_8, rfl⟩, hP_hall, hD_hall⟩ := h_hall
  obtain ⟨_, ⟨tr_f, rfl⟩, hP_tried, hD_tried⟩ := h_tried
  have hPa : va_P (dC, dI) vwCl [(x0, .inr (10, [.ref t0, .ref h0, .ref d0, .ref im, .ref ke, .ref sl0, .ref c0, .ref v0, .ref q0, .ref s0, .ref gm0, .ref l0, .ref to, .ref tr, vsl])), (h0, .inr (2, [.int a_pl, .int a_li, .int a_le, .int a_lc, .int a_ac, .int a_ng, .ref a_first, .ref a_now, .ref a_lawPlace, .ref a_lawOther, .ref a_lawEach, .ref a_lawFrom, .ref a_foes, .ref a_suitTable, .ref a_acts])), (a_first, .inl (cyI, 7, .inl a_f_first)), (a_now, .inl (cyI, 7, .inl a_f_now)), (a_lawPlace, .inl (cyI, 6, .inl a_f_lawPlace)), (a_lawOther, .inl (cyI, 6, .inl a_f_lawOther)), (a_lawEach, .inl (cyI, 6, .inl a_f_lawEach)), (a_lawFrom, .inl (cyI, 6, .inl a_f_lawFrom)), (a_foes, .inl (cyI, 7, .inl a_f_foes)), (a_suitTable, .inl (cyI, 49, .inl a_f_suitTable)), (a_acts, .inl (cyI, 40, .inl a_f_acts)), (tr, .inl (cyI, 7, .inl tr_f))] st.heap := va_P.app hP_x (va_P.app hP_hall hP_tried)
  have hDa : va_D (TT tg [0, 2, 14]) [(x0, .inr (10, [.ref t0, .ref h0, .ref d0, .ref im, .ref ke, .ref sl0, .ref c0, .ref v0, .ref q0, .ref s0, .ref gm0, .ref l0, .ref to, .ref tr, vsl])), (h0, .inr (2, [.int a_pl, .int a_li, .int a_le, .int a_lc, .int a_ac, .int a_ng, .ref a_first, .ref a_now, .ref a_lawPlace, .ref a_lawOther, .ref a_lawEach, .ref a_lawFrom, .ref a_foes, .ref a_suitTable, .ref a_acts])), (a_first, .inl (cyI, 7, .inl a_f_first)), (a_now, .inl (cyI, 7, .inl a_f_now)), (a_lawPlace, .inl (cyI, 6, .inl a_f_lawPlace)), (a_lawOther, .inl (cyI, 6, .inl a_f_lawOther)), (a_lawEach, .inl (cyI, 6, .inl a_f_lawEach)), (a_lawFrom, .inl (cyI, 6, .inl a_f_lawFrom)), (a_foes, .inl (cyI, 7, .inl a_f_foes)), (a_suitTable, .inl (cyI, 49, .inl a_f_suitTable)), (a_acts, .inl (cyI, 40, .inl a_f_acts)), (tr, .inl (cyI, 7, .inl tr_f))] := (va_D.tt hD_x (va_D.tt hD_hall hD_tried (by decide)) (by decide))
  refine ⟨_, _, _, x_stay l dC dI cyI cyB cyJ cyZ cyH cyN tR tF aK aV st.heap.size x0 h0 a_first a_now a_lawPlace a_lawOther a_lawEach a_lawFrom a_foes a_suitTable a_acts a_pl a_li a_le a_lc a_ac a_ng a_f_first a_f_now a_f_lawPlace a_f_lawOther a_f_lawEach a_f_lawFrom a_f_foes a_f_suitTable a_f_acts tr tr_f t0 d0 im ke sl0 c0 v0 q0 s0 gm0 l0 to vsl Fhall_0 Fhall_1 Fhall_2 Fhall_3 Fhall_4 Fhall_5 Fhall_6 Fhall_7 Fhall_8, ⟨ha, rfl, hPa, hK.sub [0, 1, 2, 3, 4, 5] rfl, hDa.weaken (fun _ _ _ _ => trivial), hFX.narrow (ax_of hDa (by decide))⟩, ?_, ax_of hDa (by decide)⟩
  rintro o t ⟨⟨r, u, ho, hr, y0, hP', hD'⟩, hF⟩
  refine ⟨⟨r, (), ho, hr, a_pl, s_n0, s_n1, s_n2, s_n3, t0, h0, d0, im, ke, sl0, c0, v0, q0, s0, gm0, l0, to, tr, vsl, ⟨_, rfl, hP'.sub [0] rfl, hD_x.same rfl⟩,
    h_tape.frame hF hDa (by decide),
    ⟨_, ⟨a_first, a_now, a_lawPlace, a_lawOther, a_lawEach, a_lawFrom, a_foes, a_suitTable, a_acts, a_li, a_le, a_lc, a_ac, a_ng, a_f_first, a_f_now, a_f_lawPlace, a_f_lawOther, a_f_lawEach, a_f_lawFrom, a_f_foes, a_f_suitTable, a_f_acts, Fhall_0, Fhall_1, Fhall_2, Fhall_3, Fhall_4, Fhall_5, Fhall_6, Fhall_7, Fhall_8, rfl⟩, hP'.sub [1, 2, 3, 4, 5, 6, 7, 8, 9, 10] rfl, hD_hall.same rfl⟩,
    h_draft.frame hF hDa (by decide),
    h_images.frame hF hDa (by decide),
    h_kept.frame hF hDa (by decide),
    h_slots.frame hF hDa (by decide),
    h_course.frame hF hDa (by decide),
    h_sight.frame hF hDa (by decide),
    h_parting.frame hF hDa (by decide),
    h_suiting.frame hF hDa (by decide),
    h_game.frame hF hDa (by decide),
    h_lots.frame hF hDa (by decide),
    h_told.frame hF hDa (by decide),
    ⟨_, ⟨y0, rfl⟩, hP'.sub [11] rfl, hD_tried.same rfl⟩,
    hsl.go (tt_keep hF hDa (by decide))⟩, hF.wide (ax_of hDa (by decide))⟩
set_option maxHeartbeats 4000000 in
set_option maxRecDepth 100000 in
theorem wx_ring (l : Launch) (dC : Nat → ClassId) (dI : Nat → Nat → Nat) (cyI cyB cyJ cyZ cyH cyN cyM : ClassId) (tR tF : Nat) (aK aV : Nat → Nat) (tg : Nat → Nat) (sz : Nat) (x0 sl : Nat) (ke_f s_fm s_fl s_fw : Nat → Int32) (p0 : Int32) : Met l yX11_ring (wk yX11_ring cX11_ring 2 (some .int)) ({ frames := 2, cells := 0, slots := 0, locals := 85 }) (va_Pc [.ref x0, .int p0] (XP dC dI cyI cyB cyJ cyZ cyH cyN cyM tR tF aK aV tg sz x0 sl ke_f s_fm s_fl s_fw)) (va_Qi (fun (r : Int32) (_ : Unit) => True) (fun (_ : Unit) (t : State) => XE dC dI cyI cyB cyJ cyZ cyH cyN cyM tg x0 sl ke_f s_fm s_fl s_fw t.heap) (AX tg sz)) 0 0 (AX tg sz) := by
  refine met_of (fun a st hp => ?_)
  obtain ⟨ha, hsz, ⟨a_pl, s_n0, s_n1, s_n2, s_n3, t0, h0, d0, im, ke, sl0, c0, v0, q0, s0, gm0, l0, to, tr, vsl, hx, h_tape, h_hall, h_draft, h_images, h_kept, h_slots, h_course, h_sight, h_parting, h_suiting, h_game, h_lots, h_told, h_tried, hsl⟩, hK, hNB, hFX⟩ := hp
  subst hsz
  obtain ⟨_, rfl, hP_x, hD_x⟩ := hx
  obtain ⟨_, ⟨a_first, a_now, a_lawPlace, a_lawOther, a_lawEach, a_lawFrom, a_foes, a_suitTable, a_acts, a_li, a_le, a_lc, a_ac, a_ng, a_f_first, a_f_now, a_f_lawPlace, a_f_lawOther, a_f_lawEach, a_f_lawFrom, a_f_foes, a_f_suitTable, a_f_acts, Fhall_0, Fhall_1, Fhall_2, Fhall_3, Fhall_4, Fhall_5, Fhall_6, Fhall_7, Fhall_8, rfl⟩, hP_hall, hD_hall⟩ := h_hall
  have hPa : va_P (dC, dI) vwCl [(x0, .inr (10, [.ref t0, .ref h0, .ref d0, .ref im, .ref ke, .ref sl0, .ref c0, .ref v0, .ref q0, .ref s0, .ref gm0, .ref l0, .ref to, .ref tr, vsl])), (h0, .inr (2, [.int a_pl, .int a_li, .int a_le, .int a_lc, .int a_ac, .int a_ng, .ref a_first, .ref a_now, .ref a_lawPlace, .ref a_lawOther, .ref a_lawEach, .ref a_lawFrom, .ref a_foes, .ref a_suitTable, .ref a_acts])), (a_first, .inl (cyI, 7, .inl a_f_first)), (a_now, .inl (cyI, 7, .inl a_f_now)), (a_lawPlace, .inl (cyI, 6, .inl a_f_lawPlace)), (a_lawOther, .inl (cyI, 6, .inl a_f_lawOther)), (a_lawEach, .inl (cyI, 6, .inl a_f_lawEach)), (a_lawFrom, .inl (cyI, 6, .inl a_f_lawFrom)), (a_foes, .inl (cyI, 7, .inl a_f_foes)), (a_suitTable, .inl (cyI, 49, .inl a_f_suitTable)), (a_acts, .inl (cyI, 40, .inl a_f_acts))] st.heap := va_P.app hP_x hP_hall
  have hDa : va_D (TT tg [0, 2]) [(x0, .inr (10, [.ref t0, .ref h0, .ref d0, .ref im, .ref ke, .ref sl0, .ref c0, .ref v0, .ref q0, .ref s0, .ref gm0, .ref l0, .ref to, .ref tr, vsl])), (h0, .inr (2, [.int a_pl, .int a_li, .int a_le, .int a_lc, .int a_ac, .int a_ng, .ref a_first, .ref a_now, .ref a_lawPlace, .ref a_lawOther, .ref a_lawEach, .ref a_lawFrom, .ref a_foes, .ref a_suitTable, .ref a_acts])), (a_first, .inl (cyI, 7, .inl a_f_first)), (a_now, .inl (cyI, 7, .inl a_f_now)), (a_lawPlace, .inl (cyI, 6, .inl a_f_lawPlace)), (a_lawOther, .inl (cyI, 6, .inl a_f_lawOther)), (a_lawEach, .inl (cyI, 6, .inl a_f_lawEach)), (a_lawFrom, .inl (cyI, 6, .inl a_f_lawFrom)), (a_foes, .inl (cyI, 7, .inl a_f_foes)), (a_suitTable, .inl (cyI, 49, .inl a_f_suitTable)), (a_acts, .inl (cyI, 40, .inl a_f_acts))] := (va_D.tt hD_x hD_hall (by decide))
  refine ⟨_, _, _, x_ring l dC dI cyI cyB cyJ cyZ cyH cyN tR tF aK aV st.heap.size x0 h0 a_first a_now a_lawPlace a_lawOther a_lawEach a_lawFrom a_foes a_suitTable a_acts a_pl a_li a_le a_lc a_ac a_ng a_f_first a_f_now a_f_lawPlace a_f_lawOther a_f_lawEach a_f_lawFrom a_f_foes a_f_suitTable a_f_acts t0 d0 im ke sl0 c0 v0 q0 s0 gm0 l0 to tr vsl p0 Fhall_0 Fhall_1 Fhall_2 Fhall_3 Fhall_4 Fhall_5 Fhall_6 Fhall_7 Fhall_8, ⟨ha, rfl, hPa, hK.sub [0, 1, 2, 3, 4, 5] rfl, hDa.weaken (fun _ _ _ _ => trivial), hFX.narrow (ax_of hDa (by decide))⟩, ?_, ax_of hDa (by decide)⟩
  rintro o t ⟨⟨r, u, ho, hr, hP', hD'⟩, hF⟩
  refine ⟨⟨r, (), ho, hr, a_pl, s_n0, s_n1, s_n2, s_n3, t0, h0, d0, im, ke, sl0, c0, v0, q0, s0, gm0, l0, to, tr, vsl, ⟨_, rfl, hP'.sub [0] rfl, hD_x.same rfl⟩,
    h_tape.frame hF hDa (by decide),
    ⟨_, ⟨a_first, a_now, a_lawPlace, a_lawOther, a_lawEach, a_lawFrom, a_foes, a_suitTable, a_acts, a_li, a_le, a_lc, a_ac, a_ng, a_f_first, a_f_now, a_f_lawPlace, a_f_lawOther, a_f_lawEach, a_f_lawFrom, a_f_foes, a_f_suitTable, a_f_acts, Fhall_0, Fhall_1, Fhall_2, Fhall_3, Fhall_4, Fhall_5, Fhall_6, Fhall_7, Fhall_8, rfl⟩, hP'.sub [1, 2, 3, 4, 5, 6, 7, 8, 9, 10] rfl, hD_hall.same rfl⟩,
    h_draft.frame hF hDa (by decide),
    h_images.frame hF hDa (by decide),
    h_kept.frame hF hDa (by decide),
    h_slots.frame hF hDa (by decide),
    h_course.frame hF hDa (by decide),
    h_sight.frame hF hDa (by decide),
    h_parting.frame hF hDa (by decide),
    h_suiting.frame hF hDa (by decide),
    h_game.frame hF hDa (by decide),
    h_lots.frame hF hDa (by decide),
    h_told.frame hF hDa (by decide),
    h_tried.frame hF hDa (by decide),
    hsl.go (tt_keep hF hDa (by decide))⟩, hF.wide (ax_of hDa (by decide))⟩
set_option maxHeartbeats 4000000 in
set_option maxRecDepth 100000 in
theorem wx_away (l : Launch) (dC : Nat → ClassId) (dI : Nat → Nat → Nat) (cyI cyB cyJ cyZ cyH cyN cyM : ClassId) (tR tF : Nat) (aK aV : Nat → Nat) (tg : Nat → Nat) (sz : Nat) (x0 sl : Nat) (ke_f s_fm s_fl s_fw : Nat → Int32) (p0 : Int32) : Met l yX11_away (wk yX11_away cX11_away 2 (some .int)) ({ frames := 3, cells := 0, slots := 0, locals := 104 }) (va_Pc [.ref x0, .int p0] (XP dC dI cyI cyB cyJ cyZ cyH cyN cyM tR tF aK aV tg sz x0 sl ke_f s_fm s_fl s_fw)) (va_Qi (fun (r : Int32) (_ : Unit) => True) (fun (_ : Unit) (t : State) => XE dC dI cyI cyB cyJ cyZ cyH cyN cyM tg x0 sl ke_f s_fm s_fl s_fw t.heap) (AX tg sz)) 0 0 (AX tg sz) := by
  refine met_of (fun a st hp => ?_)
  obtain ⟨ha, hsz, ⟨a_pl, s_n0, s_n1, s_n2, s_n3, t0, h0, d0, im, ke, sl0, c0, v0, q0, s0, gm0, l0, to, tr, vsl, hx, h_tape, h_hall, h_draft, h_images, h_kept, h_slots, h_course, h_sight, h_parting, h_suiting, h_game, h_lots, h_told, h_tried, hsl⟩, hK, hNB, hFX⟩ := hp
  subst hsz
  obtain ⟨_, rfl, hP_x, hD_x⟩ := hx
  obtain ⟨_, ⟨a_first, a_now, a_lawPlace, a_lawOther, a_lawEach, a_lawFrom, a_foes, a_suitTable, a_acts, a_li, a_le, a_lc, a_ac, a_ng, a_f_first, a_f_now, a_f_lawPlace, a_f_lawOther, a_f_lawEach, a_f_lawFrom, a_f_foes, a_f_suitTable, a_f_acts, Fhall_0, Fhall_1, Fhall_2, Fhall_3, Fhall_4, Fhall_5, Fhall_6, Fhall_7, Fhall_8, rfl⟩, hP_hall, hD_hall⟩ := h_hall
  have hPa : va_P (dC, dI) vwCl [(x0, .inr (10, [.ref t0, .ref h0, .ref d0, .ref im, .ref ke, .ref sl0, .ref c0, .ref v0, .ref q0, .ref s0, .ref gm0, .ref l0, .ref to, .ref tr, vsl])), (h0, .inr (2, [.int a_pl, .int a_li, .int a_le, .int a_lc, .int a_ac, .int a_ng, .ref a_first, .ref a_now, .ref a_lawPlace, .ref a_lawOther, .ref a_lawEach, .ref a_lawFrom, .ref a_foes, .ref a_suitTable, .ref a_acts])), (a_first, .inl (cyI, 7, .inl a_f_first)), (a_now, .inl (cyI, 7, .inl a_f_now)), (a_lawPlace, .inl (cyI, 6, .inl a_f_lawPlace)), (a_lawOther, .inl (cyI, 6, .inl a_f_lawOther)), (a_lawEach, .inl (cyI, 6, .inl a_f_lawEach)), (a_lawFrom, .inl (cyI, 6, .inl a_f_lawFrom)), (a_foes, .inl (cyI, 7, .inl a_f_foes)), (a_suitTable, .inl (cyI, 49, .inl a_f_suitTable)), (a_acts, .inl (cyI, 40, .inl a_f_acts))] st.heap := va_P.app hP_x hP_hall
  have hDa : va_D (TT tg [0, 2]) [(x0, .inr (10, [.ref t0, .ref h0, .ref d0, .ref im, .ref ke, .ref sl0, .ref c0, .ref v0, .ref q0, .ref s0, .ref gm0, .ref l0, .ref to, .ref tr, vsl])), (h0, .inr (2, [.int a_pl, .int a_li, .int a_le, .int a_lc, .int a_ac, .int a_ng, .ref a_first, .ref a_now, .ref a_lawPlace, .ref a_lawOther, .ref a_lawEach, .ref a_lawFrom, .ref a_foes, .ref a_suitTable, .ref a_acts])), (a_first, .inl (cyI, 7, .inl a_f_first)), (a_now, .inl (cyI, 7, .inl a_f_now)), (a_lawPlace, .inl (cyI, 6, .inl a_f_lawPlace)), (a_lawOther, .inl (cyI, 6, .inl a_f_lawOther)), (a_lawEach, .inl (cyI, 6, .inl a_f_lawEach)), (a_lawFrom, .inl (cyI, 6, .inl a_f_lawFrom)), (a_foes, .inl (cyI, 7, .inl a_f_foes)), (a_suitTable, .inl (cyI, 49, .inl a_f_suitTable)), (a_acts, .inl (cyI, 40, .inl a_f_acts))] := (va_D.tt hD_x hD_hall (by decide))
  refine ⟨_, _, _, x_away l dC dI cyI cyB cyJ cyZ cyH cyN tR tF aK aV st.heap.size x0 h0 a_first a_now a_lawPlace a_lawOther a_lawEach a_lawFrom a_foes a_suitTable a_acts a_pl a_li a_le a_lc a_ac a_ng a_f_first a_f_now a_f_lawPlace a_f_lawOther a_f_lawEach a_f_lawFrom a_f_foes a_f_suitTable a_f_acts t0 d0 im ke sl0 c0 v0 q0 s0 gm0 l0 to tr vsl p0 Fhall_0 Fhall_1 Fhall_2 Fhall_3 Fhall_4 Fhall_5 Fhall_6 Fhall_7 Fhall_8, ⟨ha, rfl, hPa, hK.sub [0, 1, 2, 3, 4, 5] rfl, hDa.weaken (fun _ _ _ _ => trivial), hFX.narrow (ax_of hDa (by decide))⟩, ?_, ax_of hDa (by decide)⟩
  rintro o t ⟨⟨r, u, ho, hr, hP', hD'⟩, hF⟩
  refine ⟨⟨r, (), ho, hr, a_pl, s_n0, s_n1, s_n2, s_n3, t0, h0, d0, im, ke, sl0, c0, v0, q0, s0, gm0, l0, to, tr, vsl, ⟨_, rfl, hP'.sub [0] rfl, hD_x.same rfl⟩,
    h_tape.frame hF hDa (by decide),
    ⟨_, ⟨a_first, a_now, a_lawPlace, a_lawOther, a_lawEach, a_lawFrom, a_foes, a_suitTable, a_acts, a_li, a_le, a_lc, a_ac, a_ng, a_f_first, a_f_now, a_f_lawPlace, a_f_lawOther, a_f_lawEach, a_f_lawFrom, a_f_foes, a_f_suitTable, a_f_acts, Fhall_0, Fhall_1, Fhall_2, Fhall_3, Fhall_4, Fhall_5, Fhall_6, Fhall_7, Fhall_8, rfl⟩, hP'.sub [1, 2, 3, 4, 5, 6, 7, 8, 9, 10] rfl, hD_hall.same rfl⟩,
    h_draft.frame hF hDa (by decide),
    h_images.frame hF hDa (by decide),
    h_kept.frame hF hDa (by decide),
    h_slots.frame hF hDa (by decide),
    h_course.frame hF hDa (by decide),
    h_sight.frame hF hDa (by decide),
    h_parting.frame hF hDa (by decide),
    h_suiting.frame hF hDa (by decide),
    h_game.frame hF hDa (by decide),
    h_lots.frame hF hDa (by decide),
    h_told.frame hF hDa (by decide),
    h_tried.frame hF hDa (by decide),
    hsl.go (tt_keep hF hDa (by decide))⟩, hF.wide (ax_of hDa (by decide))⟩
set_option maxHeartbeats 4000000 in
set_option maxRecDepth 100000 in
theorem wx_lost (l : Launch) (dC : Nat → ClassId) (dI : Nat → Nat → Nat) (cyI cyB cyJ cyZ cyH cyN cyM : ClassId) (tR tF : Nat) (aK aV : Nat → Nat) (tg : Nat → Nat) (sz : Nat) (x0 sl : Nat) (ke_f s_fm s_fl s_fw : Nat → Int32)  : Met l yX11_lost (wk yX11_lost cX11_lost 5 (some .int)) ({ frames := 3, cells := 0, slots := 0, locals := 104 }) (va_Pc [.ref x0] (XP dC dI cyI cyB cyJ cyZ cyH cyN cyM tR tF aK aV tg sz x0 sl ke_f s_fm s_fl s_fw)) (va_Qi (fun (r : Int32) (_ : Unit) => True) (fun (_ : Unit) (t : State) => XE dC dI cyI cyB cyJ cyZ cyH cyN cyM tg x0 sl ke_f s_fm s_fl s_fw t.heap) (AX tg sz)) 0 0 (AX tg sz) := by
  refine met_of (fun a st hp => ?_)
  obtain ⟨ha, hsz, ⟨a_pl, s_n0, s_n1, s_n2, s_n3, t0, h0, d0, im, ke, sl0, c0, v0, q0, s0, gm0, l0, to, tr, vsl, hx, h_tape, h_hall, h_draft, h_images, h_kept, h_slots, h_course, h_sight, h_parting, h_suiting, h_game, h_lots, h_told, h_tried, hsl⟩, hK, hNB, hFX⟩ := hp
  subst hsz
  obtain ⟨_, rfl, hP_x, hD_x⟩ := hx
  obtain ⟨_, ⟨a_first, a_now, a_lawPlace, a_lawOther, a_lawEach, a_lawFrom, a_foes, a_suitTable, a_acts, a_li, a_le, a_lc, a_ac, a_ng, a_f_first, a_f_now, a_f_lawPlace, a_f_lawOther, a_f_lawEach, a_f_lawFrom, a_f_foes, a_f_suitTable, a_f_acts, Fhall_0, Fhall_1, Fhall_2, Fhall_3, Fhall_4, Fhall_5, Fhall_6, Fhall_7, Fhall_8, rfl⟩, hP_hall, hD_hall⟩ := h_hall
  have hPa : va_P (dC, dI) vwCl [(x0, .inr (10, [.ref t0, .ref h0, .ref d0, .ref im, .ref ke, .ref sl0, .ref c0, .ref v0, .ref q0, .ref s0, .ref gm0, .ref l0, .ref to, .ref tr, vsl])), (h0, .inr (2, [.int a_pl, .int a_li, .int a_le, .int a_lc, .int a_ac, .int a_ng, .ref a_first, .ref a_now, .ref a_lawPlace, .ref a_lawOther, .ref a_lawEach, .ref a_lawFrom, .ref a_foes, .ref a_suitTable, .ref a_acts])), (a_first, .inl (cyI, 7, .inl a_f_first)), (a_now, .inl (cyI, 7, .inl a_f_now)), (a_lawPlace, .inl (cyI, 6, .inl a_f_lawPlace)), (a_lawOther, .inl (cyI, 6, .inl a_f_lawOther)), (a_lawEach, .inl (cyI, 6, .inl a_f_lawEach)), (a_lawFrom, .inl (cyI, 6, .inl a_f_lawFrom)), (a_foes, .inl (cyI, 7, .inl a_f_foes)), (a_suitTable, .inl (cyI, 49, .inl a_f_suitTable)), (a_acts, .inl (cyI, 40, .inl a_f_acts))] st.heap := va_P.app hP_x hP_hall
  have hDa : va_D (TT tg [0, 2]) [(x0, .inr (10, [.ref t0, .ref h0, .ref d0, .ref im, .ref ke, .ref sl0, .ref c0, .ref v0, .ref q0, .ref s0, .ref gm0, .ref l0, .ref to, .ref tr, vsl])), (h0, .inr (2, [.int a_pl, .int a_li, .int a_le, .int a_lc, .int a_ac, .int a_ng, .ref a_first, .ref a_now, .ref a_lawPlace, .ref a_lawOther, .ref a_lawEach, .ref a_lawFrom, .ref a_foes, .ref a_suitTable, .ref a_acts])), (a_first, .inl (cyI, 7, .inl a_f_first)), (a_now, .inl (cyI, 7, .inl a_f_now)), (a_lawPlace, .inl (cyI, 6, .inl a_f_lawPlace)), (a_lawOther, .inl (cyI, 6, .inl a_f_lawOther)), (a_lawEach, .inl (cyI, 6, .inl a_f_lawEach)), (a_lawFrom, .inl (cyI, 6, .inl a_f_lawFrom)), (a_foes, .inl (cyI, 7, .inl a_f_foes)), (a_suitTable, .inl (cyI, 49, .inl a_f_suitTable)), (a_acts, .inl (cyI, 40, .inl a_f_acts))] := (va_D.tt hD_x hD_hall (by decide))
  refine ⟨_, _, _, x_lost l dC dI cyI cyB cyJ cyZ cyH cyN tR tF aK aV st.heap.size x0 h0 a_first a_now a_lawPlace a_lawOther a_lawEach a_lawFrom a_foes a_suitTable a_acts a_pl a_li a_le a_lc a_ac a_ng a_f_first a_f_now a_f_lawPlace a_f_lawOther a_f_lawEach a_f_lawFrom a_f_foes a_f_suitTable a_f_acts t0 d0 im ke sl0 c0 v0 q0 s0 gm0 l0 to tr vsl Fhall_0 Fhall_1 Fhall_2 Fhall_3 Fhall_4 Fhall_5 Fhall_6 Fhall_7 Fhall_8, ⟨ha, rfl, hPa, hK.sub [0, 1, 2, 3, 4, 5] rfl, hDa.weaken (fun _ _ _ _ => trivial), hFX.narrow (ax_of hDa (by decide))⟩, ?_, ax_of hDa (by decide)⟩
  rintro o t ⟨⟨r, u, ho, hr, hP', hD'⟩, hF⟩
  refine ⟨⟨r, (), ho, hr, a_pl, s_n0, s_n1, s_n2, s_n3, t0, h0, d0, im, ke, sl0, c0, v0, q0, s0, gm0, l0, to, tr, vsl, ⟨_, rfl, hP'.sub [0] rfl, hD_x.same rfl⟩,
    h_tape.frame hF hDa (by decide),
    ⟨_, ⟨a_first, a_now, a_lawPlace, a_lawOther, a_lawEach, a_lawFrom, a_foes, a_suitTable, a_acts, a_li, a_le, a_lc, a_ac, a_ng, a_f_first, a_f_now, a_f_lawPlace, a_f_lawOther, a_f_lawEach, a_f_lawFrom, a_f_foes, a_f_suitTable, a_f_acts, Fhall_0, Fhall_1, Fhall_2, Fhall_3, Fhall_4, Fhall_5, Fhall_6, Fhall_7, Fhall_8, rfl⟩, hP'.sub [1, 2, 3, 4, 5, 6, 7, 8, 9, 10] rfl, hD_hall.same rfl⟩,
    h_draft.frame hF hDa (by decide),
    h_images.frame hF hDa (by decide),
    h_kept.frame hF hDa (by decide),
    h_slots.frame hF hDa (by decide),
    h_course.frame hF hDa (by decide),
    h_sight.frame hF hDa (by decide),
    h_parting.frame hF hDa (by decide),
    h_suiting.frame hF hDa (by decide),
    h_game.frame hF hDa (by decide),
    h_lots.frame hF hDa (by decide),
    h_told.frame hF hDa (by decide),
    h_tried.frame hF hDa (by decide),
    hsl.go (tt_keep hF hDa (by decide))⟩, hF.wide (ax_of hDa (by decide))⟩
set_option maxHeartbeats 4000000 in
set_option maxRecDepth 100000 in
theorem wx_beside (l : Launch) (dC : Nat → ClassId) (dI : Nat → Nat → Nat) (cyI cyB cyJ cyZ cyH cyN cyM : ClassId) (tR tF : Nat) (aK aV : Nat → Nat) (tg : Nat → Nat) (sz : Nat) (x0 sl : Nat) (ke_f s_fm s_fl s_fw : Nat → Int32) (p0 : Int32) : Met l yX11_beside (wk yX11_beside cX11_beside 4 (some .int)) ({ frames := 3, cells := 0, slots := 0, locals := 104 }) (va_Pc [.ref x0, .int p0] (XP dC dI cyI cyB cyJ cyZ cyH cyN cyM tR tF aK aV tg sz x0 sl ke_f s_fm s_fl s_fw)) (va_Qi (fun (r : Int32) (_ : Unit) => True) (fun (_ : Unit) (t : State) => XE dC dI cyI cyB cyJ cyZ cyH cyN cyM tg x0 sl ke_f s_fm s_fl s_fw t.heap) (AX tg sz)) 0 0 (AX tg sz) := by
  refine met_of (fun a st hp => ?_)
  obtain ⟨ha, hsz, ⟨a_pl, s_n0, s_n1, s_n2, s_n3, t0, h0, d0, im, ke, sl0, c0, v0, q0, s0, gm0, l0, to, tr, vsl, hx, h_tape, h_hall, h_draft, h_images, h_kept, h_slots, h_course, h_sight, h_parting, h_suiting, h_game, h_lots, h_told, h_tried, hsl⟩, hK, hNB, hFX⟩ := hp
  subst hsz
  obtain ⟨_, rfl, hP_x, hD_x⟩ := hx
  obtain ⟨_, ⟨a_first, a_now, a_lawPlace, a_lawOther, a_lawEach, a_lawFrom, a_foes, a_suitTable, a_acts, a_li, a_le, a_lc, a_ac, a_ng, a_f_first, a_f_now, a_f_lawPlace, a_f_lawOther, a_f_lawEach, a_f_lawFrom, a_f_foes, a_f_suitTable, a_f_acts, Fhall_0, Fhall_1, Fhall_2, Fhall_3, Fhall_4, Fhall_5, Fhall_6, Fhall_7, Fhall_8, rfl⟩, hP_hall, hD_hall⟩ := h_hall
  have hPa : va_P (dC, dI) vwCl [(x0, .inr (10, [.ref t0, .ref h0, .ref d0, .ref im, .ref ke, .ref sl0, .ref c0, .ref v0, .ref q0, .ref s0, .ref gm0, .ref l0, .ref to, .ref tr, vsl])), (h0, .inr (2, [.int a_pl, .int a_li, .int a_le, .int a_lc, .int a_ac, .int a_ng, .ref a_first, .ref a_now, .ref a_lawPlace, .ref a_lawOther, .ref a_lawEach, .ref a_lawFrom, .ref a_foes, .ref a_suitTable, .ref a_acts])), (a_first, .inl (cyI, 7, .inl a_f_first)), (a_now, .inl (cyI, 7, .inl a_f_now)), (a_lawPlace, .inl (cyI, 6, .inl a_f_lawPlace)), (a_lawOther, .inl (cyI, 6, .inl a_f_lawOther)), (a_lawEach, .inl (cyI, 6, .inl a_f_lawEach)), (a_lawFrom, .inl (cyI, 6, .inl a_f_lawFrom)), (a_foes, .inl (cyI, 7, .inl a_f_foes)), (a_suitTable, .inl (cyI, 49, .inl a_f_suitTable)), (a_acts, .inl (cyI, 40, .inl a_f_acts))] st.heap := va_P.app hP_x hP_hall
  have hDa : va_D (TT tg [0, 2]) [(x0, .inr (10, [.ref t0, .ref h0, .ref d0, .ref im, .ref ke, .ref sl0, .ref c0, .ref v0, .ref q0, .ref s0, .ref gm0, .ref l0, .ref to, .ref tr, vsl])), (h0, .inr (2, [.int a_pl, .int a_li, .int a_le, .int a_lc, .int a_ac, .int a_ng, .ref a_first, .ref a_now, .ref a_lawPlace, .ref a_lawOther, .ref a_lawEach, .ref a_lawFrom, .ref a_foes, .ref a_suitTable, .ref a_acts])), (a_first, .inl (cyI, 7, .inl a_f_first)), (a_now, .inl (cyI, 7, .inl a_f_now)), (a_lawPlace, .inl (cyI, 6, .inl a_f_lawPlace)), (a_lawOther, .inl (cyI, 6, .inl a_f_lawOther)), (a_lawEach, .inl (cyI, 6, .inl a_f_lawEach)), (a_lawFrom, .inl (cyI, 6, .inl a_f_lawFrom)), (a_foes, .inl (cyI, 7, .inl a_f_foes)), (a_suitTable, .inl (cyI, 49, .inl a_f_suitTable)), (a_acts, .inl (cyI, 40, .inl a_f_acts))] := (va_D.tt hD_x hD_hall (by decide))
  refine ⟨_, _, _, x_beside l dC dI cyI cyB cyJ cyZ cyH cyN tR tF aK aV st.heap.size x0 h0 a_first a_now a_lawPlace a_lawOther a_lawEach a_lawFrom a_foes a_suitTable a_acts a_pl a_li a_le a_lc a_ac a_ng a_f_first a_f_now a_f_lawPlace a_f_lawOther a_f_lawEach a_f_lawFrom a_f_foes a_f_suitTable a_f_acts t0 d0 im ke sl0 c0 v0 q0 s0 gm0 l0 to tr vsl p0 Fhall_0 Fhall_1 Fhall_2 Fhall_3 Fhall_4 Fhall_5 Fhall_6 Fhall_7 Fhall_8, ⟨ha, rfl, hPa, hK.sub [0, 1, 2, 3, 4, 5] rfl, hDa.weaken (fun _ _ _ _ => trivial), hFX.narrow (ax_of hDa (by decide))⟩, ?_, ax_of hDa (by decide)⟩
  rintro o t ⟨⟨r, u, ho, hr, hP', hD'⟩, hF⟩
  refine ⟨⟨r, (), ho, hr, a_pl, s_n0, s_n1, s_n2, s_n3, t0, h0, d0, im, ke, sl0, c0, v0, q0, s0, gm0, l0, to, tr, vsl, ⟨_, rfl, hP'.sub [0] rfl, hD_x.same rfl⟩,
    h_tape.frame hF hDa (by decide),
    ⟨_, ⟨a_first, a_now, a_lawPlace, a_lawOther, a_lawEach, a_lawFrom, a_foes, a_suitTable, a_acts, a_li, a_le, a_lc, a_ac, a_ng, a_f_first, a_f_now, a_f_lawPlace, a_f_lawOther, a_f_lawEach, a_f_lawFrom, a_f_foes, a_f_suitTable, a_f_acts, Fhall_0, Fhall_1, Fhall_2, Fhall_3, Fhall_4, Fhall_5, Fhall_6, Fhall_7, Fhall_8, rfl⟩, hP'.sub [1, 2, 3, 4, 5, 6, 7, 8, 9, 10] rfl, hD_hall.same rfl⟩,
    h_draft.frame hF hDa (by decide),
    h_images.frame hF hDa (by decide),
    h_kept.frame hF hDa (by decide),
    h_slots.frame hF hDa (by decide),
    h_course.frame hF hDa (by decide),
    h_sight.frame hF hDa (by decide),
    h_parting.frame hF hDa (by decide),
    h_suiting.frame hF hDa (by decide),
    h_game.frame hF hDa (by decide),
    h_lots.frame hF hDa (by decide),
    h_told.frame hF hDa (by decide),
    h_tried.frame hF hDa (by decide),
    hsl.go (tt_keep hF hDa (by decide))⟩, hF.wide (ax_of hDa (by decide))⟩
set_option maxHeartbeats 4000000 in
set_option maxRecDepth 100000 in
theorem wx_quarrels (l : Launch) (dC : Nat → ClassId) (dI : Nat → Nat → Nat) (cyI cyB cyJ cyZ cyH cyN cyM : ClassId) (tR tF : Nat) (aK aV : Nat → Nat) (tg : Nat → Nat) (sz : Nat) (x0 sl : Nat) (ke_f s_fm s_fl s_fw : Nat → Int32)  : Met l yX11_quarrels (wk yX11_quarrels cX11_quarrels 3 (some .int)) ({ frames := 2, cells := 0, slots := 0, locals := 82 }) (va_Pc [.ref x0] (XP dC dI cyI cyB cyJ cyZ cyH cyN cyM tR tF aK aV tg sz x0 sl ke_f s_fm s_fl s_fw)) (va_Qi (fun (r : Int32) (_ : Unit) => True) (fun (_ : Unit) (t : State) => XE dC dI cyI cyB cyJ cyZ cyH cyN cyM tg x0 sl ke_f s_fm s_fl s_fw t.heap) (AX tg sz)) 0 0 (AX tg sz) := by
  refine met_of (fun a st hp => ?_)
  obtain ⟨ha, hsz, ⟨a_pl, s_n0, s_n1, s_n2, s_n3, t0, h0, d0, im, ke, sl0, c0, v0, q0, s0, gm0, l0, to, tr, vsl, hx, h_tape, h_hall, h_draft, h_images, h_kept, h_slots, h_course, h_sight, h_parting, h_suiting, h_game, h_lots, h_told, h_tried, hsl⟩, hK, hNB, hFX⟩ := hp
  subst hsz
  obtain ⟨_, rfl, hP_x, hD_x⟩ := hx
  obtain ⟨_, ⟨a_first, a_now, a_lawPlace, a_lawOther, a_lawEach, a_lawFrom, a_foes, a_suitTable, a_acts, a_li, a_le, a_lc, a_ac, a_ng, a_f_first, a_f_now, a_f_lawPlace, a_f_lawOther, a_f_lawEach, a_f_lawFrom, a_f_foes, a_f_suitTable, a_f_acts, Fhall_0, Fhall_1, Fhall_2, Fhall_3, Fhall_4, Fhall_5, Fhall_6, Fhall_7, Fhall_8, rfl⟩, hP_hall, hD_hall⟩ := h_hall
  have hPa : va_P (dC, dI) vwCl [(x0, .inr (10, [.ref t0, .ref h0, .ref d0, .ref im, .ref ke, .ref sl0, .ref c0, .ref v0, .ref q0, .ref s0, .ref gm0, .ref l0, .ref to, .ref tr, vsl])), (h0, .inr (2, [.int a_pl, .int a_li, .int a_le, .int a_lc, .int a_ac, .int a_ng, .ref a_first, .ref a_now, .ref a_lawPlace, .ref a_lawOther, .ref a_lawEach, .ref a_lawFrom, .ref a_foes, .ref a_suitTable, .ref a_acts])), (a_first, .inl (cyI, 7, .inl a_f_first)), (a_now, .inl (cyI, 7, .inl a_f_now)), (a_lawPlace, .inl (cyI, 6, .inl a_f_lawPlace)), (a_lawOther, .inl (cyI, 6, .inl a_f_lawOther)), (a_lawEach, .inl (cyI, 6, .inl a_f_lawEach)), (a_lawFrom, .inl (cyI, 6, .inl a_f_lawFrom)), (a_foes, .inl (cyI, 7, .inl a_f_foes)), (a_suitTable, .inl (cyI, 49, .inl a_f_suitTable)), (a_acts, .inl (cyI, 40, .inl a_f_acts))] st.heap := va_P.app hP_x hP_hall
  have hDa : va_D (TT tg [0, 2]) [(x0, .inr (10, [.ref t0, .ref h0, .ref d0, .ref im, .ref ke, .ref sl0, .ref c0, .ref v0, .ref q0, .ref s0, .ref gm0, .ref l0, .ref to, .ref tr, vsl])), (h0, .inr (2, [.int a_pl, .int a_li, .int a_le, .int a_lc, .int a_ac, .int a_ng, .ref a_first, .ref a_now, .ref a_lawPlace, .ref a_lawOther, .ref a_lawEach, .ref a_lawFrom, .ref a_foes, .ref a_suitTable, .ref a_acts])), (a_first, .inl (cyI, 7, .inl a_f_first)), (a_now, .inl (cyI, 7, .inl a_f_now)), (a_lawPlace, .inl (cyI, 6, .inl a_f_lawPlace)), (a_lawOther, .inl (cyI, 6, .inl a_f_lawOther)), (a_lawEach, .inl (cyI, 6, .inl a_f_lawEach)), (a_lawFrom, .inl (cyI, 6, .inl a_f_lawFrom)), (a_foes, .inl (cyI, 7, .inl a_f_foes)), (a_suitTable, .inl (cyI, 49, .inl a_f_suitTable)), (a_acts, .inl (cyI, 40, .inl a_f_acts))] := (va_D.tt hD_x hD_hall (by decide))
  refine ⟨_, _, _, x_quarrels l dC dI cyI cyB cyJ cyZ cyH cyN tR tF aK aV st.heap.size x0 h0 a_first a_now a_lawPlace a_lawOther a_lawEach a_lawFrom a_foes a_suitTable a_acts a_pl a_li a_le a_lc a_ac a_ng a_f_first a_f_now a_f_lawPlace a_f_lawOther a_f_lawEach a_f_lawFrom a_f_foes a_f_suitTable a_f_acts t0 d0 im ke sl0 c0 v0 q0 s0 gm0 l0 to tr vsl Fhall_0 Fhall_1 Fhall_2 Fhall_3 Fhall_4 Fhall_5 Fhall_6 Fhall_7 Fhall_8, ⟨ha, rfl, hPa, hK.sub [0, 1, 2, 3, 4, 5] rfl, hDa.weaken (fun _ _ _ _ => trivial), hFX.narrow (ax_of hDa (by decide))⟩, ?_, ax_of hDa (by decide)⟩
  rintro o t ⟨⟨r, u, ho, hr, hP', hD'⟩, hF⟩
  refine ⟨⟨r, (), ho, hr, a_pl, s_n0, s_n1, s_n2, s_n3, t0, h0, d0, im, ke, sl0, c0, v0, q0, s0, gm0, l0, to, tr, vsl, ⟨_, rfl, hP'.sub [0] rfl, hD_x.same rfl⟩,
    h_tape.frame hF hDa (by decide),
    ⟨_, ⟨a_first, a_now, a_lawPlace, a_lawOther, a_lawEach, a_lawFrom, a_foes, a_suitTable, a_acts, a_li, a_le, a_lc, a_ac, a_ng, a_f_first, a_f_now, a_f_lawPlace, a_f_lawOther, a_f_lawEach, a_f_lawFrom, a_f_foes, a_f_suitTable, a_f_acts, Fhall_0, Fhall_1, Fhall_2, Fhall_3, Fhall_4, Fhall_5, Fhall_6, Fhall_7, Fhall_8, rfl⟩, hP'.sub [1, 2, 3, 4, 5, 6, 7, 8, 9, 10] rfl, hD_hall.same rfl⟩,
    h_draft.frame hF hDa (by decide),
    h_images.frame hF hDa (by decide),
    h_kept.frame hF hDa (by decide),
    h_slots.frame hF hDa (by decide),
    h_course.frame hF hDa (by decide),
    h_sight.frame hF hDa (by decide),
    h_parting.frame hF hDa (by decide),
    h_suiting.frame hF hDa (by decide),
    h_game.frame hF hDa (by decide),
    h_lots.frame hF hDa (by decide),
    h_told.frame hF hDa (by decide),
    h_tried.frame hF hDa (by decide),
    hsl.go (tt_keep hF hDa (by decide))⟩, hF.wide (ax_of hDa (by decide))⟩
set_option maxHeartbeats 4000000 in
set_option maxRecDepth 100000 in
theorem wx_finest (l : Launch) (dC : Nat → ClassId) (dI : Nat → Nat → Nat) (cyI cyB cyJ cyZ cyH cyN cyM : ClassId) (tR tF : Nat) (aK aV : Nat → Nat) (tg : Nat → Nat) (sz : Nat) (x0 sl : Nat) (ke_f s_fm s_fl s_fw : Nat → Int32) (p0 : Int32) : Met l yX11_finest (wk yX11_finest cX11_finest 7 (some .int)) ({ frames := 4, cells := 0, slots := 0, locals := 128 }) (va_Pc [.ref x0, .int p0] (XP dC dI cyI cyB cyJ cyZ cyH cyN cyM tR tF aK aV tg sz x0 sl ke_f s_fm s_fl s_fw)) (va_Qi (fun (r : Int32) (_ : Unit) => True) (fun (_ : Unit) (t : State) => XE dC dI cyI cyB cyJ cyZ cyH cyN cyM tg x0 sl ke_f s_fm s_fl s_fw t.heap) (AX tg sz)) 0 0 (AX tg sz) := by
  refine met_of (fun a st hp => ?_)
  obtain ⟨ha, hsz, ⟨a_pl, s_n0, s_n1, s_n2, s_n3, t0, h0, d0, im, ke, sl0, c0, v0, q0, s0, gm0, l0, to, tr, vsl, hx, h_tape, h_hall, h_draft, h_images, h_kept, h_slots, h_course, h_sight, h_parting, h_suiting, h_game, h_lots, h_told, h_tried, hsl⟩, hK, hNB, hFX⟩ := hp
  subst hsz
  obtain ⟨_, rfl, hP_x, hD_x⟩ := hx
  obtain ⟨_, ⟨a_first, a_now, a_lawPlace, a_lawOther, a_lawEach, a_lawFrom, a_foes, a_suitTable, a_acts, a_li, a_le, a_lc, a_ac, a_ng, a_f_first, a_f_now, a_f_lawPlace, a_f_lawOther, a_f_lawEach, a_f_lawFrom, a_f_foes, a_f_suitTable, a_f_acts, Fhall_0, Fhall_1, Fhall_2, Fhall_3, Fhall_4, Fhall_5, Fhall_6, Fhall_7, Fhall_8, rfl⟩, hP_hall, hD_hall⟩ := h_hall
  obtain ⟨_, ⟨c_row, c_origins, c_before, c_lawsByNight, cnum, c_f_row, c_f_origins, c_f_before, c_f_lawsByNight, chv, Fcourse_0, Fcourse_1, Fcourse_2, rfl⟩, hP_course, hD_course⟩ := h_course
  have hPa : va_P (dC, dI) vwCl [(x0, .inr (10, [.ref t0, .ref h0, .ref d0, .ref im, .ref ke, .ref sl0, .ref c0, .ref v0, .ref q0, .ref s0, .ref gm0, .ref l0, .ref to, .ref tr, vsl])), (h0, .inr (2, [.int a_pl, .int a_li, .int a_le, .int a_lc, .int a_ac, .int a_ng, .ref a_first, .ref a_now, .ref a_lawPlace, .ref a_lawOther, .ref a_lawEach, .ref a_lawFrom, .ref a_foes, .ref a_suitTable, .ref a_acts])), (a_first, .inl (cyI, 7, .inl a_f_first)), (a_now, .inl (cyI, 7, .inl a_f_now)), (a_lawPlace, .inl (cyI, 6, .inl a_f_lawPlace)), (a_lawOther, .inl (cyI, 6, .inl a_f_lawOther)), (a_lawEach, .inl (cyI, 6, .inl a_f_lawEach)), (a_lawFrom, .inl (cyI, 6, .inl a_f_lawFrom)), (a_foes, .inl (cyI, 7, .inl a_f_foes)), (a_suitTable, .inl (cyI, 49, .inl a_f_suitTable)), (a_acts, .inl (cyI, 40, .inl a_f_acts)), (c0, .inr (0, [.ref c_row, .ref c_origins, .ref c_before, .ref c_lawsByNight, chv, .int cnum])), (c_row, .inl (cyI, 7, .inl c_f_row)), (c_origins, .inl (cyI, 7, .inl c_f_origins)), (c_before, .inl (cyI, 7, .inl c_f_before)), (c_lawsByNight, .inl (cyI, 60, .inl c_f_lawsByNight))] st.heap := va_P.app hP_x (va_P.app hP_hall hP_course)
  have hDa : va_D (TT tg [0, 2, 7]) [(x0, .inr (10, [.ref t0, .ref h0, .ref d0, .ref im, .ref ke, .ref sl0, .ref c0, .ref v0, .ref q0, .ref s0, .ref gm0, .ref l0, .ref to, .ref tr, vsl])), (h0, .inr (2, [.int a_pl, .int a_li, .int a_le, .int a_lc, .int a_ac, .int a_ng, .ref a_first, .ref a_now, .ref a_lawPlace, .ref a_lawOther, .ref a_lawEach, .ref a_lawFrom, .ref a_foes, .ref a_suitTable, .ref a_acts])), (a_first, .inl (cyI, 7, .inl a_f_first)), (a_now, .inl (cyI, 7, .inl a_f_now)), (a_lawPlace, .inl (cyI, 6, .inl a_f_lawPlace)), (a_lawOther, .inl (cyI, 6, .inl a_f_lawOther)), (a_lawEach, .inl (cyI, 6, .inl a_f_lawEach)), (a_lawFrom, .inl (cyI, 6, .inl a_f_lawFrom)), (a_foes, .inl (cyI, 7, .inl a_f_foes)), (a_suitTable, .inl (cyI, 49, .inl a_f_suitTable)), (a_acts, .inl (cyI, 40, .inl a_f_acts)), (c0, .inr (0, [.ref c_row, .ref c_origins, .ref c_before, .ref c_lawsByNight, chv, .int cnum])), (c_row, .inl (cyI, 7, .inl c_f_row)), (c_origins, .inl (cyI, 7, .inl c_f_origins)), (c_before, .inl (cyI, 7, .inl c_f_before)), (c_lawsByNight, .inl (cyI, 60, .inl c_f_lawsByNight))] := (va_D.tt hD_x (va_D.tt hD_hall hD_course (by decide)) (by decide))
  refine ⟨_, _, _, x_finest l dC dI cyI cyB cyJ cyZ cyH cyN tR tF aK aV st.heap.size x0 h0 a_first a_now a_lawPlace a_lawOther a_lawEach a_lawFrom a_foes a_suitTable a_acts a_pl a_li a_le a_lc a_ac a_ng a_f_first a_f_now a_f_lawPlace a_f_lawOther a_f_lawEach a_f_lawFrom a_f_foes a_f_suitTable a_f_acts c0 c_row c_origins c_before c_lawsByNight cnum c_f_row c_f_origins c_f_before c_f_lawsByNight chv t0 d0 im ke sl0 v0 q0 s0 gm0 l0 to tr vsl p0 Fhall_0 Fhall_1 Fhall_2 Fhall_3 Fhall_4 Fcourse_0 Fcourse_1 Fcourse_2 Fhall_5 Fhall_6 Fhall_7 Fhall_8, ⟨ha, rfl, hPa, hK.sub [0, 1, 2, 3, 4, 5] rfl, hDa.weaken (fun _ _ _ _ => trivial), hFX.narrow (ax_of hDa (by decide))⟩, ?_, ax_of hDa (by decide)⟩
  rintro o t ⟨⟨r, u, ho, hr, z0, z1, y2, y3, P0, hP', hD'⟩, hF⟩
  refine ⟨⟨r, (), ho, hr, a_pl, s_n0, s_n1, s_n2, s_n3, t0, h0, d0, im, ke, sl0, c0, v0, q0, s0, gm0, l0, to, tr, vsl, ⟨_, rfl, hP'.sub [0] rfl, hD_x.same rfl⟩,
    h_tape.frame hF hDa (by decide),
    ⟨_, ⟨a_first, a_now, a_lawPlace, a_lawOther, a_lawEach, a_lawFrom, a_foes, a_suitTable, a_acts, a_li, a_le, a_lc, a_ac, a_ng, a_f_first, a_f_now, a_f_lawPlace, a_f_lawOther, a_f_lawEach, a_f_lawFrom, a_f_foes, a_f_suitTable, a_f_acts, Fhall_0, Fhall_1, Fhall_2, Fhall_3, Fhall_4, Fhall_5, Fhall_6, Fhall_7, Fhall_8, rfl⟩, hP'.sub [1, 2, 3, 4, 5, 6, 7, 8, 9, 10] rfl, hD_hall.same rfl⟩,
    h_draft.frame hF hDa (by decide),
    h_images.frame hF hDa (by decide),
    h_kept.frame hF hDa (by decide),
    h_slots.frame hF hDa (by decide),
    ⟨_, ⟨c_row, c_origins, c_before, c_lawsByNight, z1, y2, c_f_origins, c_f_before, y3, z0, P0, Fcourse_1, Fcourse_2, rfl⟩, hP'.sub [11, 12, 13, 14, 15] rfl, hD_course.same rfl⟩,
    h_sight.frame hF hDa (by decide),
    h_parting.frame hF hDa (by decide),
    h_suiting.frame hF hDa (by decide),
    h_game.frame hF hDa (by decide),
    h_lots.frame hF hDa (by decide),
    h_told.frame hF hDa (by decide),
    h_tried.frame hF hDa (by decide),
    hsl.go (tt_keep hF hDa (by decide))⟩, hF.wide (ax_of hDa (by decide))⟩

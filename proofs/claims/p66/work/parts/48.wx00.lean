set_option maxHeartbeats 4000000 in
set_option maxRecDepth 100000 in
theorem wx_feed (l : Launch) (dC : Nat → ClassId) (dI : Nat → Nat → Nat) (cyI cyB cyJ cyZ cyH cyN cyM : ClassId) (tR tF : Nat) (aK aV : Nat → Nat) (tg : Nat → Nat) (sz : Nat) (x0 sl : Nat) (ke_f s_fm s_fl s_fw : Nat → Int32) (p0 p1 p2 p3 p4 : Int32) : Met l yX11_feed (wk yX11_feed cX11_feed 6 (some .int)) ({ frames := 2, cells := 0, slots := 0, locals := 82 }) (va_Pc [.ref x0, .int p0, .int p1, .int p2, .int p3, .int p4] (XP dC dI cyI cyB cyJ cyZ cyH cyN cyM tR tF aK aV tg sz x0 sl ke_f s_fm s_fl s_fw)) (va_Qi (fun (r : Int32) (_ : Unit) => True) (fun (_ : Unit) (t : State) => XE dC dI cyI cyB cyJ cyZ cyH cyN cyM tg x0 sl ke_f s_fm s_fl s_fw t.heap) (AX tg sz)) 0 0 (AX tg sz) := by
  refine met_of (fun a st hp => ?_)
  obtain ⟨ha, hsz, ⟨a_pl, s_n0, s_n1, s_n2, s_n3, t0, h0, d0, im, ke, sl0, c0, v0, q0, s0, gm0, l0, to, tr, vsl, hx, h_tape, h_hall, h_draft, h_images, h_kept, h_slots, h_course, h_sight, h_parting, h_suiting, h_game, h_lots, h_told, h_tried, hsl⟩, hK, hNB, hFX⟩ := hp
  subst hsz
  obtain ⟨_, rfl, hP_x, hD_x⟩ := hx
  obtain ⟨_, ⟨tBytes, tsz, tfa, tfp, tnx, tki, tst, tsp, tva, tac, t_f, Ftape_0, Ftape_1, Ftape_2, Ftape_3, Ftape_4, Ftape_5, rfl⟩, hP_tape, hD_tape⟩ := h_tape
  have hPa : va_P (dC, dI) vwCl [(x0, .inr (10, [.ref t0, .ref h0, .ref d0, .ref im, .ref ke, .ref sl0, .ref c0, .ref v0, .ref q0, .ref s0, .ref gm0, .ref l0, .ref to, .ref tr, vsl])), (t0, .inr (9, [.ref tBytes, .int tsz, .int tfa, .int tfp, .int tnx, .int tki, .int tst, .int tsp, .int tva, .int tac])), (tBytes, .inl (cyB, 800, .inl t_f))] st.heap := va_P.app hP_x hP_tape
  have hDa : va_D (TT tg [0, 1]) [(x0, .inr (10, [.ref t0, .ref h0, .ref d0, .ref im, .ref ke, .ref sl0, .ref c0, .ref v0, .ref q0, .ref s0, .ref gm0, .ref l0, .ref to, .ref tr, vsl])), (t0, .inr (9, [.ref tBytes, .int tsz, .int tfa, .int tfp, .int tnx, .int tki, .int tst, .int tsp, .int tva, .int tac])), (tBytes, .inl (cyB, 800, .inl t_f))] := (va_D.tt hD_x hD_tape (by decide))
  refine ⟨_, _, _, x_feed l dC dI cyI cyB cyJ cyZ cyH cyN tR tF aK aV st.heap.size x0 t0 tBytes tsz tfa tfp tnx tki tst tsp tva tac t_f h0 d0 im ke sl0 c0 v0 q0 s0 gm0 l0 to tr vsl p0 p1 p2 p3 p4 Ftape_0 Ftape_1 Ftape_2 Ftape_3 Ftape_4 Ftape_5, ⟨ha, rfl, hPa, hK.sub [0, 1, 2, 3, 4, 5] rfl, hDa.weaken (fun _ _ _ _ => trivial), hFX.narrow (ax_of hDa (by decide))⟩, ?_, ax_of hDa (by decide)⟩
  rintro o t ⟨⟨r, u, ho, hr, z0, y1, P0, hP', hD'⟩, hF⟩
  refine ⟨⟨r, (), ho, hr, a_pl, s_n0, s_n1, s_n2, s_n3, t0, h0, d0, im, ke, sl0, c0, v0, q0, s0, gm0, l0, to, tr, vsl, ⟨_, rfl, hP'.sub [0] rfl, hD_x.same rfl⟩,
    ⟨_, ⟨tBytes, z0, tfa, tfp, tnx, tki, tst, tsp, tva, tac, y1, P0, Ftape_1, Ftape_2, Ftape_3, Ftape_4, Ftape_5, rfl⟩, hP'.sub [1, 2] rfl, hD_tape.same rfl⟩,
    h_hall.frame hF hDa (by decide),
    h_draft.frame hF hDa (by decide),
    h_images.frame hF hDa (by decide),
    h_kept.frame hF hDa (by decide),
    h_slots.frame hF hDa (by decide),
    h_course.frame hF hDa (by decide),
    h_sight.frame hF hDa (by decide),
    h_parting.frame hF hDa (by decide),
    h_suiting.frame hF hDa (by decide),
    h_game.frame hF hDa (by decide),
    h_lots.frame hF hDa (by decide),
    h_told.frame hF hDa (by decide),
    h_tried.frame hF hDa (by decide),
    hsl.go (tt_keep hF hDa (by decide))⟩, hF.wide (ax_of hDa (by decide))⟩
set_option maxHeartbeats 4000000 in
set_option maxRecDepth 100000 in
theorem wx_end (l : Launch) (dC : Nat → ClassId) (dI : Nat → Nat → Nat) (cyI cyB cyJ cyZ cyH cyN cyM : ClassId) (tR tF : Nat) (aK aV : Nat → Nat) (tg : Nat → Nat) (sz : Nat) (x0 sl : Nat) (ke_f s_fm s_fl s_fw : Nat → Int32) (p0 : Int32) : Met l yX11_end (wk yX11_end cX11_end 2 (some .int)) ({ frames := 1, cells := 0, slots := 0, locals := 60 }) (va_Pc [.ref x0, .int p0] (XP dC dI cyI cyB cyJ cyZ cyH cyN cyM tR tF aK aV tg sz x0 sl ke_f s_fm s_fl s_fw)) (va_Qi (fun (r : Int32) (_ : Unit) => True) (fun (_ : Unit) (t : State) => XE dC dI cyI cyB cyJ cyZ cyH cyN cyM tg x0 sl ke_f s_fm s_fl s_fw t.heap) (AX tg sz)) 0 0 (AX tg sz) := by
  refine met_of (fun a st hp => ?_)
  obtain ⟨ha, hsz, ⟨a_pl, s_n0, s_n1, s_n2, s_n3, t0, h0, d0, im, ke, sl0, c0, v0, q0, s0, gm0, l0, to, tr, vsl, hx, h_tape, h_hall, h_draft, h_images, h_kept, h_slots, h_course, h_sight, h_parting, h_suiting, h_game, h_lots, h_told, h_tried, hsl⟩, hK, hNB, hFX⟩ := hp
  subst hsz
  obtain ⟨_, rfl, hP_x, hD_x⟩ := hx
  obtain ⟨_, ⟨tBytes, tsz, tfa, tfp, tnx, tki, tst, tsp, tva, tac, t_f, Ftape_0, Ftape_1, Ftape_2, Ftape_3, Ftape_4, Ftape_5, rfl⟩, hP_tape, hD_tape⟩ := h_tape
  have hPa : va_P (dC, dI) vwCl [(x0, .inr (10, [.ref t0, .ref h0, .ref d0, .ref im, .ref ke, .ref sl0, .ref c0, .ref v0, .ref q0, .ref s0, .ref gm0, .ref l0, .ref to, .ref tr, vsl])), (t0, .inr (9, [.ref tBytes, .int tsz, .int tfa, .int tfp, .int tnx, .int tki, .int tst, .int tsp, .int tva, .int tac])), (tBytes, .inl (cyB, 800, .inl t_f))] st.heap := va_P.app hP_x hP_tape
  have hDa : va_D (TT tg [0, 1]) [(x0, .inr (10, [.ref t0, .ref h0, .ref d0, .ref im, .ref ke, .ref sl0, .ref c0, .ref v0, .ref q0, .ref s0, .ref gm0, .ref l0, .ref to, .ref tr, vsl])), (t0, .inr (9, [.ref tBytes, .int tsz, .int tfa, .int tfp, .int tnx, .int tki, .int tst, .int tsp, .int tva, .int tac])), (tBytes, .inl (cyB, 800, .inl t_f))] := (va_D.tt hD_x hD_tape (by decide))
  refine ⟨_, _, _, x_end l dC dI cyI cyB cyJ cyZ cyH cyN tR tF aK aV st.heap.size x0 t0 tBytes tsz tfa tfp tnx tki tst tsp tva tac t_f h0 d0 im ke sl0 c0 v0 q0 s0 gm0 l0 to tr vsl p0 Ftape_0 Ftape_1 Ftape_2 Ftape_3 Ftape_4 Ftape_5, ⟨ha, rfl, hPa, hK.sub [0, 1, 2, 3, 4, 5] rfl, hDa.weaken (fun _ _ _ _ => trivial), hFX.narrow (ax_of hDa (by decide))⟩, ?_, ax_of hDa (by decide)⟩
  rintro o t ⟨⟨r, u, ho, hr, z0, P0, hP', hD'⟩, hF⟩
  refine ⟨⟨r, (), ho, hr, a_pl, s_n0, s_n1, s_n2, s_n3, t0, h0, d0, im, ke, sl0, c0, v0, q0, s0, gm0, l0, to, tr, vsl, ⟨_, rfl, hP'.sub [0] rfl, hD_x.same rfl⟩,
    ⟨_, ⟨tBytes, z0, tfa, tfp, tnx, tki, tst, tsp, tva, tac, t_f, P0, Ftape_1, Ftape_2, Ftape_3, Ftape_4, Ftape_5, rfl⟩, hP'.sub [1, 2] rfl, hD_tape.same rfl⟩,
    h_hall.frame hF hDa (by decide),
    h_draft.frame hF hDa (by decide),
    h_images.frame hF hDa (by decide),
    h_kept.frame hF hDa (by decide),
    h_slots.frame hF hDa (by decide),
    h_course.frame hF hDa (by decide),
    h_sight.frame hF hDa (by decide),
    h_parting.frame hF hDa (by decide),
    h_suiting.frame hF hDa (by decide),
    h_game.frame hF hDa (by decide),
    h_lots.frame hF hDa (by decide),
    h_told.frame hF hDa (by decide),
    h_tried.frame hF hDa (by decide),
    hsl.go (tt_keep hF hDa (by decide))⟩, hF.wide (ax_of hDa (by decide))⟩
set_option maxHeartbeats 4000000 in
set_option maxRecDepth 100000 in
theorem wx_hall (l : Launch) (dC : Nat → ClassId) (dI : Nat → Nat → Nat) (cyI cyB cyJ cyZ cyH cyN cyM : ClassId) (tR tF : Nat) (aK aV : Nat → Nat) (tg : Nat → Nat) (sz : Nat) (x0 sl : Nat) (ke_f s_fm s_fl s_fw : Nat → Int32)  : Met l yX11_hall (wk yX11_hall cX11_hall 1 (some .int)) ({ frames := 10, cells := 0, slots := 0, locals := 255 }) (va_Pc [.ref x0] (XP dC dI cyI cyB cyJ cyZ cyH cyN cyM tR tF aK aV tg sz x0 sl ke_f s_fm s_fl s_fw)) (va_Qi (fun (r : Int32) (_ : Unit) => True) (fun (_ : Unit) (t : State) => XE dC dI cyI cyB cyJ cyZ cyH cyN cyM tg x0 sl ke_f s_fm s_fl s_fw t.heap) (AX tg sz)) 0 0 (AX tg sz) := by
  refine met_of (fun a st hp => ?_)
  obtain ⟨ha, hsz, ⟨a_pl, s_n0, s_n1, s_n2, s_n3, t0, h0, d0, im, ke, sl0, c0, v0, q0, s0, gm0, l0, to, tr, vsl, hx, h_tape, h_hall, h_draft, h_images, h_kept, h_slots, h_course, h_sight, h_parting, h_suiting, h_game, h_lots, h_told, h_tried, hsl⟩, hK, hNB, hFX⟩ := hp
  subst hsz
  obtain ⟨_, rfl, hP_x, hD_x⟩ := hx
  obtain ⟨_, ⟨tBytes, tsz, tfa, tfp, tnx, tki, tst, tsp, tva, tac, t_f, Ftape_0, Ftape_1, Ftape_2, Ftape_3, Ftape_4, Ftape_5, rfl⟩, hP_tape, hD_tape⟩ := h_tape
  obtain ⟨_, ⟨b_pl, b_first, b_now, b_lawPlace, b_lawOther, b_lawEach, b_lawFrom, b_foes, b_suitTable, b_acts, b_li, b_le, b_lc, b_ac, b_ng, b_f_first, b_f_now, b_f_lawPlace, b_f_lawOther, b_f_lawEach, b_f_lawFrom, b_f_foes, b_f_suitTable, b_f_acts, Fdraft_0, Fdraft_1, Fdraft_2, Fdraft_3, Fdraft_4, Fdraft_5, Fdraft_6, Fdraft_7, Fdraft_8, rfl⟩, hP_draft, hD_draft⟩ := h_draft
  obtain ⟨_, ⟨a_first, a_now, a_lawPlace, a_lawOther, a_lawEach, a_lawFrom, a_foes, a_suitTable, a_acts, a_li, a_le, a_lc, a_ac, a_ng, a_f_first, a_f_now, a_f_lawPlace, a_f_lawOther, a_f_lawEach, a_f_lawFrom, a_f_foes, a_f_suitTable, a_f_acts, Fhall_0, Fhall_1, Fhall_2, Fhall_3, Fhall_4, Fhall_5, Fhall_6, Fhall_7, Fhall_8, rfl⟩, hP_hall, hD_hall⟩ := h_hall
  have hPa : va_P (dC, dI) vwCl [(x0, .inr (10, [.ref t0, .ref h0, .ref d0, .ref im, .ref ke, .ref sl0, .ref c0, .ref v0, .ref q0, .ref s0, .ref gm0, .ref l0, .ref to, .ref tr, vsl])), (t0, .inr (9, [.ref tBytes, .int tsz, .int tfa, .int tfp, .int tnx, .int tki, .int tst, .int tsp, .int tva, .int tac])), (tBytes, .inl (cyB, 800, .inl t_f)), (d0, .inr (2, [.int b_pl, .int b_li, .int b_le, .int b_lc, .int b_ac, .int b_ng, .ref b_first, .ref b_now, .ref b_lawPlace, .ref b_lawOther, .ref b_lawEach, .ref b_lawFrom, .ref b_foes, .ref b_suitTable, .ref b_acts])), (b_first, .inl (cyI, 7, .inl b_f_first)), (b_now, .inl (cyI, 7, .inl b_f_now)), (b_lawPlace, .inl (cyI, 6, .inl b_f_lawPlace)), (b_lawOther, .inl (cyI, 6, .inl b_f_lawOther)), (b_lawEach, .inl (cyI, 6, .inl b_f_lawEach)), (b_lawFrom, .inl (cyI, 6, .inl b_f_lawFrom)), (b_foes, .inl (cyI, 7, .inl b_f_foes)), (b_suitTable, .inl (cyI, 49, .inl b_f_suitTable)), (b_acts, .inl (cyI, 40, .inl b_f_acts)), (h0, .inr (2, [.int a_pl, .int a_li, .int a_le, .int a_lc, .int a_ac, .int a_ng, .ref a_first, .ref a_now, .ref a_lawPlace, .ref a_lawOther, .ref a_lawEach, .ref a_lawFrom, .ref a_foes, .ref a_suitTable, .ref a_acts])), (a_first, .inl (cyI, 7, .inl a_f_first)), (a_now, .inl (cyI, 7, .inl a_f_now)), (a_lawPlace, .inl (cyI, 6, .inl a_f_lawPlace)), (a_lawOther, .inl (cyI, 6, .inl a_f_lawOther)), (a_lawEach, .inl (cyI, 6, .inl a_f_lawEach)), (a_lawFrom, .inl (cyI, 6, .inl a_f_lawFrom)), (a_foes, .inl (cyI, 7, .inl a_f_foes)), (a_suitTable, .inl (cyI, 49, .inl a_f_suitTable)), (a_acts, .inl (cyI, 40, .inl a_f_acts))] st.heap := va_P.app hP_x (va_P.app hP_tape (va_P.app hP_draft hP_hall))
  have hDa : va_D (TT tg [0, 1, 3, 2]) [(x0, .inr (10, [.ref t0, .ref h0, .ref d0, .ref im, .ref ke, .ref sl0, .ref c0, .ref v0, .ref q0, .ref s0, .ref gm0, .ref l0, .ref to, .ref tr, vsl])), (t0, .inr (9, [.ref tBytes, .int tsz, .int tfa, .int tfp, .int tnx, .int tki, .int tst, .int tsp, .int tva, .int tac])), (tBytes, .inl (cyB, 800, .inl t_f)), (d0, .inr (2, [.int b_pl, .int b_li, .int b_le, .int b_lc, .int b_ac, .int b_ng, .ref b_first, .ref b_now, .ref b_lawPlace, .ref b_lawOther, .ref b_lawEach, .ref b_lawFrom, .ref b_foes, .ref b_suitTable, .ref b_acts])), (b_first, .inl (cyI, 7, .inl b_f_first)), (b_now, .inl (cyI, 7, .inl b_f_now)), (b_lawPlace, .inl (cyI, 6, .inl b_f_lawPlace)), (b_lawOther, .inl (cyI, 6, .inl b_f_lawOther)), (b_lawEach, .inl (cyI, 6, .inl b_f_lawEach)), (b_lawFrom, .inl (cyI, 6, .inl b_f_lawFrom)), (b_foes, .inl (cyI, 7, .inl b_f_foes)), (b_suitTable, .inl (cyI, 49, .inl b_f_suitTable)), (b_acts, .inl (cyI, 40, .inl b_f_acts)), (h0, .inr (2, [.int a_pl, .int a_li, .int a_le, .int a_lc, .int a_ac, .int a_ng, .ref a_first, .ref a_now, .ref a_lawPlace, .ref a_lawOther, .ref a_lawEach, .ref a_lawFrom, .ref a_foes, .ref a_suitTable, .ref a_acts])), (a_first, .inl (cyI, 7, .inl a_f_first)), (a_now, .inl (cyI, 7, .inl a_f_now)), (a_lawPlace, .inl (cyI, 6, .inl a_f_lawPlace)), (a_lawOther, .inl (cyI, 6, .inl a_f_lawOther)), (a_lawEach, .inl (cyI, 6, .inl a_f_lawEach)), (a_lawFrom, .inl (cyI, 6, .inl a_f_lawFrom)), (a_foes, .inl (cyI, 7, .inl a_f_foes)), (a_suitTable, .inl (cyI, 49, .inl a_f_suitTable)), (a_acts, .inl (cyI, 40, .inl a_f_acts))] := (va_D.tt hD_x (va_D.tt hD_tape (va_D.tt hD_draft hD_hall (by decide)) (by decide)) (by decide))
  refine ⟨_, _, _, x_hall l dC dI cyI cyB cyJ cyZ cyH cyN tR tF aK aV st.heap.size x0 t0 tBytes tsz tfa tfp tnx tki tst tsp tva tac t_f d0 b_first b_now b_lawPlace b_lawOther b_lawEach b_lawFrom b_foes b_suitTable b_acts b_pl b_li b_le b_lc b_ac b_ng b_f_first b_f_now b_f_lawPlace b_f_lawOther b_f_lawEach b_f_lawFrom b_f_foes b_f_suitTable b_f_acts h0 a_first a_now a_lawPlace a_lawOther a_lawEach a_lawFrom a_foes a_suitTable a_acts a_pl a_li a_le a_lc a_ac a_ng a_f_first a_f_now a_f_lawPlace a_f_lawOther a_f_lawEach a_f_lawFrom a_f_foes a_f_suitTable a_f_acts im ke sl0 c0 v0 q0 s0 gm0 l0 to tr vsl Fdraft_0 Fdraft_1 Fdraft_2 Fdraft_3 Fdraft_4 Fhall_0 Fhall_1 Fhall_2 Fhall_3 Fhall_4 Ftape_0 Ftape_1 Ftape_2 Ftape_3 Ftape_4 Ftape_5 Fdraft_5 Fdraft_6 Fdraft_7 Fhall_5 Fhall_6 Fhall_7 Fdraft_8 Fhall_8, ⟨ha, rfl, hPa, hK.sub [0, 1, 2, 3, 4, 5] rfl, hDa.weaken (fun _ _ _ _ => trivial), hFX.narrow (ax_of hDa (by decide))⟩, ?_, ax_of hDa (by decide)⟩
  rintro o t ⟨⟨r, u, ho, hr, z0, z1, z2, z3, z4, z5, z6, z7, z8, z9, z10, z11, z12, z13, z14, y15, y16, y17, y18, y19, y20, y21, y22, z23, z24, z25, z26, z27, z28, y29, y30, y31, y32, y33, y34, y35, y36, y37, P0, P1, P2, P3, P4, P5, P6, P7, P8, P9, P10, P11, P12, P13, P14, P15, P16, P17, P18, P19, P20, P21, P22, P23, hP', hD'⟩, hF⟩
  refine ⟨⟨r, (), ho, hr, z23, s_n0, s_n1, s_n2, s_n3, t0, h0, d0, im, ke, sl0, c0, v0, q0, s0, gm0, l0, to, tr, vsl, ⟨_, rfl, hP'.sub [0] rfl, hD_x.same rfl⟩,
    ⟨_, ⟨tBytes, z0, z1, z2, z3, z4, z5, z6, z7, z8, t_f, P0, P1, P2, P3, P4, P5, rfl⟩, hP'.sub [1, 2] rfl, hD_tape.same rfl⟩,
    ⟨_, ⟨a_first, a_now, a_lawPlace, a_lawOther, a_lawEach, a_lawFrom, a_foes, a_suitTable, a_acts, z24, z25, z26, z27, z28, y29, y30, y31, y32, y33, y34, y35, y36, y37, P17, P18, P19, P20, P21, P14, P15, P16, P23, rfl⟩, hP'.sub [13, 14, 15, 16, 17, 18, 19, 20, 21, 22] rfl, hD_hall.same rfl⟩,
    ⟨_, ⟨z9, b_first, b_now, b_lawPlace, b_lawOther, b_lawEach, b_lawFrom, b_foes, b_suitTable, b_acts, z10, z11, z12, z13, z14, y15, y16, y17, y18, y19, y20, y21, y22, b_f_acts, P10, P11, P12, P13, Fdraft_4, P6, P7, P8, P22, rfl⟩, hP'.sub [3, 4, 5, 6, 7, 8, 9, 10, 11, 12] rfl, hD_draft.same rfl⟩,
    h_images.frame hF hDa (by decide),
    h_kept.frame hF hDa (by decide),
    h_slots.frame hF hDa (by decide),
    h_course.frame hF hDa (by decide),
    h_sight.frame hF hDa (by decide),
    h_parting.frame hF hDa (by decide),
    h_suiting.frame hF hDa (by decide),
    h_game.frame hF hDa (by decide),
    h_lots.frame hF hDa (by decide),
    h_told.frame hF hDa (by decide),
    h_tried.frame hF hDa (by decide),
    hsl.go (tt_keep hF hDa (by decide))⟩, hF.wide (ax_of hDa (by decide))⟩
set_option maxHeartbeats 4000000 in
set_option maxRecDepth 100000 in
theorem wx_fault (l : Launch) (dC : Nat → ClassId) (dI : Nat → Nat → Nat) (cyI cyB cyJ cyZ cyH cyN cyM : ClassId) (tR tF : Nat) (aK aV : Nat → Nat) (tg : Nat → Nat) (sz : Nat) (x0 sl : Nat) (ke_f s_fm s_fl s_fw : Nat → Int32) (p0 : Int32) : Met l yX11_fault (wk yX11_fault cX11_fault 2 (some .int)) ({ frames := 1, cells := 0, slots := 0, locals := 60 }) (va_Pc [.ref x0, .int p0] (XP dC dI cyI cyB cyJ cyZ cyH cyN cyM tR tF aK aV tg sz x0 sl ke_f s_fm s_fl s_fw)) (va_Qi (fun (r : Int32) (_ : Unit) => True) (fun (_ : Unit) (t : State) => XE dC dI cyI cyB cyJ cyZ cyH cyN cyM tg x0 sl ke_f s_fm s_fl s_fw t.heap) (AX tg sz)) 0 0 (AX tg sz) := by
  refine met_of (fun a st hp => ?_)
  obtain ⟨ha, hsz, ⟨a_pl, s_n0, s_n1, s_n2, s_n3, t0, h0, d0, im, ke, sl0, c0, v0, q0, s0, gm0, l0, to, tr, vsl, hx, h_tape, h_hall, h_draft, h_images, h_kept, h_slots, h_course, h_sight, h_parting, h_suiting, h_game, h_lots, h_told, h_tried, hsl⟩, hK, hNB, hFX⟩ := hp
  subst hsz
  obtain ⟨_, rfl, hP_x, hD_x⟩ := hx
  obtain ⟨_, ⟨tBytes, tsz, tfa, tfp, tnx, tki, tst, tsp, tva, tac, t_f, Ftape_0, Ftape_1, Ftape_2, Ftape_3, Ftape_4, Ftape_5, rfl⟩, hP_tape, hD_tape⟩ := h_tape
  have hPa : va_P (dC, dI) vwCl [(x0, .inr (10, [.ref t0, .ref h0, .ref d0, .ref im, .ref ke, .ref sl0, .ref c0, .ref v0, .ref q0, .ref s0, .ref gm0, .ref l0, .ref to, .ref tr, vsl])), (t0, .inr (9, [.ref tBytes, .int tsz, .int tfa, .int tfp, .int tnx, .int tki, .int tst, .int tsp, .int tva, .int tac])), (tBytes, .inl (cyB, 800, .inl t_f))] st.heap := va_P.app hP_x hP_tape
  have hDa : va_D (TT tg [0, 1]) [(x0, .inr (10, [.ref t0, .ref h0, .ref d0, .ref im, .ref ke, .ref sl0, .ref c0, .ref v0, .ref q0, .ref s0, .ref gm0, .ref l0, .ref to, .ref tr, vsl])), (t0, .inr (9, [.ref tBytes, .int tsz, .int tfa, .int tfp, .int tnx, .int tki, .int tst, .int tsp, .int tva, .int tac])), (tBytes, .inl (cyB, 800, .inl t_f))] := (va_D.tt hD_x hD_tape (by decide))
  refine ⟨_, _, _, x_fault l dC dI cyI cyB cyJ cyZ cyH cyN tR tF aK aV st.heap.size x0 t0 tBytes tsz tfa tfp tnx tki tst tsp tva tac t_f h0 d0 im ke sl0 c0 v0 q0 s0 gm0 l0 to tr vsl p0 Ftape_0 Ftape_1 Ftape_2 Ftape_3 Ftape_4 Ftape_5, ⟨ha, rfl, hPa, hK.sub [0, 1, 2, 3, 4, 5] rfl, hDa.weaken (fun _ _ _ _ => trivial), hFX.narrow (ax_of hDa (by decide))⟩, ?_, ax_of hDa (by decide)⟩
  rintro o t ⟨⟨r, u, ho, hr, hP', hD'⟩, hF⟩
  refine ⟨⟨r, (), ho, hr, a_pl, s_n0, s_n1, s_n2, s_n3, t0, h0, d0, im, ke, sl0, c0, v0, q0, s0, gm0, l0, to, tr, vsl, ⟨_, rfl, hP'.sub [0] rfl, hD_x.same rfl⟩,
    ⟨_, ⟨tBytes, tsz, tfa, tfp, tnx, tki, tst, tsp, tva, tac, t_f, Ftape_0, Ftape_1, Ftape_2, Ftape_3, Ftape_4, Ftape_5, rfl⟩, hP'.sub [1, 2] rfl, hD_tape.same rfl⟩,
    h_hall.frame hF hDa (by decide),
    h_draft.frame hF hDa (by decide),
    h_images.frame hF hDa (by decide),
    h_kept.frame hF hDa (by decide),
    h_slots.frame hF hDa (by decide),
    h_course.frame hF hDa (by decide),
    h_sight.frame hF hDa (by decide),
    h_parting.frame hF hDa (by decide),
    h_suiting.frame hF hDa (by decide),
    h_game.frame hF hDa (by decide),
    h_lots.frame hF hDa (by decide),
    h_told.frame hF hDa (by decide),
    h_tried.frame hF hDa (by decide),
    hsl.go (tt_keep hF hDa (by decide))⟩, hF.wide (ax_of hDa (by decide))⟩
set_option maxHeartbeats 4000000 in
set_option maxRecDepth 100000 in
theorem wx_law (l : Launch) (dC : Nat → ClassId) (dI : Nat → Nat → Nat) (cyI cyB cyJ cyZ cyH cyN cyM : ClassId) (tR tF : Nat) (aK aV : Nat → Nat) (tg : Nat → Nat) (sz : Nat) (x0 sl : Nat) (ke_f s_fm s_fl s_fw : Nat → Int32) (p0 p1 : Int32) : Met l yX11_law (wk yX11_law cX11_law 3 (some .int)) ({ frames := 1, cells := 0, slots := 0, locals := 60 }) (va_Pc [.ref x0, .int p0, .int p1] (XP dC dI cyI cyB cyJ cyZ cyH cyN cyM tR tF aK aV tg sz x0 sl ke_f s_fm s_fl s_fw)) (va_Qi (fun (r : Int32) (_ : Unit) => True) (fun (_ : Unit) (t : State) => XE dC dI cyI cyB cyJ cyZ cyH cyN cyM tg x0 sl ke_f s_fm s_fl s_fw t.heap) (AX tg sz)) 0 0 (AX tg sz) := by
  refine met_of (fun a st hp => ?_)
  obtain ⟨ha, hsz, ⟨a_pl, s_n0, s_n1, s_n2, s_n3, t0, h0, d0, im, ke, sl0, c0, v0, q0, s0, gm0, l0, to, tr, vsl, hx, h_tape, h_hall, h_draft, h_images, h_kept, h_slots, h_course, h_sight, h_parting, h_suiting, h_game, h_lots, h_told, h_tried, hsl⟩, hK, hNB, hFX⟩ := hp
  subst hsz
  obtain ⟨_, rfl, hP_x, hD_x⟩ := hx
  obtain ⟨_, ⟨a_first, a_now, a_lawPlace, a_lawOther, a_lawEach, a_lawFrom, a_foes, a_suitTable, a_acts, a_li, a_le, a_lc, a_ac, a_ng, a_f_first, a_f_now, a_f_lawPlace, a_f_lawOther, a_f_lawEach, a_f_lawFrom, a_f_foes, a_f_suitTable, a_f_acts, Fhall_0, Fhall_1, Fhall_2, Fhall_3, Fhall_4, Fhall_5, Fhall_6, Fhall_7, Fhall_8, rfl⟩, hP_hall, hD_hall⟩ := h_hall
  have hPa : va_P (dC, dI) vwCl [(x0, .inr (10, [.ref t0, .ref h0, .ref d0, .ref im, .ref ke, .ref sl0, .ref c0, .ref v0, .ref q0, .ref s0, .ref gm0, .ref l0, .ref to, .ref tr, vsl])), (h0, .inr (2, [.int a_pl, .int a_li, .int a_le, .int a_lc, .int a_ac, .int a_ng, .ref a_first, .ref a_now, .ref a_lawPlace, .ref a_lawOther, .ref a_lawEach, .ref a_lawFrom, .ref a_foes, .ref a_suitTable, .ref a_acts])), (a_first, .inl (cyI, 7, .inl a_f_first)), (a_now, .inl (cyI, 7, .inl a_f_now)), (a_lawPlace, .inl (cyI, 6, .inl a_f_lawPlace)), (a_lawOther, .inl (cyI, 6, .inl a_f_lawOther)), (a_lawEach, .inl (cyI, 6, .inl a_f_lawEach)), (a_lawFrom, .inl (cyI, 6, .inl a_f_lawFrom)), (a_foes, .inl (cyI, 7, .inl a_f_foes)), (a_suitTable, .inl (cyI, 49, .inl a_f_suitTable)), (a_acts, .inl (cyI, 40, .inl a_f_acts))] st.heap := va_P.app hP_x hP_hall
  have hDa : va_D (TT tg [0, 2]) [(x0, .inr (10, [.ref t0, .ref h0, .ref d0, .ref im, .ref ke, .ref sl0, .ref c0, .ref v0, .ref q0, .ref s0, .ref gm0, .ref l0, .ref to, .ref tr, vsl])), (h0, .inr (2, [.int a_pl, .int a_li, .int a_le, .int a_lc, .int a_ac, .int a_ng, .ref a_first, .ref a_now, .ref a_lawPlace, .ref a_lawOther, .ref a_lawEach, .ref a_lawFrom, .ref a_foes, .ref a_suitTable, .ref a_acts])), (a_first, .inl (cyI, 7, .inl a_f_first)), (a_now, .inl (cyI, 7, .inl a_f_now)), (a_lawPlace, .inl (cyI, 6, .inl a_f_lawPlace)), (a_lawOther, .inl (cyI, 6, .inl a_f_lawOther)), (a_lawEach, .inl (cyI, 6, .inl a_f_lawEach)), (a_lawFrom, .inl (cyI, 6, .inl a_f_lawFrom)), (a_foes, .inl (cyI, 7, .inl a_f_foes)), (a_suitTable, .inl (cyI, 49, .inl a_f_suitTable)), (a_acts, .inl (cyI, 40, .inl a_f_acts))] := (va_D.tt hD_x hD_hall (by decide))
  refine ⟨_, _, _, x_law l dC dI cyI cyB cyJ cyZ cyH cyN tR tF aK aV st.heap.size x0 h0 a_first a_now a_lawPlace a_lawOther a_lawEach a_lawFrom a_foes a_suitTable a_acts a_pl a_li a_le a_lc a_ac a_ng a_f_first a_f_now a_f_lawPlace a_f_lawOther a_f_lawEach a_f_lawFrom a_f_foes a_f_suitTable a_f_acts t0 d0 im ke sl0 c0 v0 q0 s0 gm0 l0 to tr vsl p0 p1 Fhall_0 Fhall_1 Fhall_2 Fhall_3 Fhall_4 Fhall_5 Fhall_6 Fhall_7 Fhall_8, ⟨ha, rfl, hPa, hK.sub [0, 1, 2, 3, 4, 5] rfl, hDa.weaken (fun _ _ _ _ => trivial), hFX.narrow (ax_of hDa (by decide))⟩, ?_, ax_of hDa (by decide)⟩
  rintro o t ⟨⟨r, u, ho, hr, hP', hD'⟩, hF⟩
  refine ⟨⟨r, (), ho, hr, a_pl, s_n0, s_n1, s_n2, s_n3, t0, h0, d0, im, ke, sl0, c0, v0, q0, s0, gm0, l0, to, tr, vsl, ⟨_, rfl, hP'.sub [0] rfl, hD_x.same rfl⟩,
    h_tape.frame hF hDa (by decide),
    ⟨_, ⟨a_first, a_now, a_lawPlace, a_lawOther, a_lawEach, a_lawFrom, a_foes, a_suitTable, a_acts, a_li, a_le, a_lc, a_ac, a_ng, a_f_first, a_f_now, a_f_lawPlace, a_f_lawOther, a_f_lawEach, a_f_lawFrom, a_f_foes, a_f_suitTable, a_f_acts, Fhall_0, Fhall_1, Fhall_2, Fhall_3, Fhall_4, Fhall_5, Fhall_6, Fhall_7, Fhall_8, rfl⟩, hP'.sub [1, 2, 3, 4, 5, 6, 7, 8, 9, 10] rfl, hD_hall.same rfl⟩,
    h_draft.frame hF hDa (by decide),
    h_images.frame hF hDa (by decide),
    h_kept.frame hF hDa (by decide),
    h_slots.frame hF hDa (by decide),
    h_course.frame hF hDa (by decide),
    h_sight.frame hF hDa (by decide),
    h_parting.frame hF hDa (by decide),
    h_suiting.frame hF hDa (by decide),
    h_game.frame hF hDa (by decide),
    h_lots.frame hF hDa (by decide),
    h_told.frame hF hDa (by decide),
    h_tried.frame hF hDa (by decide),
    hsl.go (tt_keep hF hDa (by decide))⟩, hF.wide (ax_of hDa (by decide))⟩
set_option maxHeartbeats 4000000 in
set_option maxRecDepth 100000 in
theorem wx_suits (l : Launch) (dC : Nat → ClassId) (dI : Nat → Nat → Nat) (cyI cyB cyJ cyZ cyH cyN cyM : ClassId) (tR tF : Nat) (aK aV : Nat → Nat) (tg : Nat → Nat) (sz : Nat) (x0 sl : Nat) (ke_f s_fm s_fl s_fw : Nat → Int32) (p0 p1 : Int32) : Met l yX11_suits (wk yX11_suits cX11_suits 3 (some .int)) ({ frames := 2, cells := 0, slots := 0, locals := 82 }) (va_Pc [.ref x0, .int p0, .int p1] (XP dC dI cyI cyB cyJ cyZ cyH cyN cyM tR tF aK aV tg sz x0 sl ke_f s_fm s_fl s_fw)) (va_Qi (fun (r : Int32) (_ : Unit) => True) (fun (_ : Unit) (t : State) => XE dC dI cyI cyB cyJ cyZ cyH cyN cyM tg x0 sl ke_f s_fm s_fl s_fw t.heap) (AX tg sz)) 0 0 (AX tg sz) := by
  refine met_of (fun a st hp => ?_)
  obtain ⟨ha, hsz, ⟨a_pl, s_n0, s_n1, s_n2, s_n3, t0, h0, d0, im, ke, sl0, c0, v0, q0, s0, gm0, l0, to, tr, vsl, hx, h_tape, h_hall, h_draft, h_images, h_kept, h_slots, h_course, h_sight, h_parting, h_suiting, h_game, h_lots, h_told, h_tried, hsl⟩, hK, hNB, hFX⟩ := hp
  subst hsz
  obtain ⟨_, rfl, hP_x, hD_x⟩ := hx
  obtain ⟨_, ⟨a_first, a_now, a_lawPlace, a_lawOther, a_lawEach, a_lawFrom, a_foes, a_suitTable, a_acts, a_li, a_le, a_lc, a_ac, a_ng, a_f_first, a_f_now, a_f_lawPlace, a_f_lawOther, a_f_lawEach, a_f_lawFrom, a_f_foes, a_f_suitTable, a_f_acts, Fhall_0, Fhall_1, Fhall_2, Fhall_3, Fhall_4, Fhall_5, Fhall_6, Fhall_7, Fhall_8, rfl⟩, hP_hall, hD_hall⟩ := h_hall
  have hPa : va_P (dC, dI) vwCl [(x0, .inr (10, [.ref t0, .ref h0, .ref d0, .ref im, .ref ke, .ref sl0, .ref c0, .ref v0, .ref q0, .ref s0, .ref gm0, .ref l0, .ref to, .ref tr, vsl])), (h0, .inr (2, [.int a_pl, .int a_li, .int a_le, .int a_lc, .int a_ac, .int a_ng, .ref a_first, .ref a_now, .ref a_lawPlace, .ref a_lawOther, .ref a_lawEach, .ref a_lawFrom, .ref a_foes, .ref a_suitTable, .ref a_acts])), (a_first, .inl (cyI, 7, .inl a_f_first)), (a_now, .inl (cyI, 7, .inl a_f_now)), (a_lawPlace, .inl (cyI, 6, .inl a_f_lawPlace)), (a_lawOther, .inl (cyI, 6, .inl a_f_lawOther)), (a_lawEach, .inl (cyI, 6, .inl a_f_lawEach)), (a_lawFrom, .inl (cyI, 6, .inl a_f_lawFrom)), (a_foes, .inl (cyI, 7, .inl a_f_foes)), (a_suitTable, .inl (cyI, 49, .inl a_f_suitTable)), (a_acts, .inl (cyI, 40, .inl a_f_acts))] st.heap := va_P.app hP_x hP_hall
  have hDa : va_D (TT tg [0, 2]) [(x0, .inr (10, [.ref t0, .ref h0, .ref d0, .ref im, .ref ke, .ref sl0, .ref c0, .ref v0, .ref q0, .ref s0, .ref gm0, .ref l0, .ref to, .ref tr, vsl])), (h0, .inr (2, [.int a_pl, .int a_li, .int a_le, .int a_lc, .int a_ac, .int a_ng, .ref a_first, .ref a_now, .ref a_lawPlace, .ref a_lawOther, .ref a_lawEach, .ref a_lawFrom, .ref a_foes, .ref a_suitTable, .ref a_acts])), (a_first, .inl (cyI, 7, .inl a_f_first)), (a_now, .inl (cyI, 7, .inl a_f_now)), (a_lawPlace, .inl (cyI, 6, .inl a_f_lawPlace)), (a_lawOther, .inl (cyI, 6, .inl a_f_lawOther)), (a_lawEach, .inl (cyI, 6, .inl a_f_lawEach)), (a_lawFrom, .inl (cyI, 6, .inl a_f_lawFrom)), (a_foes, .inl (cyI, 7, .inl a_f_foes)), (a_suitTable, .inl (cyI, 49, .inl a_f_suitTable)), (a_acts, .inl (cyI, 40, .inl a_f_acts))] := (va_D.tt hD_x hD_hall (by decide))
  refine ⟨_, _, _, x_suits l dC dI cyI cyB cyJ cyZ cyH cyN tR tF aK aV st.heap.size x0 h0 a_first a_now a_lawPlace a_lawOther a_lawEach a_lawFrom a_foes a_suitTable a_acts a_pl a_li a_le a_lc a_ac a_ng a_f_first a_f_now a_f_lawPlace a_f_lawOther a_f_lawEach a_f_lawFrom a_f_foes a_f_suitTable a_f_acts t0 d0 im ke sl0 c0 v0 q0 s0 gm0 l0 to tr vsl p0 p1 Fhall_0 Fhall_1 Fhall_2 Fhall_3 Fhall_4 Fhall_5 Fhall_6 Fhall_7 Fhall_8, ⟨ha, rfl, hPa, hK.sub [0, 1, 2, 3, 4, 5] rfl, hDa.weaken (fun _ _ _ _ => trivial), hFX.narrow (ax_of hDa (by decide))⟩, ?_, ax_of hDa (by decide)⟩
  rintro o t ⟨⟨r, u, ho, hr, hP', hD'⟩, hF⟩
  refine ⟨⟨r, (), ho, hr, a_pl, s_n0, s_n1, s_n2, s_n3, t0, h0, d0, im, ke, sl0, c0, v0, q0, s0, gm0, l0, to, tr, vsl, ⟨_, rfl, hP'.sub [0] rfl, hD_x.same rfl⟩,
    h_tape.frame hF hDa (by decide),
    ⟨_, ⟨a_first, a_now, a_lawPlace, a_lawOther, a_lawEach, a_lawFrom, a_foes, a_suitTable, a_acts, a_li, a_le, a_lc, a_ac, a_ng, a_f_first, a_f_now, a_f_lawPlace, a_f_lawOther, a_f_lawEach, a_f_lawFrom, a_f_foes, a_f_suitTable, a_f_acts, Fhall_0, Fhall_1, Fhall_2, Fhall_3, Fhall_4, Fhall_5, Fhall_6, Fhall_7, Fhall_8, rfl⟩, hP'.sub [1, 2, 3, 4, 5, 6, 7, 8, 9, 10] rfl, hD_hall.same rfl⟩,
    h_draft.frame hF hDa (by decide),
    h_images.frame hF hDa (by decide),
    h_kept.frame hF hDa (by decide),
    h_slots.frame hF hDa (by decide),
    h_course.frame hF hDa (by decide),
    h_sight.frame hF hDa (by decide),
    h_parting.frame hF hDa (by decide),
    h_suiting.frame hF hDa (by decide),
    h_game.frame hF hDa (by decide),
    h_lots.frame hF hDa (by decide),
    h_told.frame hF hDa (by decide),
    h_tried.frame hF hDa (by decide),
    hsl.go (tt_keep hF hDa (by decide))⟩, hF.wide (ax_of hDa (by decide))⟩
set_option maxHeartbeats 4000000 in
set_option maxRecDepth 100000 in
theorem wx_apart (l : Launch) (dC : Nat → ClassId) (dI : Nat → Nat → Nat) (cyI cyB cyJ cyZ cyH cyN cyM : ClassId) (tR tF : Nat) (aK aV : Nat → Nat) (tg : Nat → Nat) (sz : Nat) (x0 sl : Nat) (ke_f s_fm s_fl s_fw : Nat → Int32) (p0 : Int32) : Met l yX11_apart (wk yX11_apart cX11_apart 2 (some .int)) ({ frames := 2, cells := 0, slots := 0, locals := 81 }) (va_Pc [.ref x0, .int p0] (XP dC dI cyI cyB cyJ cyZ cyH cyN cyM tR tF aK aV tg sz x0 sl ke_f s_fm s_fl s_fw)) (va_Qi (fun (r : Int32) (_ : Unit) => True) (fun (_ : Unit) (t : State) => XE dC dI cyI cyB cyJ cyZ cyH cyN cyM tg x0 sl ke_f s_fm s_fl s_fw t.heap) (AX tg sz)) 0 0 (AX tg sz) := by
  refine met_of (fun a st hp => ?_)
  obtain ⟨ha, hsz, ⟨a_pl, s_n0, s_n1, s_n2, s_n3, t0, h0, d0, im, ke, sl0, c0, v0, q0, s0, gm0, l0, to, tr, vsl, hx, h_tape, h_hall, h_draft, h_images, h_kept, h_slots, h_course, h_sight, h_parting, h_suiting, h_game, h_lots, h_told, h_tried, hsl⟩, hK, hNB, hFX⟩ := hp
  subst hsz
  obtain ⟨_, rfl, hP_x, hD_x⟩ := hx
  obtain ⟨_, ⟨a_first, a_now, a_lawPlace, a_lawOther, a_lawEach, a_lawFrom, a_foes, a_suitTable, a_acts, a_li, a_le, a_lc, a_ac, a_ng, a_f_first, a_f_now, a_f_lawPlace, a_f_lawOther, a_f_lawEach, a_f_lawFrom, a_f_foes, a_f_suitTable, a_f_acts, Fhall_0, Fhall_1, Fhall_2, Fhall_3, Fhall_4, Fhall_5, Fhall_6, Fhall_7, Fhall_8, rfl⟩, hP_hall, hD_hall⟩ := h_hall
  have hPa : va_P (dC, dI) vwCl [(x0, .inr (10, [.ref t0, .ref h0, .ref d0, .ref im, .ref ke, .ref sl0, .ref c0, .ref v0, .ref q0, .ref s0, .ref gm0, .ref l0, .ref to, .ref tr, vsl])), (h0, .inr (2, [.int a_pl, .int a_li, .int a_le, .int a_lc, .int a_ac, .int a_ng, .ref a_first, .ref a_now, .ref a_lawPlace, .ref a_lawOther, .ref a_lawEach, .ref a_lawFrom, .ref a_foes, .ref a_suitTable, .ref a_acts])), (a_first, .inl (cyI, 7, .inl a_f_first)), (a_now, .inl (cyI, 7, .inl a_f_now)), (a_lawPlace, .inl (cyI, 6, .inl a_f_lawPlace)), (a_lawOther, .inl (cyI, 6, .inl a_f_lawOther)), (a_lawEach, .inl (cyI, 6, .inl a_f_lawEach)), (a_lawFrom, .inl (cyI, 6, .inl a_f_lawFrom)), (a_foes, .inl (cyI, 7, .inl a_f_foes)), (a_suitTable, .inl (cyI, 49, .inl a_f_suitTable)), (a_acts, .inl (cyI, 40, .inl a_f_acts))] st.heap := va_P.app hP_x hP_hall
  have hDa : va_D (TT tg [0, 2]) [(x0, .inr (10, [.ref t0, .ref h0, .ref d0, .ref im, .ref ke, .ref sl0, .ref c0, .ref v0, .ref q0, .ref s0, .ref gm0, .ref l0, .ref to, .ref tr, vsl])), (h0, .inr (2, [.int a_pl, .int a_li, .int a_le, .int a_lc, .int a_ac, .int a_ng, .ref a_first, .ref a_now, .ref a_lawPlace, .ref a_lawOther, .ref a_lawEach, .ref a_lawFrom, .ref a_foes, .ref a_suitTable, .ref a_acts])), (a_first, .inl (cyI, 7, .inl a_f_first)), (a_now, .inl (cyI, 7, .inl a_f_now)), (a_lawPlace, .inl (cyI, 6, .inl a_f_lawPlace)), (a_lawOther, .inl (cyI, 6, .inl a_f_lawOther)), (a_lawEach, .inl (cyI, 6, .inl a_f_lawEach)), (a_lawFrom, .inl (cyI, 6, .inl a_f_lawFrom)), (a_foes, .inl (cyI, 7, .inl a_f_foes)), (a_suitTable, .inl (cyI, 49, .inl a_f_suitTable)), (a_acts, .inl (cyI, 40, .inl a_f_acts))] := (va_D.tt hD_x hD_hall (by decide))
  refine ⟨_, _, _, x_apart l dC dI cyI cyB cyJ cyZ cyH cyN tR tF aK aV st.heap.size x0 h0 a_first a_now a_lawPlace a_lawOther a_lawEach a_lawFrom a_foes a_suitTable a_acts a_pl a_li a_le a_lc a_ac a_ng a_f_first a_f_now a_f_lawPlace a_f_lawOther a_f_lawEach a_f_lawFrom a_f_foes a_f_suitTable a_f_acts t0 d0 im ke sl0 c0 v0 q0 s0 gm0 l0 to tr vsl p0 Fhall_0 Fhall_1 Fhall_2 Fhall_3 Fhall_4 Fhall_5 Fhall_6 Fhall_7 Fhall_8, ⟨ha, rfl, hPa, hK.sub [0, 1, 2, 3, 4, 5] rfl, hDa.weaken (fun _ _ _ _ => trivial), hFX.narrow (ax_of hDa (by decide))⟩, ?_, ax_of hDa (by decide)⟩
  rintro o t ⟨⟨r, u, ho, hr, hP', hD'⟩, hF⟩
  refine ⟨⟨r, (), ho, hr, a_pl, s_n0, s_n1, s_n2, s_n3, t0, h0, d0, im, ke, sl0, c0, v0, q0, s0, gm0, l0, to, tr, vsl, ⟨_, rfl, hP'.sub [0] rfl, hD_x.same rfl⟩,
    h_tape.frame hF hDa (by decide),
    ⟨_, ⟨a_first, a_now, a_lawPlace, a_lawOther, a_lawEach, a_lawFrom, a_foes, a_suitTable, a_acts, a_li, a_le, a_lc, a_ac, a_ng, a_f_first, a_f_now, a_f_lawPlace, a_f_lawOther, a_f_lawEach, a_f_lawFrom, a_f_foes, a_f_suitTable, a_f_acts, Fhall_0, Fhall_1, Fhall_2, Fhall_3, Fhall_4, Fhall_5, Fhall_6, Fhall_7, Fhall_8, rfl⟩, hP'.sub [1, 2, 3, 4, 5, 6, 7, 8, 9, 10] rfl, hD_hall.same rfl⟩,
    h_draft.frame hF hDa (by decide),
    h_images.frame hF hDa (by decide),
    h_kept.frame hF hDa (by decide),
    h_slots.frame hF hDa (by decide),
    h_course.frame hF hDa (by decide),
    h_sight.frame hF hDa (by decide),
    h_parting.frame hF hDa (by decide),
    h_suiting.frame hF hDa (by decide),
    h_game.frame hF hDa (by decide),
    h_lots.frame hF hDa (by decide),
    h_told.frame hF hDa (by decide),
    h_tried.frame hF hDa (by decide),
    hsl.go (tt_keep hF hDa (by decide))⟩, hF.wide (ax_of hDa (by decide))⟩
set_option maxHeartbeats 4000000 in
set_option maxRecDepth 100000 in
theorem wx_at (l : Launch) (dC : Nat → ClassId) (dI : Nat → Nat → Nat) (cyI cyB cyJ cyZ cyH cyN cyM : ClassId) (tR tF : Nat) (aK aV : Nat → Nat) (tg : Nat → Nat) (sz : Nat) (x0 sl : Nat) (ke_f s_fm s_fl s_fw : Nat → Int32) (p0 : Int32) : Met l yX11_at (wk yX11_at cX11_at 2 (some .int)) ({ frames := 2, cells := 0, slots := 0, locals := 81 }) (va_Pc [.ref x0, .int p0] (XP dC dI cyI cyB cyJ cyZ cyH cyN cyM tR tF aK aV tg sz x0 sl ke_f s_fm s_fl s_fw)) (va_Qi (fun (r : Int32) (_ : Unit) => True) (fun (_ : Unit) (t : State) => XE dC dI cyI cyB cyJ cyZ cyH cyN cyM tg x0 sl ke_f s_fm s_fl s_fw t.heap) (AX tg sz)) 0 0 (AX tg sz) := by
  refine met_of (fun a st hp => ?_)
  obtain ⟨ha, hsz, ⟨a_pl, s_n0, s_n1, s_n2, s_n3, t0, h0, d0, im, ke, sl0, c0, v0, q0, s0, gm0, l0, to, tr, vsl, hx, h_tape, h_hall, h_draft, h_images, h_kept, h_slots, h_course, h_sight, h_parting, h_suiting, h_game, h_lots, h_told, h_tried, hsl⟩, hK, hNB, hFX⟩ := hp
  subst hsz
  obtain ⟨_, rfl, hP_x, hD_x⟩ := hx
  obtain ⟨_, ⟨a_first, a_now, a_lawPlace, a_lawOther, a_lawEach, a_lawFrom, a_foes, a_suitTable, a_acts, a_li, a_le, a_lc, a_ac, a_ng, a_f_first, a_f_now, a_f_lawPlace, a_f_lawOther, a_f_lawEach, a_f_lawFrom, a_f_foes, a_f_suitTable, a_f_acts, Fhall_0, Fhall_1, Fhall_2, Fhall_3, Fhall_4, Fhall_5, Fhall_6, Fhall_7, Fhall_8, rfl⟩, hP_hall, hD_hall⟩ := h_hall
  have hPa : va_P (dC, dI) vwCl [(x0, .inr (10, [.ref t0, .ref h0, .ref d0, .ref im, .ref ke, .ref sl0, .ref c0, .ref v0, .ref q0, .ref s0, .ref gm0, .ref l0, .ref to, .ref tr, vsl])), (h0, .inr (2, [.int a_pl, .int a_li, .int a_le, .int a_lc, .int a_ac, .int a_ng, .ref a_first, .ref a_now, .ref a_lawPlace, .ref a_lawOther, .ref a_lawEach, .ref a_lawFrom, .ref a_foes, .ref a_suitTable, .ref a_acts])), (a_first, .inl (cyI, 7, .inl a_f_first)), (a_now, .inl (cyI, 7, .inl a_f_now)), (a_lawPlace, .inl (cyI, 6, .inl a_f_lawPlace)), (a_lawOther, .inl (cyI, 6, .inl a_f_lawOther)), (a_lawEach, .inl (cyI, 6, .inl a_f_lawEach)), (a_lawFrom, .inl (cyI, 6, .inl a_f_lawFrom)), (a_foes, .inl (cyI, 7, .inl a_f_foes)), (a_suitTable, .inl (cyI, 49, .inl a_f_suitTable)), (a_acts, .inl (cyI, 40, .inl a_f_acts))] st.heap := va_P.app hP_x hP_hall
  have hDa : va_D (TT tg [0, 2]) [(x0, .inr (10, [.ref t0, .ref h0, .ref d0, .ref im, .ref ke, .ref sl0, .ref c0, .ref v0, .ref q0, .ref s0, .ref gm0, .ref l0, .ref to, .ref tr, vsl])), (h0, .inr (2, [.int a_pl, .int a_li, .int a_le, .int a_lc, .int a_ac, .int a_ng, .ref a_first, .ref a_now, .ref a_lawPlace, .ref a_lawOther, .ref a_lawEach, .ref a_lawFrom, .ref a_foes, .ref a_suitTable, .ref a_acts])), (a_first, .inl (cyI, 7, .inl a_f_first)), (a_now, .inl (cyI, 7, .inl a_f_now)), (a_lawPlace, .inl (cyI, 6, .inl a_f_lawPlace)), (a_lawOther, .inl (cyI, 6, .inl a_f_lawOther)), (a_lawEach, .inl (cyI, 6, .inl a_f_lawEach)), (a_lawFrom, .inl (cyI, 6, .inl a_f_lawFrom)), (a_foes, .inl (cyI, 7, .inl a_f_foes)), (a_suitTable, .inl (cyI, 49, .inl a_f_suitTable)), (a_acts, .inl (cyI, 40, .inl a_f_acts))] := (va_D.tt hD_x hD_hall (by decide))
  refine ⟨_, _, _, x_at l dC dI cyI cyB cyJ cyZ cyH cyN tR tF aK aV st.heap.size x0 h0 a_first a_now a_lawPlace a_lawOther a_lawEach a_lawFrom a_foes a_suitTable a_acts a_pl a_li a_le a_lc a_ac a_ng a_f_first a_f_now a_f_lawPlace a_f_lawOther a_f_lawEach a_f_lawFrom a_f_foes a_f_suitTable a_f_acts t0 d0 im ke sl0 c0 v0 q0 s0 gm0 l0 to tr vsl p0 Fhall_0 Fhall_1 Fhall_2 Fhall_3 Fhall_4 Fhall_5 Fhall_6 Fhall_7 Fhall_8, ⟨ha, rfl, hPa, hK.sub [0, 1, 2, 3, 4, 5] rfl, hDa.weaken (fun _ _ _ _ => trivial), hFX.narrow (ax_of hDa (by decide))⟩, ?_, ax_of hDa (by decide)⟩
  rintro o t ⟨⟨r, u, ho, hr, hP', hD'⟩, hF⟩
  refine ⟨⟨r, (), ho, hr, a_pl, s_n0, s_n1, s_n2, s_n3, t0, h0, d0, im, ke, sl0, c0, v0, q0, s0, gm0, l0, to, tr, vsl, ⟨_, rfl, hP'.sub [0] rfl, hD_x.same rfl⟩,
    h_tape.frame hF hDa (by decide),
    ⟨_, ⟨a_first, a_now, a_lawPlace, a_lawOther, a_lawEach, a_lawFrom, a_foes, a_suitTable, a_acts, a_li, a_le, a_lc, a_ac, a_ng, a_f_first, a_f_now, a_f_lawPlace, a_f_lawOther, a_f_lawEach, a_f_lawFrom, a_f_foes, a_f_suitTable, a_f_acts, Fhall_0, Fhall_1, Fhall_2, Fhall_3, Fhall_4, Fhall_5, Fhall_6, Fhall_7, Fhall_8, rfl⟩, hP'.sub [1, 2, 3, 4, 5, 6, 7, 8, 9, 10] rfl, hD_hall.same rfl⟩,
    h_draft.frame hF hDa (by decide),
    h_images.frame hF hDa (by decide),
    h_kept.frame hF hDa (by decide),
    h_slots.frame hF hDa (by decide),
    h_course.frame hF hDa (by decide),
    h_sight.frame hF hDa (by decide),
    h_parting.frame hF hDa (by decide),
    h_suiting.frame hF hDa (by decide),
    h_game.frame hF hDa (by decide),
    h_lots.frame hF hDa (by decide),
    h_told.frame hF hDa (by decide),
    h_tried.frame hF hDa (by decide),
    hsl.go (tt_keep hF hDa (by decide))⟩, hF.wide (ax_of hDa (by decide))⟩
set_option maxHeartbeats 4000000 in
set_option maxRecDepth 100000 in
theorem wx_where (l : Launch) (dC : Nat → ClassId) (dI : Nat → Nat → Nat) (cyI cyB cyJ cyZ cyH cyN cyM : ClassId) (tR tF : Nat) (aK aV : Nat → Nat) (tg : Nat → Nat) (sz : Nat) (x0 sl : Nat) (ke_f s_fm s_fl s_fw : Nat → Int32) (p0 : Int32) : Met l yX11_where (wk yX11_where cX11_where 2 (some .int)) ({ frames := 3, cells := 0, slots := 0, locals := 104 }) (va_Pc [.ref x0, .int p0] (XP dC dI cyI cyB cyJ cyZ cyH cyN cyM tR tF aK aV tg sz x0 sl ke_f s_fm s_fl s_fw)) (va_Qi (fun (r : Int32) (_ : Unit) => True) (fun (_ : Unit) (t : State) => XE dC dI cyI cyB cyJ cyZ cyH cyN cyM tg x0 sl ke_f s_fm s_fl s_fw t.heap) (AX tg sz)) 0 0 (AX tg sz) := by
  refine met_of (fun a st hp => ?_)
  obtain ⟨ha, hsz, ⟨a_pl, s_n0, s_n1, s_n2, s_n3, t0, h0, d0, im, ke, sl0, c0, v0, q0, s0, gm0, l0, to, tr, vsl, hx, h_tape, h_hall, h_draft, h_images, h_kept, h_slots, h_course, h_sight, h_parting, h_suiting, h_game, h_lots, h_told, h_tried, hsl⟩, hK, hNB, hFX⟩ := hp
  subst hsz
  obtain ⟨_, rfl, hP_x, hD_x⟩ := hx
  obtain ⟨_, ⟨a_first, a_now, a_lawPlace, a_lawOther, a_lawEach, a_lawFrom, a_foes, a_suitTable, a_acts, a_li, a_le, a_lc, a_ac, a_ng, a_f_first, a_f_now, a_f_lawPlace, a_f_lawOther, a_f_lawEach, a_f_lawFrom, a_f_foes, a_f_suitTable, a_f_acts, Fhall_0, Fhall_1, Fhall_2, Fhall_3, Fhall_4, Fhall_5, Fhall_6, Fhall_7, Fhall_8, rfl⟩, hP_hall, hD_hall⟩ := h_hall
  have hPa : va_P (dC, dI) vwCl [(x0, .inr (10, [.ref t0, .ref h0, .ref d0, .ref im, .ref ke, .ref sl0, .ref c0, .ref v0, .ref q0, .ref s0, .ref gm0, .ref l0, .ref to, .ref tr, vsl])), (h0, .inr (2, [.int a_pl, .int a_li, .int a_le, .int a_lc, .int a_ac, .int a_ng, .ref a_first, .ref a_now, .ref a_lawPlace, .ref a_lawOther, .ref a_lawEach, .ref a_lawFrom, .ref a_foes, .ref a_suitTable, .ref a_acts])), (a_first, .inl (cyI, 7, .inl a_f_first)), (a_now, .inl (cyI, 7, .inl a_f_now)), (a_lawPlace, .inl (cyI, 6, .inl a_f_lawPlace)), (a_lawOther, .inl (cyI, 6, .inl a_f_lawOther)), (a_lawEach, .inl (cyI, 6, .inl a_f_lawEach)), (a_lawFrom, .inl (cyI, 6, .inl a_f_lawFrom)), (a_foes, .inl (cyI, 7, .inl a_f_foes)), (a_suitTable, .inl (cyI, 49, .inl a_f_suitTable)), (a_acts, .inl (cyI, 40, .inl a_f_acts))] st.heap := va_P.app hP_x hP_hall
  have hDa : va_D (TT tg [0, 2]) [(x0, .inr (10, [.ref t0, .ref h0, .ref d0, .ref im, .ref ke, .ref sl0, .ref c0, .ref v0, .ref q0, .ref s0, .ref gm0, .ref l0, .ref to, .ref tr, vsl])), (h0, .inr (2, [.int a_pl, .int a_li, .int a_le, .int a_lc, .int a_ac, .int a_ng, .ref a_first, .ref a_now, .ref a_lawPlace, .ref a_lawOther, .ref a_lawEach, .ref a_lawFrom, .ref a_foes, .ref a_suitTable, .ref a_acts])), (a_first, .inl (cyI, 7, .inl a_f_first)), (a_now, .inl (cyI, 7, .inl a_f_now)), (a_lawPlace, .inl (cyI, 6, .inl a_f_lawPlace)), (a_lawOther, .inl (cyI, 6, .inl a_f_lawOther)), (a_lawEach, .inl (cyI, 6, .inl a_f_lawEach)), (a_lawFrom, .inl (cyI, 6, .inl a_f_lawFrom)), (a_foes, .inl (cyI, 7, .inl a_f_foes)), (a_suitTable, .inl (cyI, 49, .inl a_f_suitTable)), (a_acts, .inl (cyI, 40, .inl a_f_acts))] := (va_D.tt hD_x hD_hall (by decide))
  refine ⟨_, _, _, x_where l dC dI cyI cyB cyJ cyZ cyH cyN tR tF aK aV st.heap.size x0 h0 a_first a_now a_lawPlace a_lawOther a_lawEach a_lawFrom a_foes a_suitTable a_acts a_pl a_li a_le a_lc a_ac a_ng a_f_first a_f_now a_f_lawPlace a_f_lawOther a_f_lawEach a_f_lawFrom a_f_foes a_f_suitTable a_f_acts t0 d0 im ke sl0 c0 v0 q0 s0 gm0 l0 to tr vsl p0 Fhall_0 Fhall_1 Fhall_2 Fhall_3 Fhall_4 Fhall_5 Fhall_6 Fhall_7 Fhall_8, ⟨ha, rfl, hPa, hK.sub [0, 1, 2, 3, 4, 5] rfl, hDa.weaken (fun _ _ _ _ => trivial), hFX.narrow (ax_of hDa (by decide))⟩, ?_, ax_of hDa (by decide)⟩
  rintro o t ⟨⟨r, u, ho, hr, hP', hD'⟩, hF⟩
  refine ⟨⟨r, (), ho, hr, a_pl, s_n0, s_n1, s_n2, s_n3, t0, h0, d0, im, ke, sl0, c0, v0, q0, s0, gm0, l0, to, tr, vsl, ⟨_, rfl, hP'.sub [0] rfl, hD_x.same rfl⟩,
    h_tape.frame hF hDa (by decide),
    ⟨_, ⟨a_first, a_now, a_lawPlace, a_lawOther, a_lawEach, a_lawFrom, a_foes, a_suitTable, a_acts, a_li, a_le, a_lc, a_ac, a_ng, a_f_first, a_f_now, a_f_lawPlace, a_f_lawOther, a_f_lawEach, a_f_lawFrom, a_f_foes, a_f_suitTable, a_f_acts, Fhall_0, Fhall_1, Fhall_2, Fhall_3, Fhall_4, Fhall_5, Fhall_6, Fhall_7, Fhall_8, rfl⟩, hP'.sub [1, 2, 3, 4, 5, 6, 7, 8, 9, 10] rfl, hD_hall.same rfl⟩,
    h_draft.frame hF hDa (by decide),
    h_images.frame hF hDa (by decide),
    h_kept.frame hF hDa (by decide),
    h_slots.frame hF hDa (by decide),
    h_course.frame hF hDa (by decide),
    h_sight.frame hF hDa (by decide),
    h_parting.frame hF hDa (by decide),
    h_suiting.frame hF hDa (by decide),
    h_game.frame hF hDa (by decide),
    h_lots.frame hF hDa (by decide),
    h_told.frame hF hDa (by decide),
    h_tried.frame hF hDa (by decide),
    hsl.go (tt_keep hF hDa (by decide))⟩, hF.wide (ax_of hDa (by decide))⟩
set_option maxHeartbeats 4000000 in
set_option maxRecDepth 100000 in
theorem wx_later (l : Launch) (dC : Nat → ClassId) (dI : Nat → Nat → Nat) (cyI cyB cyJ cyZ cyH cyN cyM : ClassId) (tR tF : Nat) (aK aV : Nat → Nat) (tg : Nat → Nat) (sz : Nat) (x0 sl : Nat) (ke_f s_fm s_fl s_fw : Nat → Int32) (p0 p1 : Int32) : Met l yX11_later (wk yX11_later cX11_later 3 (some .int)) ({ frames := 5, cells := 0, slots := 0, locals := 150 }) (va_Pc [.ref x0, .int p0, .int p1] (XP dC dI cyI cyB cyJ cyZ cyH cyN cyM tR tF aK aV tg sz x0 sl ke_f s_fm s_fl s_fw)) (va_Qi (fun (r : Int32) (_ : Unit) => True) (fun (_ : Unit) (t : State) => XE dC dI cyI cyB cyJ cyZ cyH cyN cyM tg x0 sl ke_f s_fm s_fl s_fw t.heap) (AX tg sz)) 0 0 (AX tg sz) := by
  refine met_of (fun a st hp => ?_)
  obtain ⟨ha, hsz, ⟨a_pl, s_n0, s_n1, s_n2, s_n3, t0, h0, d0, im, ke, sl0, c0, v0, q0, s0, gm0, l0, to, tr, vsl, hx, h_tape, h_hall, h_draft, h_images, h_kept, h_slots, h_course, h_sight, h_parting, h_suiting, h_game, h_lots, h_told, h_tried, hsl⟩, hK, hNB, hFX⟩ := hp
  subst hsz
  obtain ⟨_, rfl, hP_x, hD_x⟩ := hx
  obtain ⟨_, ⟨a_first, a_now, a_lawPlace, a_lawOther, a_lawEach, a_lawFrom, a_foes, a_suitTable, a_acts, a_li, a_le, a_lc, a_ac, a_ng, a_f_first, a_f_now, a_f_lawPlace, a_f_lawOther, a_f_lawEach, a_f_lawFrom, a_f_foes, a_f_suitTable, a_f_acts, Fhall_0, Fhall_1, Fhall_2, Fhall_3, Fhall_4, Fhall_5, Fhall_6, Fhall_7, Fhall_8, rfl⟩, hP_hall, hD_hall⟩ := h_hall
  obtain ⟨_, ⟨c_row, c_origins, c_before, c_lawsByNight, cnum, c_f_row, c_f_origins, c_f_before, c_f_lawsByNight, chv, Fcourse_0, Fcourse_1, Fcourse_2, rfl⟩, hP_course, hD_course⟩ := h_course
  have hPa : va_P (dC, dI) vwCl [(x0, .inr (10, [.ref t0, .ref h0, .ref d0, .ref im, .ref ke, .ref sl0, .ref c0, .ref v0, .ref q0, .ref s0, .ref gm0, .ref l0, .ref to, .ref tr, vsl])), (h0, .inr (2, [.int a_pl, .int a_li, .int a_le, .int a_lc, .int a_ac, .int a_ng, .ref a_first, .ref a_now, .ref a_lawPlace, .ref a_lawOther, .ref a_lawEach, .ref a_lawFrom, .ref a_foes, .ref a_suitTable, .ref a_acts])), (a_first, .inl (cyI, 7, .inl a_f_first)), (a_now, .inl (cyI, 7, .inl a_f_now)), (a_lawPlace, .inl (cyI, 6, .inl a_f_lawPlace)), (a_lawOther, .inl (cyI, 6, .inl a_f_lawOther)), (a_lawEach, .inl (cyI, 6, .inl a_f_lawEach)), (a_lawFrom, .inl (cyI, 6, .inl a_f_lawFrom)), (a_foes, .inl (cyI, 7, .inl a_f_foes)), (a_suitTable, .inl (cyI, 49, .inl a_f_suitTable)), (a_acts, .inl (cyI, 40, .inl a_f_acts)), (c0, .inr (0, [.ref c_row, .ref c_origins, .ref c_before, .ref c_lawsByNight, chv, .int cnum])), (c_row, .inl (cyI, 7, .inl c_f_row)), (c_origins, .inl (cyI, 7, .inl c_f_origins)), (c_before, .inl (cyI, 7, .inl c_f_before)), (c_lawsByNight, .inl (cyI, 60, .inl c_f_lawsByNight))] st.heap := va_P.app hP_x (va_P.app hP_hall hP_course)
  have hDa : va_D (TT tg [0, 2, 7]) [(x0, .inr (10, [.ref t0, .ref h0, .ref d0, .ref im, .ref ke, .ref sl0, .ref c0, .ref v0, .ref q0, .ref s0, .ref gm0, .ref l0, .ref to, .ref tr, vsl])), (h0, .inr (2, [.int a_pl, .int a_li, .int a_le, .int a_lc, .int a_ac, .int a_ng, .ref a_first, .ref a_now, .ref a_lawPlace, .ref a_lawOther, .ref a_lawEach, .ref a_lawFrom, .ref a_foes, .ref a_suitTable, .ref a_acts])), (a_first, .inl (cyI, 7, .inl a_f_first)), (a_now, .inl (cyI, 7, .inl a_f_now)), (a_lawPlace, .inl (cyI, 6, .inl a_f_lawPlace)), (a_lawOther, .inl (cyI, 6, .inl a_f_lawOther)), (a_lawEach, .inl (cyI, 6, .inl a_f_lawEach)), (a_lawFrom, .inl (cyI, 6, .inl a_f_lawFrom)), (a_foes, .inl (cyI, 7, .inl a_f_foes)), (a_suitTable, .inl (cyI, 49, .inl a_f_suitTable)), (a_acts, .inl (cyI, 40, .inl a_f_acts)), (c0, .inr (0, [.ref c_row, .ref c_origins, .ref c_before, .ref c_lawsByNight, chv, .int cnum])), (c_row, .inl (cyI, 7, .inl c_f_row)), (c_origins, .inl (cyI, 7, .inl c_f_origins)), (c_before, .inl (cyI, 7, .inl c_f_before)), (c_lawsByNight, .inl (cyI, 60, .inl c_f_lawsByNight))] := (va_D.tt hD_x (va_D.tt hD_hall hD_course (by decide)) (by decide))
  refine ⟨_, _, _, x_later l dC dI cyI cyB cyJ cyZ cyH cyN tR tF aK aV st.heap.size x0 h0 a_first a_now a_lawPlace a_lawOther a_lawEach a_lawFrom a_foes a_suitTable a_acts a_pl a_li a_le a_lc a_ac a_ng a_f_first a_f_now a_f_lawPlace a_f_lawOther a_f_lawEach a_f_lawFrom a_f_foes a_f_suitTable a_f_acts c0 c_row c_origins c_before c_lawsByNight cnum c_f_row c_f_origins c_f_before c_f_lawsByNight chv t0 d0 im ke sl0 v0 q0 s0 gm0 l0 to tr vsl p0 p1 Fhall_0 Fhall_1 Fhall_2 Fhall_3 Fhall_4 Fcourse_0 Fcourse_1 Fcourse_2 Fhall_5 Fhall_6 Fhall_7 Fhall_8, ⟨ha, rfl, hPa, hK.sub [0, 1, 2, 3, 4, 5] rfl, hDa.weaken (fun _ _ _ _ => trivial), hFX.narrow (ax_of hDa (by decide))⟩, ?_, ax_of hDa (by decide)⟩
  rintro o t ⟨⟨r, u, ho, hr, z0, z1, y2, y3, y4, y5, P0, P1, P2, hP', hD'⟩, hF⟩
  refine ⟨⟨r, (), ho, hr, a_pl, s_n0, s_n1, s_n2, s_n3, t0, h0, d0, im, ke, sl0, c0, v0, q0, s0, gm0, l0, to, tr, vsl, ⟨_, rfl, hP'.sub [0] rfl, hD_x.same rfl⟩,
    h_tape.frame hF hDa (by decide),
    ⟨_, ⟨a_first, a_now, a_lawPlace, a_lawOther, a_lawEach, a_lawFrom, a_foes, a_suitTable, a_acts, a_li, a_le, a_lc, a_ac, a_ng, a_f_first, a_f_now, a_f_lawPlace, a_f_lawOther, a_f_lawEach, a_f_lawFrom, a_f_foes, a_f_suitTable, a_f_acts, Fhall_0, Fhall_1, Fhall_2, Fhall_3, Fhall_4, Fhall_5, Fhall_6, Fhall_7, Fhall_8, rfl⟩, hP'.sub [1, 2, 3, 4, 5, 6, 7, 8, 9, 10] rfl, hD_hall.same rfl⟩,
    h_draft.frame hF hDa (by decide),
    h_images.frame hF hDa (by decide),
    h_kept.frame hF hDa (by decide),
    h_slots.frame hF hDa (by decide),
    ⟨_, ⟨c_row, c_origins, c_before, c_lawsByNight, z1, y2, y3, y4, y5, z0, P0, P1, P2, rfl⟩, hP'.sub [11, 12, 13, 14, 15] rfl, hD_course.same rfl⟩,
    h_sight.frame hF hDa (by decide),
    h_parting.frame hF hDa (by decide),
    h_suiting.frame hF hDa (by decide),
    h_game.frame hF hDa (by decide),
    h_lots.frame hF hDa (by decide),
    h_told.frame hF hDa (by decide),
    h_tried.frame hF hDa (by decide),
    hsl.go (tt_keep hF hDa (by decide))⟩, hF.wide (ax_of hDa (by decide))⟩
set_option maxHeartbeats 4000000 in
set_option maxRecDepth 100000 in
theorem wx_right (l : Launch) (dC : Nat → ClassId) (dI : Nat → Nat → Nat) (cyI cyB cyJ cyZ cyH cyN cyM : ClassId) (tR tF : Nat) (aK aV : Nat → Nat) (tg : Nat → Nat) (sz : Nat) (x0 sl : Nat) (ke_f s_fm s_fl s_fw : Nat → Int32) (p0 : Int32) : Met l yX11_right (wk yX11_right cX11_right 2 (some .int)) ({ frames := 5, cells := 0, slots := 0, locals := 150 }) (va_Pc [.ref x0, .int p0] (XP dC dI cyI cyB cyJ cyZ cyH cyN cyM tR tF aK aV tg sz x0 sl ke_f s_fm s_fl s_fw)) (va_Qi (fun (r : Int32) (_ : Unit) => True) (fun (_ : Unit) (t : State) => XE dC dI cyI cyB cyJ cyZ cyH cyN cyM tg x0 sl ke_f s_fm s_fl s_fw t.heap) (AX tg sz)) 0 0 (AX tg sz) := by
  refine met_of (fun a st hp => ?_)
  obtain ⟨ha, hsz, ⟨a_pl, s_n0, s_n1, s_n2, s_n3, t0, h0, d0, im, ke, sl0, c0, v0, q0, s0, gm0, l0, to, tr, vsl, hx, h_tape, h_hall, h_draft, h_images, h_kept, h_slots, h_course, h_sight, h_parting, h_suiting, h_game, h_lots, h_told, h_tried, hsl⟩, hK, hNB, hFX⟩ := hp
  subst hsz
  obtain ⟨_, rfl, hP_x, hD_x⟩ := hx
  obtain ⟨_, ⟨a_first, a_now, a_lawPlace, a_lawOther, a_lawEach, a_lawFrom, a_foes, a_suitTable, a_acts, a_li, a_le, a_lc, a_ac, a_ng, a_f_first, a_f_now, a_f_lawPlace, a_f_lawOther, a_f_lawEach, a_f_lawFrom, a_f_foes, a_f_suitTable, a_f_acts, Fhall_0, Fhall_1, Fhall_2, Fhall_3, Fhall_4, Fhall_5, Fhall_6, Fhall_7, Fhall_8, rfl⟩, hP_hall, hD_hall⟩ := h_hall
  obtain ⟨_, ⟨c_row, c_origins, c_before, c_lawsByNight, cnum, c_f_row, c_f_origins, c_f_before, c_f_lawsByNight, chv, Fcourse_0, Fcourse_1, Fcourse_2, rfl⟩, hP_course, hD_course⟩ := h_course
  have hPa : va_P (dC, dI) vwCl [(x0, .inr (10, [.ref t0, .ref h0, .ref d0, .ref im, .ref ke, .ref sl0, .ref c0, .ref v0, .ref q0, .ref s0, .ref gm0, .ref l0, .ref to, .ref tr, vsl])), (h0, .inr (2, [.int a_pl, .int a_li, .int a_le, .int a_lc, .int a_ac, .int a_ng, .ref a_first, .ref a_now, .ref a_lawPlace, .ref a_lawOther, .ref a_lawEach, .ref a_lawFrom, .ref a_foes, .ref a_suitTable, .ref a_acts])), (a_first, .inl (cyI, 7, .inl a_f_first)), (a_now, .inl (cyI, 7, .inl a_f_now)), (a_lawPlace, .inl (cyI, 6, .inl a_f_lawPlace)), (a_lawOther, .inl (cyI, 6, .inl a_f_lawOther)), (a_lawEach, .inl (cyI, 6, .inl a_f_lawEach)), (a_lawFrom, .inl (cyI, 6, .inl a_f_lawFrom)), (a_foes, .inl (cyI, 7, .inl a_f_foes)), (a_suitTable, .inl (cyI, 49, .inl a_f_suitTable)), (a_acts, .inl (cyI, 40, .inl a_f_acts)), (c0, .inr (0, [.ref c_row, .ref c_origins, .ref c_before, .ref c_lawsByNight, chv, .int cnum])), (c_row, .inl (cyI, 7, .inl c_f_row)), (c_origins, .inl (cyI, 7, .inl c_f_origins)), (c_before, .inl (cyI, 7, .inl c_f_before)), (c_lawsByNight, .inl (cyI, 60, .inl c_f_lawsByNight))] st.heap := va_P.app hP_x (va_P.app hP_hall hP_course)
  have hDa : va_D (TT tg [0, 2, 7]) [(x0, .inr (10, [.ref t0, .ref h0, .ref d0, .ref im, .ref ke, .ref sl0, .ref c0, .ref v0, .ref q0, .ref s0, .ref gm0, .ref l0, .ref to, .ref tr, vsl])), (h0, .inr (2, [.int a_pl, .int a_li, .int a_le, .int a_lc, .int a_ac, .int a_ng, .ref a_first, .ref a_now, .ref a_lawPlace, .ref a_lawOther, .ref a_lawEach, .ref a_lawFrom, .ref a_foes, .ref a_suitTable, .ref a_acts])), (a_first, .inl (cyI, 7, .inl a_f_first)), (a_now, .inl (cyI, 7, .inl a_f_now)), (a_lawPlace, .inl (cyI, 6, .inl a_f_lawPlace)), (a_lawOther, .inl (cyI, 6, .inl a_f_lawOther)), (a_lawEach, .inl (cyI, 6, .inl a_f_lawEach)), (a_lawFrom, .inl (cyI, 6, .inl a_f_lawFrom)), (a_foes, .inl (cyI, 7, .inl a_f_foes)), (a_suitTable, .inl (cyI, 49, .inl a_f_suitTable)), (a_acts, .inl (cyI, 40, .inl a_f_acts)), (c0, .inr (0, [.ref c_row, .ref c_origins, .ref c_before, .ref c_lawsByNight, chv, .int cnum])), (c_row, .inl (cyI, 7, .inl c_f_row)), (c_origins, .inl (cyI, 7, .inl c_f_origins)), (c_before, .inl (cyI, 7, .inl c_f_before)), (c_lawsByNight, .inl (cyI, 60, .inl c_f_lawsByNight))] := (va_D.tt hD_x (va_D.tt hD_hall hD_course (by decide)) (by decide))
  refine ⟨_, _, _, x_right l dC dI cyI cyB cyJ cyZ cyH cyN tR tF aK aV st.heap.size x0 h0 a_first a_now a_lawPlace a_lawOther a_lawEach a_lawFrom a_foes a_suitTable a_acts a_pl a_li a_le a_lc a_ac a_ng a_f_first a_f_now a_f_lawPlace a_f_lawOther a_f_lawEach a_f_lawFrom a_f_foes a_f_suitTable a_f_acts c0 c_row c_origins c_before c_lawsByNight cnum c_f_row c_f_origins c_f_before c_f_lawsByNight chv t0 d0 im ke sl0 v0 q0 s0 gm0 l0 to tr vsl p0 Fhall_0 Fhall_1 Fhall_2 Fhall_3 Fhall_4 Fcourse_0 Fcourse_1 Fcourse_2 Fhall_5 Fhall_6 Fhall_7 Fhall_8, ⟨ha, rfl, hPa, hK.sub [0, 1, 2, 3, 4, 5] rfl, hDa.weaken (fun _ _ _ _ => trivial), hFX.narrow (ax_of hDa (by decide))⟩, ?_, ax_of hDa (by decide)⟩
  rintro o t ⟨⟨r, u, ho, hr, z0, z1, y2, y3, y4, y5, P0, P1, P2, hP', hD'⟩, hF⟩
  refine ⟨⟨r, (), ho, hr, a_pl, s_n0, s_n1, s_n2, s_n3, t0, h0, d0, im, ke, sl0, c0, v0, q0, s0, gm0, l0, to, tr, vsl, ⟨_, rfl, hP'.sub [0] rfl, hD_x.same rfl⟩,
    h_tape.frame hF hDa (by decide),
    ⟨_, ⟨a_first, a_now, a_lawPlace, a_lawOther, a_lawEach, a_lawFrom, a_foes, a_suitTable, a_acts, a_li, a_le, a_lc, a_ac, a_ng, a_f_first, a_f_now, a_f_lawPlace, a_f_lawOther, a_f_lawEach, a_f_lawFrom, a_f_foes, a_f_suitTable, a_f_acts, Fhall_0, Fhall_1, Fhall_2, Fhall_3, Fhall_4, Fhall_5, Fhall_6, Fhall_7, Fhall_8, rfl⟩, hP'.sub [1, 2, 3, 4, 5, 6, 7, 8, 9, 10] rfl, hD_hall.same rfl⟩,
    h_draft.frame hF hDa (by decide),
    h_images.frame hF hDa (by decide),
    h_kept.frame hF hDa (by decide),
    h_slots.frame hF hDa (by decide),
    ⟨_, ⟨c_row, c_origins, c_before, c_lawsByNight, z1, y2, y3, y4, y5, z0, P0, P1, P2, rfl⟩, hP'.sub [11, 12, 13, 14, 15] rfl, hD_course.same rfl⟩,
    h_sight.frame hF hDa (by decide),
    h_parting.frame hF hDa (by decide),
    h_suiting.frame hF hDa (by decide),
    h_game.frame hF hDa (by decide),
    h_lots.frame hF hDa (by decide),
    h_told.frame hF hDa (by decide),
    h_tried.frame hF hDa (by decide),
    hsl.go (tt_keep hF hDa (by decide))⟩, hF.wide (ax_of hDa (by decide))⟩
set_option maxHeartbeats 4000000 in
set_option maxRecDepth 100000 in
theorem wx_rights (l : Launch) (dC : Nat → ClassId) (dI : Nat → Nat → Nat) (cyI cyB cyJ cyZ cyH cyN cyM : ClassId) (tR tF : Nat) (aK aV : Nat → Nat) (tg : Nat → Nat) (sz : Nat) (x0 sl : Nat) (ke_f s_fm s_fl s_fw : Nat → Int32)  : Met l yX11_rights (wk yX11_rights cX11_rights 1 (some .int)) ({ frames := 2, cells := 0, slots := 0, locals := 83 }) (va_Pc [.ref x0] (XP dC dI cyI cyB cyJ cyZ cyH cyN cyM tR tF aK aV tg sz x0 sl ke_f s_fm s_fl s_fw)) (va_Qi (fun (r : Int32) (_ : Unit) => True) (fun (_ : Unit) (t : State) => XE dC dI cyI cyB cyJ cyZ cyH cyN cyM tg x0 sl ke_f s_fm s_fl s_fw t.heap) (AX tg sz)) 0 0 (AX tg sz) := by
  refine met_of (fun a st hp => ?_)
  obtain ⟨ha, hsz, ⟨a_pl, s_n0, s_n1, s_n2, s_n3, t0, h0, d0, im, ke, sl0, c0, v0, q0, s0, gm0, l0, to, tr, vsl, hx, h_tape, h_hall, h_draft, h_images, h_kept, h_slots, h_course, h_sight, h_parting, h_suiting, h_game, h_lots, h_told, h_tried, hsl⟩, hK, hNB, hFX⟩ := hp
  subst hsz
  obtain ⟨_, rfl, hP_x, hD_x⟩ := hx
  obtain ⟨_, ⟨a_first, a_now, a_lawPlace, a_lawOther, a_lawEach, a_lawFrom, a_foes, a_suitTable, a_acts, a_li, a_le, a_lc, a_ac, a_ng, a_f_first, a_f_now, a_f_lawPlace, a_f_lawOther, a_f_lawEach, a_f_lawFrom, a_f_foes, a_f_suitTable, a_f_acts, Fhall_0, Fhall_1, Fhall_2, Fhall_3, Fhall_4, Fhall_5, Fhall_6, Fhall_7, Fhall_8, rfl⟩, hP_hall, hD_hall⟩ := h_hall
  have hPa : va_P (dC, dI) vwCl [(x0, .inr (10, [.ref t0, .ref h0, .ref d0, .ref im, .ref ke, .ref sl0, .ref c0, .ref v0, .ref q0, .ref s0, .ref gm0, .ref l0, .ref to, .ref tr, vsl])), (h0, .inr (2, [.int a_pl, .int a_li, .int a_le, .int a_lc, .int a_ac, .int a_ng, .ref a_first, .ref a_now, .ref a_lawPlace, .ref a_lawOther, .ref a_lawEach, .ref a_lawFrom, .ref a_foes, .ref a_suitTable, .ref a_acts])), (a_first, .inl (cyI, 7, .inl a_f_first)), (a_now, .inl (cyI, 7, .inl a_f_now)), (a_lawPlace, .inl (cyI, 6, .inl a_f_lawPlace)), (a_lawOther, .inl (cyI, 6, .inl a_f_lawOther)), (a_lawEach, .inl (cyI, 6, .inl a_f_lawEach)), (a_lawFrom, .inl (cyI, 6, .inl a_f_lawFrom)), (a_foes, .inl (cyI, 7, .inl a_f_foes)), (a_suitTable, .inl (cyI, 49, .inl a_f_suitTable)), (a_acts, .inl (cyI, 40, .inl a_f_acts))] st.heap := va_P.app hP_x hP_hall
  have hDa : va_D (TT tg [0, 2]) [(x0, .inr (10, [.ref t0, .ref h0, .ref d0, .ref im, .ref ke, .ref sl0, .ref c0, .ref v0, .ref q0, .ref s0, .ref gm0, .ref l0, .ref to, .ref tr, vsl])), (h0, .inr (2, [.int a_pl, .int a_li, .int a_le, .int a_lc, .int a_ac, .int a_ng, .ref a_first, .ref a_now, .ref a_lawPlace, .ref a_lawOther, .ref a_lawEach, .ref a_lawFrom, .ref a_foes, .ref a_suitTable, .ref a_acts])), (a_first, .inl (cyI, 7, .inl a_f_first)), (a_now, .inl (cyI, 7, .inl a_f_now)), (a_lawPlace, .inl (cyI, 6, .inl a_f_lawPlace)), (a_lawOther, .inl (cyI, 6, .inl a_f_lawOther)), (a_lawEach, .inl (cyI, 6, .inl a_f_lawEach)), (a_lawFrom, .inl (cyI, 6, .inl a_f_lawFrom)), (a_foes, .inl (cyI, 7, .inl a_f_foes)), (a_suitTable, .inl (cyI, 49, .inl a_f_suitTable)), (a_acts, .inl (cyI, 40, .inl a_f_acts))] := (va_D.tt hD_x hD_hall (by decide))
  refine ⟨_, _, _, x_rights l dC dI cyI cyB cyJ cyZ cyH cyN tR tF aK aV st.heap.size x0 h0 a_first a_now a_lawPlace a_lawOther a_lawEach a_lawFrom a_foes a_suitTable a_acts a_pl a_li a_le a_lc a_ac a_ng a_f_first a_f_now a_f_lawPlace a_f_lawOther a_f_lawEach a_f_lawFrom a_f_foes a_f_suitTable a_f_acts t0 d0 im ke sl0 c0 v0 q0 s0 gm0 l0 to tr vsl Fhall_0 Fhall_1 Fhall_2 Fhall_3 Fhall_4 Fhall_5 Fhall_6 Fhall_7 Fhall_8, ⟨ha, rfl, hPa, hK.sub [0, 1, 2, 3, 4, 5] rfl, hDa.weaken (fun _ _ _ _ => trivial), hFX.narrow (ax_of hDa (by decide))⟩, ?_, ax_of hDa (by decide)⟩
  rintro o t ⟨⟨r, u, ho, hr, hP', hD'⟩, hF⟩
  refine ⟨⟨r, (), ho, hr, a_pl, s_n0, s_n1, s_n2, s_n3, t0, h0, d0, im, ke, sl0, c0, v0, q0, s0, gm0, l0, to, tr, vsl, ⟨_, rfl, hP'.sub [0] rfl, hD_x.same rfl⟩,
    h_tape.frame hF hDa (by decide),
    ⟨_, ⟨a_first, a_now, a_lawPlace, a_lawOther, a_lawEach, a_lawFrom, a_foes, a_suitTable, a_acts, a_li, a_le, a_lc, a_ac, a_ng, a_f_first, a_f_now, a_f_lawPlace, a_f_lawOther, a_f_lawEach, a_f_lawFrom, a_f_foes, a_f_suitTable, a_f_acts, Fhall_0, Fhall_1, Fhall_2, Fhall_3, Fhall_4, Fhall_5, Fhall_6, Fhall_7, Fhall_8, rfl⟩, hP'.sub [1, 2, 3, 4, 5, 6, 7, 8, 9, 10] rfl, hD_hall.same rfl⟩,
    h_draft.frame hF hDa (by decide),
    h_images.frame hF hDa (by decide),
    h_kept.frame hF hDa (by decide),
    h_slots.frame hF hDa (by decide),
    h_course.frame hF hDa (by decide),
    h_sight.frame hF hDa (by decide),
    h_parting.frame hF hDa (by decide),
    h_suiting.frame hF hDa (by decide),
    h_game.frame hF hDa (by decide),
    h_lots.frame hF hDa (by decide),
    h_told.frame hF hDa (by decide),
    h_tried.frame hF hDa (by decide),
    hsl.go (tt_keep hF hDa (by decide))⟩, hF.wide (ax_of hDa (by decide))⟩
set_option maxHeartbeats 4000000 in
set_option maxRecDepth 100000 in
theorem wx_whole (l : Launch) (dC : Nat → ClassId) (dI : Nat → Nat → Nat) (cyI cyB cyJ cyZ cyH cyN cyM : ClassId) (tR tF : Nat) (aK aV : Nat → Nat) (tg : Nat → Nat) (sz : Nat) (x0 sl : Nat) (ke_f s_fm s_fl s_fw : Nat → Int32)  : Met l yX11_whole (wk yX11_whole cX11_whole 2 (some .int)) ({ frames := 4, cells := 0, slots := 0, locals := 128 }) (va_Pc [.ref x0] (XP dC dI cyI cyB cyJ cyZ cyH cyN cyM tR tF aK aV tg sz x0 sl ke_f s_fm s_fl s_fw)) (va_Qi (fun (r : Int32) (_ : Unit) => True) (fun (_ : Unit) (t : State) => XE dC dI cyI cyB cyJ cyZ cyH cyN cyM tg x0 sl ke_f s_fm s_fl s_fw t.heap) (AX tg sz)) 0 0 (AX tg sz) := by
  refine met_of (fun a st hp => ?_)
  obtain ⟨ha, hsz, ⟨a_pl, s_n0, s_n1, s_n2, s_n3, t0, h0, d0, im, ke, sl0, c0, v0, q0, s0, gm0, l0, to, tr, vsl, hx, h_tape, h_hall, h_draft, h_images, h_kept, h_slots, h_course, h_sight, h_parting, h_suiting, h_game, h_lots, h_told, h_tried, hsl⟩, hK, hNB, hFX⟩ := hp
  subst hsz
  obtain ⟨_, rfl, hP_x, hD_x⟩ := hx
  obtain ⟨_, ⟨a_first, a_now, a_lawPlace, a_lawOther, a_lawEach, a_lawFrom, a_foes, a_suitTable, a_acts, a_li, a_le, a_lc, a_ac, a_ng, a_f_first, a_f_now, a_f_lawPlace, a_f_lawOther, a_f_lawEach, a_f_lawFrom, a_f_foes, a_f_suitTable, a_f_acts, Fhall_0, Fhall_1, Fhall_2, Fhall_3, Fhall_4, Fhall_5, Fhall_6, Fhall_7, Fhall_8, rfl⟩, hP_hall, hD_hall⟩ := h_hall
  obtain ⟨_, ⟨c_row, c_origins, c_before, c_lawsByNight, cnum, c_f_row, c_f_origins, c_f_before, c_f_lawsByNight, chv, Fcourse_0, Fcourse_1, Fcourse_2, rfl⟩, hP_course, hD_course⟩ := h_course
  have hPa : va_P (dC, dI) vwCl [(x0, .inr (10, [.ref t0, .ref h0, .ref d0, .ref im, .ref ke, .ref sl0, .ref c0, .ref v0, .ref q0, .ref s0, .ref gm0, .ref l0, .ref to, .ref tr, vsl])), (h0, .inr (2, [.int a_pl, .int a_li, .int a_le, .int a_lc, .int a_ac, .int a_ng, .ref a_first, .ref a_now, .ref a_lawPlace, .ref a_lawOther, .ref a_lawEach, .ref a_lawFrom, .ref a_foes, .ref a_suitTable, .ref a_acts])), (a_first, .inl (cyI, 7, .inl a_f_first)), (a_now, .inl (cyI, 7, .inl a_f_now)), (a_lawPlace, .inl (cyI, 6, .inl a_f_lawPlace)), (a_lawOther, .inl (cyI, 6, .inl a_f_lawOther)), (a_lawEach, .inl (cyI, 6, .inl a_f_lawEach)), (a_lawFrom, .inl (cyI, 6, .inl a_f_lawFrom)), (a_foes, .inl (cyI, 7, .inl a_f_foes)), (a_suitTable, .inl (cyI, 49, .inl a_f_suitTable)), (a_acts, .inl (cyI, 40, .inl a_f_acts)), (c0, .inr (0, [.ref c_row, .ref c_origins, .ref c_before, .ref c_lawsByNight, chv, .int cnum])), (c_row, .inl (cyI, 7, .inl c_f_row)), (c_origins, .inl (cyI, 7, .inl c_f_origins)), (c_before, .inl (cyI, 7, .inl c_f_before)), (c_lawsByNight, .inl (cyI, 60, .inl c_f_lawsByNight))] st.heap := va_P.app hP_x (va_P.app hP_hall hP_course)
  have hDa : va_D (TT tg [0, 2, 7]) [(x0, .inr (10, [.ref t0, .ref h0, .ref d0, .ref im, .ref ke, .ref sl0, .ref c0, .ref v0, .ref q0, .ref s0, .ref gm0, .ref l0, .ref to, .ref tr, vsl])), (h0, .inr (2, [.int a_pl, .int a_li, .int a_le, .int a_lc, .int a_ac, .int a_ng, .ref a_first, .ref a_now, .ref a_lawPlace, .ref a_lawOther, .ref a_lawEach, .ref a_lawFrom, .ref a_foes, .ref a_suitTable, .ref a_acts])), (a_first, .inl (cyI, 7, .inl a_f_first)), (a_now, .inl (cyI, 7, .inl a_f_now)), (a_lawPlace, .inl (cyI, 6, .inl a_f_lawPlace)), (a_lawOther, .inl (cyI, 6, .inl a_f_lawOther)), (a_lawEach, .inl (cyI, 6, .inl a_f_lawEach)), (a_lawFrom, .inl (cyI, 6, .inl a_f_lawFrom)), (a_foes, .inl (cyI, 7, .inl a_f_foes)), (a_suitTable, .inl (cyI, 49, .inl a_f_suitTable)), (a_acts, .inl (cyI, 40, .inl a_f_acts)), (c0, .inr (0, [.ref c_row, .ref c_origins, .ref c_before, .ref c_lawsByNight, chv, .int cnum])), (c_row, .inl (cyI, 7, .inl c_f_row)), (c_origins, .inl (cyI, 7, .inl c_f_origins)), (c_before, .inl (cyI, 7, .inl c_f_before)), (c_lawsByNight, .inl (cyI, 60, .inl c_f_lawsByNight))] := (va_D.tt hD_x (va_D.tt hD_hall hD_course (by decide)) (by decide))
  refine ⟨_, _, _, x_whole l dC dI cyI cyB cyJ cyZ cyH cyN tR tF aK aV st.heap.size x0 h0 a_first a_now a_lawPlace a_lawOther a_lawEach a_lawFrom a_foes a_suitTable a_acts a_pl a_li a_le a_lc a_ac a_ng a_f_first a_f_now a_f_lawPlace a_f_lawOther a_f_lawEach a_f_lawFrom a_f_foes a_f_suitTable a_f_acts c0 c_row c_origins c_before c_lawsByNight cnum c_f_row c_f_origins c_f_before c_f_lawsByNight chv t0 d0 im ke sl0 v0 q0 s0 gm0 l0 to tr vsl Fhall_0 Fhall_1 Fhall_2 Fhall_3 Fhall_4 Fcourse_0 Fcourse_1 Fcourse_2 Fhall_5 Fhall_6 Fhall_7 Fhall_8, ⟨ha, rfl, hPa, hK.sub [0, 1, 2, 3, 4, 5] rfl, hDa.weaken (fun _ _ _ _ => trivial), hFX.narrow (ax_of hDa (by decide))⟩, ?_, ax_of hDa (by decide)⟩
  rintro o t ⟨⟨r, u, ho, hr, z0, z1, y2, y3, P0, hP', hD'⟩, hF⟩
  refine ⟨⟨r, (), ho, hr, a_pl, s_n0, s_n1, s_n2, s_n3, t0, h0, d0, im, ke, sl0, c0, v0, q0, s0, gm0, l0, to, tr, vsl, ⟨_, rfl, hP'.sub [0] rfl, hD_x.same rfl⟩,
    h_tape.frame hF hDa (by decide),
    ⟨_, ⟨a_first, a_now, a_lawPlace, a_lawOther, a_lawEach, a_lawFrom, a_foes, a_suitTable, a_acts, a_li, a_le, a_lc, a_ac, a_ng, a_f_first, a_f_now, a_f_lawPlace, a_f_lawOther, a_f_lawEach, a_f_lawFrom, a_f_foes, a_f_suitTable, a_f_acts, Fhall_0, Fhall_1, Fhall_2, Fhall_3, Fhall_4, Fhall_5, Fhall_6, Fhall_7, Fhall_8, rfl⟩, hP'.sub [1, 2, 3, 4, 5, 6, 7, 8, 9, 10] rfl, hD_hall.same rfl⟩,
    h_draft.frame hF hDa (by decide),
    h_images.frame hF hDa (by decide),
    h_kept.frame hF hDa (by decide),
    h_slots.frame hF hDa (by decide),
    ⟨_, ⟨c_row, c_origins, c_before, c_lawsByNight, z1, y2, c_f_origins, c_f_before, y3, z0, P0, Fcourse_1, Fcourse_2, rfl⟩, hP'.sub [11, 12, 13, 14, 15] rfl, hD_course.same rfl⟩,
    h_sight.frame hF hDa (by decide),
    h_parting.frame hF hDa (by decide),
    h_suiting.frame hF hDa (by decide),
    h_game.frame hF hDa (by decide),
    h_lots.frame hF hDa (by decide),
    h_told.frame hF hDa (by decide),
    h_tried.frame hF hDa (by decide),
    hsl.go (tt_keep hF hDa (by decide))⟩, hF.wide (ax_of hDa (by decide))⟩
set_option maxHeartbeats 4000000 in
set_option maxRecDepth 100000 in
theorem wx_round (l : Launch) (dC : Nat → ClassId) (dI : Nat → Nat → Nat) (cyI cyB cyJ cyZ cyH cyN cyM : ClassId) (tR tF : Nat) (aK aV : Nat → Nat) (tg : Nat → Nat) (sz : Nat) (x0 sl : Nat) (ke_f s_fm s_fl s_fw : Nat → Int32)  : Met l yX11_round (wk yX11_round cX11_round 2 (some .int)) ({ frames := 4, cells := 0, slots := 0, locals := 128 }) (va_Pc [.ref x0] (XP dC dI cyI cyB cyJ cyZ cyH cyN cyM tR tF aK aV tg sz x0 sl ke_f s_fm s_fl s_fw)) (va_Qi (fun (r : Int32) (_ : Unit) => True) (fun (_ : Unit) (t : State) => XE dC dI cyI cyB cyJ cyZ cyH cyN cyM tg x0 sl ke_f s_fm s_fl s_fw t.heap) (AX tg sz)) 0 0 (AX tg sz) := by
  refine met_of (fun a st hp => ?_)
  obtain ⟨ha, hsz, ⟨a_pl, s_n0, s_n1, s_n2, s_n3, t0, h0, d0, im, ke, sl0, c0, v0, q0, s0, gm0, l0, to, tr, vsl, hx, h_tape, h_hall, h_draft, h_images, h_kept, h_slots, h_course, h_sight, h_parting, h_suiting, h_game, h_lots, h_told, h_tried, hsl⟩, hK, hNB, hFX⟩ := hp
  subst hsz
  obtain ⟨_, rfl, hP_x, hD_x⟩ := hx
  obtain ⟨_, ⟨a_first, a_now, a_lawPlace, a_lawOther, a_lawEach, a_lawFrom, a_foes, a_suitTable, a_acts, a_li, a_le, a_lc, a_ac, a_ng, a_f_first, a_f_now, a_f_lawPlace, a_f_lawOther, a_f_lawEach, a_f_lawFrom, a_f_foes, a_f_suitTable, a_f_acts, Fhall_0, Fhall_1, Fhall_2, Fhall_3, Fhall_4, Fhall_5, Fhall_6, Fhall_7, Fhall_8, rfl⟩, hP_hall, hD_hall⟩ := h_hall
  obtain ⟨_, ⟨c_row, c_origins, c_before, c_lawsByNight, cnum, c_f_row, c_f_origins, c_f_before, c_f_lawsByNight, chv, Fcourse_0, Fcourse_1, Fcourse_2, rfl⟩, hP_course, hD_course⟩ := h_course
  have hPa : va_P (dC, dI) vwCl [(x0, .inr (10, [.ref t0, .ref h0, .ref d0, .ref im, .ref ke, .ref sl0, .ref c0, .ref v0, .ref q0, .ref s0, .ref gm0, .ref l0, .ref to, .ref tr, vsl])), (h0, .inr (2, [.int a_pl, .int a_li, .int a_le, .int a_lc, .int a_ac, .int a_ng, .ref a_first, .ref a_now, .ref a_lawPlace, .ref a_lawOther, .ref a_lawEach, .ref a_lawFrom, .ref a_foes, .ref a_suitTable, .ref a_acts])), (a_first, .inl (cyI, 7, .inl a_f_first)), (a_now, .inl (cyI, 7, .inl a_f_now)), (a_lawPlace, .inl (cyI, 6, .inl a_f_lawPlace)), (a_lawOther, .inl (cyI, 6, .inl a_f_lawOther)), (a_lawEach, .inl (cyI, 6, .inl a_f_lawEach)), (a_lawFrom, .inl (cyI, 6, .inl a_f_lawFrom)), (a_foes, .inl (cyI, 7, .inl a_f_foes)), (a_suitTable, .inl (cyI, 49, .inl a_f_suitTable)), (a_acts, .inl (cyI, 40, .inl a_f_acts)), (c0, .inr (0, [.ref c_row, .ref c_origins, .ref c_before, .ref c_lawsByNight, chv, .int cnum])), (c_row, .inl (cyI, 7, .inl c_f_row)), (c_origins, .inl (cyI, 7, .inl c_f_origins)), (c_before, .inl (cyI, 7, .inl c_f_before)), (c_lawsByNight, .inl (cyI, 60, .inl c_f_lawsByNight))] st.heap := va_P.app hP_x (va_P.app hP_hall hP_course)
  have hDa : va_D (TT tg [0, 2, 7]) [(x0, .inr (10, [.ref t0, .ref h0, .ref d0, .ref im, .ref ke, .ref sl0, .ref c0, .ref v0, .ref q0, .ref s0, .ref gm0, .ref l0, .ref to, .ref tr, vsl])), (h0, .inr (2, [.int a_pl, .int a_li, .int a_le, .int a_lc, .int a_ac, .int a_ng, .ref a_first, .ref a_now, .ref a_lawPlace, .ref a_lawOther, .ref a_lawEach, .ref a_lawFrom, .ref a_foes, .ref a_suitTable, .ref a_acts])), (a_first, .inl (cyI, 7, .inl a_f_first)), (a_now, .inl (cyI, 7, .inl a_f_now)), (a_lawPlace, .inl (cyI, 6, .inl a_f_lawPlace)), (a_lawOther, .inl (cyI, 6, .inl a_f_lawOther)), (a_lawEach, .inl (cyI, 6, .inl a_f_lawEach)), (a_lawFrom, .inl (cyI, 6, .inl a_f_lawFrom)), (a_foes, .inl (cyI, 7, .inl a_f_foes)), (a_suitTable, .inl (cyI, 49, .inl a_f_suitTable)), (a_acts, .inl (cyI, 40, .inl a_f_acts)), (c0, .inr (0, [.ref c_row, .ref c_origins, .ref c_before, .ref c_lawsByNight, chv, .int cnum])), (c_row, .inl (cyI, 7, .inl c_f_row)), (c_origins, .inl (cyI, 7, .inl c_f_origins)), (c_before, .inl (cyI, 7, .inl c_f_before)), (c_lawsByNight, .inl (cyI, 60, .inl c_f_lawsByNight))] := (va_D.tt hD_x (va_D.tt hD_hall hD_course (by decide)) (by decide))
  refine ⟨_, _, _, x_round l dC dI cyI cyB cyJ cyZ cyH cyN tR tF aK aV st.heap.size x0 h0 a_first a_now a_lawPlace a_lawOther a_lawEach a_lawFrom a_foes a_suitTable a_acts a_pl a_li a_le a_lc a_ac a_ng a_f_first a_f_now a_f_lawPlace a_f_lawOther a_f_lawEach a_f_lawFrom a_f_foes a_f_suitTable a_f_acts c0 c_row c_origins c_before c_lawsByNight cnum c_f_row c_f_origins c_f_before c_f_lawsByNight chv t0 d0 im ke sl0 v0 q0 s0 gm0 l0 to tr vsl Fhall_0 Fhall_1 Fhall_2 Fhall_3 Fhall_4 Fcourse_0 Fcourse_1 Fcourse_2 Fhall_5 Fhall_6 Fhall_7 Fhall_8, ⟨ha, rfl, hPa, hK.sub [0, 1, 2, 3, 4, 5] rfl, hDa.weaken (fun _ _ _ _ => trivial), hFX.narrow (ax_of hDa (by decide))⟩, ?_, ax_of hDa (by decide)⟩
  rintro o t ⟨⟨r, u, ho, hr, z0, z1, y2, y3, P0, hP', hD'⟩, hF⟩
  refine ⟨⟨r, (), ho, hr, a_pl, s_n0, s_n1, s_n2, s_n3, t0, h0, d0, im, ke, sl0, c0, v0, q0, s0, gm0, l0, to, tr, vsl, ⟨_, rfl, hP'.sub [0] rfl, hD_x.same rfl⟩,
    h_tape.frame hF hDa (by decide),
    ⟨_, ⟨a_first, a_now, a_lawPlace, a_lawOther, a_lawEach, a_lawFrom, a_foes, a_suitTable, a_acts, a_li, a_le, a_lc, a_ac, a_ng, a_f_first, a_f_now, a_f_lawPlace, a_f_lawOther, a_f_lawEach, a_f_lawFrom, a_f_foes, a_f_suitTable, a_f_acts, Fhall_0, Fhall_1, Fhall_2, Fhall_3, Fhall_4, Fhall_5, Fhall_6, Fhall_7, Fhall_8, rfl⟩, hP'.sub [1, 2, 3, 4, 5, 6, 7, 8, 9, 10] rfl, hD_hall.same rfl⟩,
    h_draft.frame hF hDa (by decide),
    h_images.frame hF hDa (by decide),
    h_kept.frame hF hDa (by decide),
    h_slots.frame hF hDa (by decide),
    ⟨_, ⟨c_row, c_origins, c_before, c_lawsByNight, z1, y2, c_f_origins, c_f_before, y3, z0, P0, Fcourse_1, Fcourse_2, rfl⟩, hP'.sub [11, 12, 13, 14, 15] rfl, hD_course.same rfl⟩,
    h_sight.frame hF hDa (by decide),
    h_parting.frame hF hDa (by decide),
    h_suiting.frame hF hDa (by decide),
    h_game.frame hF hDa (by decide),
    h_lots.frame hF hDa (by decide),
    h_told.frame hF hDa (by decide),
    h_tried.frame hF hDa (by decide),
    hsl.go (tt_keep hF hDa (by decide))⟩, hF.wide (ax_of hDa (by decide))⟩

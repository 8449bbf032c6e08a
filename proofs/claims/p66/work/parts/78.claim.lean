/-! THE CLAIM OUT OF ONE WALK OF THE LAW'S BODY. Your part is whole_start (and what it stands on); all else here is the same for every law, but numbers. -/
def R_law : String := "SwapTrophiesLaw"
def lw_P (b : Addr) (xs : List Int32) (args : Array Value) (s : State) : Prop := args = #[.ref b] ∧ s.IntsAt b xs ∧ xs.length ≤ 3072 ∧ (Jvm.Cond.and given_1 narrow_1).before args s = true
def lw_Q (_ : Array Value) (s : State) (o : Outcome) (t : State) : Prop := o = .returned (some (.int 1)) ∧ Framed s o t [] 600000 7302250
def lw_Z (below : List Frame) (a : Array Value) (s : State) : State → Prop := fun t => ∃ o, t.status = .running ∧ Ended t below o ∧ lw_Q a s o t
/-- the law's own end, with 1 on the stack, nothing written that was there before, its room as the claim has it -/
theorem lw_ret {p : Program} {l : Launch} {e : Env} {s : State} {m : MethodId} {below : List Frame} {meth : Method} {c : Code} {b : Nat} (hx : p.tables.exec = Jvm.exec) (hb : c.code = code) (hr : meth.sig.returnType = ret) (hlocks : meth.locks = false) {pc : Nat} {H : Heap} {ls : Array Slot} (hdg : decode code pc = .ok (.ireturn, 1)) : W p l e room_1 s m #[Value.ref b] below meth c H [] 600000 7302250 (lw_Z below #[Value.ref b] s) (F0 m pc ls [.int 1]) := by
  intro T hT X
  obtain ⟨fs, hret, hrun, hended, hW, hframe⟩ := X.leave (v := some (.int 1)) (hlocks := hlocks) (fun h => by rw [hr] at h; cases h)
  have hmeth' : T.vm.method? m = some meth := X.method'
  refine ⟨T.setFrames fs, ?_, .returned (some (.int 1)), hrun, hended, rfl, ⟨_, rfl⟩, hW, hframe⟩
  jvm_step X.here [X.here.top, hx, hb, hdg, hmeth', hr, ret, narrow_b1]
  (try refine ⟨rfl, ?_⟩); (try refine ⟨rfl, ?_⟩)
  first | (intro acts; rw [hret _ acts rfl rfl rfl]) | rw [hret _ _ rfl rfl rfl]
  exact Steps.refl _
/-- what holds at the law's entry: the machine, the code, the tables' words (any of lw_tbl by 'hts w (by decide +kernel)'), the script of L ints xs at the cell b, what the Statement gives of the start (any of its parts by flat_of_before) -/
def lw_At (p : Program) (s : State) (m : MethodId) (meth : Method) (c : Code) (b L : Nat) (xs : Nat → Int32) : Prop :=
  p.tables.exec = Jvm.exec ∧ c.code = code ∧ meth.sig.returnType = ret ∧ c.maxLocals = 4 ∧ s.vm.findClass R_law = some m.cls ∧ (∀ w ∈ lw_tbl, w.before #[Value.ref b] s = true) ∧ va_X b L xs s s.heap ∧ b < s.heap.size ∧ meth.locks = false ∧ (Jvm.Cond.and given_1 narrow_1).before #[Value.ref b] s = true

def RR (fk fm fl fw gk gl gw : Nat → Int32) : Prop := (∀ k, k < 3 → gk k = fk k) ∧ ∀ k, k < 4 → ((fm k).toInt = 0 ∧ (gw k).toInt = -1) ∨ ((fm k).toInt = 1 ∧ gw k = fw k ∧ gl k = fl k ∧ 0 ≤ (fw k).toInt)
theorem RR.zero {gk gl gw : Nat → Int32} (h1 : gk = fun _ => 0) (h2 : ∀ j : Nat, j < 4 → gw j = -1) : RR (fun _ => 0) (fun _ => 0) (fun _ => 0) (fun _ => 0) gk gl gw := ⟨fun k _ => by rw [h1], fun k hk => Or.inl ⟨rfl, by rw [h2 k hk]; rfl⟩⟩
theorem cv_clamp {x : Int32} {n : Nat} (h0 : 0 ≤ x.toInt) (h : x.toInt < n) : x.toNatClampNeg < n := by
  show x.toInt.toNat < n
  omega
theorem RR.row {fk fm fl fw gk gl gw fm' fl' fw' gl' gw' : Nat → Int32} {p0 p1 p2 : Int32} (h : RR fk fm fl fw gk gl gw) (a : rwq p0 p1 p2 fm fl fw fm' fl' fw') (b : rmq p0 p1 p2 gw gl gw' gl') : RR fk fm' fl' fw' gk gl' gw' := by
  by_cases c : (0 ≤ p0.toInt ∧ p0.toInt < 4) ∧ (0 ≤ p1.toInt ∧ p1.toInt < 4) ∧ 0 ≤ p2.toInt ∧ p2.toInt ≤ 60
  · obtain ⟨e1, e2, e3⟩ := a.1 c
    obtain ⟨e4, e5⟩ := b.1 c
    refine ⟨h.1, fun k hk => ?_⟩
    rw [e1, e2, e3, e4, e5]
    by_cases e : k = p0.toNatClampNeg
    · right
      rw [e, pk_us, pk_us, pk_us, pk_us, pk_us]
      exact ⟨rfl, rfl, rfl, c.2.1.1⟩
    · rw [pk_un e, pk_un e, pk_un e, pk_un e, pk_un e]
      exact h.2 k hk
  · obtain ⟨e1, e2, e3⟩ := a.2 c
    obtain ⟨e4, e5⟩ := b.2 c
    rw [e1, e2, e3, e4, e5]
    exact h
theorem RR.image {fk fm fl fw gk gl gw fk' gk' : Nat → Int32} {p : Int32} (h : RR fk fm fl fw gk gl gw) (a : kq p fk fk') (b : kq p gk gk') : RR fk' fm fl fw gk' gl gw := by
  by_cases c : 0 ≤ p.toInt ∧ p.toInt ≤ 2
  · refine ⟨fun k hk => ?_, h.2⟩
    rw [a.1 c, b.1 c]
    by_cases e : k = p.toNatClampNeg
    · rw [e, pk_us, pk_us]
    · rw [pk_un e, pk_un e]
      exact h.1 k hk
  · rw [a.2 c, b.2 c]
    exact h
theorem RR.back {fk fm fl fw gk gl gw : Nat → Int32} {p : Int32} (h : RR fk fm fl fw gk gl gw) : bks p fk = bks p gk := by
  unfold bks
  by_cases c : 0 ≤ p.toInt ∧ p.toInt ≤ 2
  · rw [if_pos c, if_pos c, h.1 _ (cv_clamp c.1 (by omega))]
  · rw [if_neg c, if_neg c]
theorem RR.write {fk fm fl fw gk gl gw : Nat → Int32} {p0 p1 : Int32} (h : RR fk fm fl fw gk gl gw) : wrs p0 p1 fm fl = wrm p0 p1 gw gl := by
  unfold wrs wrm
  by_cases c : 0 ≤ p0.toInt ∧ p0.toInt < 4
  · rw [if_pos c, if_pos c]
    rcases h.2 _ (cv_clamp (n := 4) c.1 (by omega)) with ⟨a, b⟩ | ⟨a, b, d, e⟩
    · rw [if_pos a, if_pos b]
    · rw [if_neg (show ¬ (fm p0.toNatClampNeg).toInt = 0 by omega), if_neg (show ¬ (gw p0.toNatClampNeg).toInt = -1 by rw [b]; omega), d]
  · rw [if_neg c, if_neg c]
theorem RR.paste {fk fm fl fw gk gl gw : Nat → Int32} {p0 p1 p2 p3 p4 : Int32} (h : RR fk fm fl fw gk gl gw) : pst p0 p1 p2 p3 p4 fm fl fw = psm p0 p1 p2 p3 p4 gw gl := by
  unfold pst psm
  by_cases c : (0 ≤ p0.toInt ∧ p0.toInt < 4) ∧ (0 ≤ p2.toInt ∧ p2.toInt < 4)
  · rw [if_pos c, if_pos c]
    have h1 := h.2 _ (cv_clamp (n := 4) c.1.1 (by omega))
    have h2 := h.2 _ (cv_clamp (n := 4) c.2.1 (by omega))
    by_cases d : (fm p0.toNatClampNeg).toInt = 0 ∨ (fm p2.toNatClampNeg).toInt = 0
    · rw [if_pos d, if_pos (show (gw p0.toNatClampNeg).toInt = -1 ∨ (gw p2.toNatClampNeg).toInt = -1 by omega)]
    · rcases h1 with ⟨a, _⟩ | ⟨a1, b1, d1, e1⟩
      · exact absurd (Or.inl a) d
      · rcases h2 with ⟨a, _⟩ | ⟨a2, b2, d2, e2⟩
        · exact absurd (Or.inr a) d
        · rw [if_neg d, b1, b2, d1, d2, if_neg (show ¬ ((fw p0.toNatClampNeg).toInt = -1 ∨ (fw p2.toNatClampNeg).toInt = -1) by omega)]
  · rw [if_neg c, if_neg c]
def INV (dC : Nat → ClassId) (dI : Nat → Nat → Nat) (cyI cyB cyJ cyZ cyH cyN cyM : ClassId) (tg : Nat → Nat) (SZ x0 m0 : Nat) (H : Heap) (cells slots : Nat) : Prop := ∃ (sl : Nat) (ke_f s_fm s_fl s_fw m_isKept m_many m_width : Nat → Int32), XE dC dI cyI cyB cyJ cyZ cyH cyN cyM tg x0 sl ke_f s_fm s_fl s_fw H ∧ MI dC dI cyI cyB cyJ cyZ cyH cyN cyM tg m0 m_isKept m_many m_width H ∧ RR ke_f s_fm s_fl s_fw m_isKept m_many m_width ∧ SZ ≤ H.size ∧ (sl = 0 ∨ sl = 1) ∧ cells ≤ 110 + 16 * sl ∧ slots ≤ 15598 + 40501 * sl
def FIX (dC : Nat → ClassId) (dI : Nat → Nat → Nat) (cyI cyB cyJ cyZ cyH cyN cyM : ClassId) (tR tF : Nat) (aK aV : Nat → Nat) (tg : Nat → Nat) (SZ : Nat) (s : State) : Prop := va_K (dC, dI) vwCl [(cyI, .int), (cyB, .byte), (cyJ, .long), (cyZ, .boolean), (cyH, .object RX2), (cyN, .array .long), (cyM, .array .byte)] s ∧ cv_NB cyM cyB s ∧ cv_FX tR tF aK aV (fun q : Nat => s.heap.size ≤ q) s s.heap ∧ (∀ q, tg q < 21 → s.heap.size ≤ q) ∧ ∀ q, SZ ≤ q → tg q = 15
theorem ax_old {dC : Nat → ClassId} {dI : Nat → Nat → Nat} {cyI cyB cyJ cyZ cyH cyN cyM : ClassId} {tR tF : Nat} {aK aV : Nat → Nat} {tg : Nat → Nat} {SZ : Nat} {s : State} {H : Heap} {locs : List Loc} (h : FIX dC dI cyI cyB cyJ cyZ cyH cyN cyM tR tF aK aV tg SZ s) (hS : va_S (fun q : Nat => s.heap.size ≤ q) s.heap H locs) : ∀ q, AX tg H.size q → s.heap.size ≤ q := by
  rintro q (h1 | h1)
  · exact h.2.2.2.1 q (by omega)
  · exact Nat.le_trans hS.1 h1
theorem am_old {dC : Nat → ClassId} {dI : Nat → Nat → Nat} {cyI cyB cyJ cyZ cyH cyN cyM : ClassId} {tR tF : Nat} {aK aV : Nat → Nat} {tg : Nat → Nat} {SZ : Nat} {s : State} {H : Heap} {locs : List Loc} (h : FIX dC dI cyI cyB cyJ cyZ cyH cyN cyM tR tF aK aV tg SZ s) (hS : va_S (fun q : Nat => s.heap.size ≤ q) s.heap H locs) : ∀ q, AM tg H.size q → s.heap.size ≤ q := by
  rintro q (h1 | h1)
  · exact h.2.2.2.1 q (by omega)
  · exact Nat.le_trans hS.1 h1
theorem ax_not {tg : Nat → Nat} {n q : Nat} (h : q < n) (h2 : tg q = 20) : ¬ AX tg n q := by
  rintro (h1 | h1) <;> omega
theorem am_not {tg : Nat → Nat} {n q : Nat} (h : q < n) (h2 : tg q < 20) : ¬ AM tg n q := by
  rintro (h1 | h1) <;> omega
theorem xp_pre {dC : Nat → ClassId} {dI : Nat → Nat → Nat} {cyI cyB cyJ cyZ cyH cyN cyM : ClassId} {tR tF : Nat} {aK aV : Nat → Nat} {tg : Nat → Nat} {SZ : Nat} {s : State} {H : Heap} {locs : List Loc} {x0 sl : Nat} {ke_f s_fm s_fl s_fw : Nat → Int32} {As : List Value} (h : FIX dC dI cyI cyB cyJ cyZ cyH cyN cyM tR tF aK aV tg SZ s) (hS : va_S (fun q : Nat => s.heap.size ≤ q) s.heap H locs) (hX : XE dC dI cyI cyB cyJ cyZ cyH cyN cyM tg x0 sl ke_f s_fm s_fl s_fw H) : PreV s H "SwapTrophies" x0 (va_Pc (.ref x0 :: As) (XP dC dI cyI cyB cyJ cyZ cyH cyN cyM tR tF aK aV tg H.size x0 sl ke_f s_fm s_fl s_fw)) As := by
  refine ⟨fun a U g mk q => ?_, hX.obj h.1, fun U hU hW => ⟨rfl, by rw [hU], by rw [hU]; exact hX, va_K.moved hW.alike h.1, cv_NB.moved hW.alike h.2.1, cv_FX.go h.2.2.1 hW hS (ax_old h hS) hU⟩⟩
  obtain ⟨q0, q1, q2, q3, q4, q5⟩ := q
  exact ⟨q0, q1, q2, va_K.moved (u := U) (U := U.calling g mk a) (Vm.Alike.refl U.vm) q3, cv_NB.moved (Vm.Alike.refl _) q4, cv_FX.same q5 rfl rfl⟩
theorem xpi_pre {dC : Nat → ClassId} {dI : Nat → Nat → Nat} {cyI cyB cyJ cyZ cyH cyN cyM : ClassId} {tR tF : Nat} {aK aV : Nat → Nat} {tg : Nat → Nat} {SZ : Nat} {s : State} {H : Heap} {locs : List Loc} {x0 sl : Nat} {ke_f s_fm s_fl s_fw : Nat → Int32} {a_pl : Int32} {s_n0 s_n1 s_n2 s_n3 : Nat → Int64} {As : List Value} (h : FIX dC dI cyI cyB cyJ cyZ cyH cyN cyM tR tF aK aV tg SZ s) (hS : va_S (fun q : Nat => s.heap.size ≤ q) s.heap H locs) (hX : XI dC dI cyI cyB cyJ cyZ cyH cyN cyM tg x0 sl a_pl ke_f s_fm s_fl s_fw s_n0 s_n1 s_n2 s_n3 H) : PreV s H "SwapTrophies" x0 (va_Pc (.ref x0 :: As) (XPI dC dI cyI cyB cyJ cyZ cyH cyN cyM tR tF aK aV tg H.size x0 sl a_pl ke_f s_fm s_fl s_fw s_n0 s_n1 s_n2 s_n3)) As := by
  refine ⟨fun a U g mk q => ?_, XE.obj (ke_f := ke_f) (s_fm := s_fm) (s_fl := s_fl) (s_fw := s_fw) ⟨_, _, _, _, _, hX⟩ h.1, fun U hU hW => ⟨rfl, by rw [hU], by rw [hU]; exact hX, va_K.moved hW.alike h.1, cv_NB.moved hW.alike h.2.1, cv_FX.go h.2.2.1 hW hS (ax_old h hS) hU⟩⟩
  obtain ⟨q0, q1, q2, q3, q4, q5⟩ := q
  exact ⟨q0, q1, q2, va_K.moved (u := U) (U := U.calling g mk a) (Vm.Alike.refl U.vm) q3, cv_NB.moved (Vm.Alike.refl _) q4, cv_FX.same q5 rfl rfl⟩
theorem mp_pre {dC : Nat → ClassId} {dI : Nat → Nat → Nat} {cyI cyB cyJ cyZ cyH cyN cyM : ClassId} {tR tF : Nat} {aK aV : Nat → Nat} {tg : Nat → Nat} {SZ : Nat} {s : State} {H : Heap} {m0 : Nat} {m_isKept m_many m_width : Nat → Int32} {As : List Value} (h : FIX dC dI cyI cyB cyJ cyZ cyH cyN cyM tR tF aK aV tg SZ s) (hM : MI dC dI cyI cyB cyJ cyZ cyH cyN cyM tg m0 m_isKept m_many m_width H) : PreV s H "SwapTrophiesModel" m0 (va_Pc (.ref m0 :: As) (MP dC dI cyI cyB cyJ cyZ cyH cyN cyM tg H.size m0 m_isKept m_many m_width)) As := by
  refine ⟨fun a U g mk q => ?_, hM.obj h.1, fun U hU hW => ⟨rfl, by rw [hU], by rw [hU]; exact hM, va_K.moved hW.alike h.1⟩⟩
  obtain ⟨q0, q1, q2, q3⟩ := q
  exact ⟨q0, q1, q2, va_K.moved (u := U) (U := U.calling g mk a) (Vm.Alike.refl U.vm) q3⟩
theorem lw_ix {i k : Int32} {L : Nat} (h0 : 0 ≤ i.toInt) (h : i.toInt + 6 ≤ (L : Int)) (hL : L ≤ 3072) (hk : 0 ≤ k.toInt ∧ k.toInt ≤ 5) : vp_in (i + k) L := by
  refine vp_in_iff.mpr ?_
  rw [cv_addI (by omega) (by omega)]
  omega

/- J7_fill_53178 -/
set_option maxHeartbeats 4000000 in
set_option maxRecDepth 100000 in
theorem c_fill7 (l : Launch) (dC : Nat → ClassId) (dI : Nat → Nat → Nat) (cyI cyB cyJ cyZ cyH cyN : ClassId) (sz : Nat) (h0 : Nat) (f : Nat → Int32) (p0 : Int32) : Met l yJ7_fill_53178 (wk yJ7_fill_53178 cJ7_fill_53178 4 none) ({ frames := 1, cells := 0, slots := 0, locals := 60 }) (va_Pc [.ref h0, .int p0] (fun U => U.heap.size = sz ∧ va_P (dC, dI) vwCl [(h0, .inl (cyI, 7, .inl f))] U.heap ∧ va_K (dC, dI) vwCl [(cyI, .int), (cyB, .byte), (cyJ, .long), (cyZ, .boolean), (cyH, .object RX2), (cyN, .array .long)] U ∧ va_D (fun _ => True) [(h0, .inl (cyI, 7, .inl f))])) (va_Qv (fun _ : Unit => True) (fun (_ : Unit) (t : State) => ∃ g : Nat → Int32, va_P (dC, dI) vwCl [(h0, .inl (cyI, 7, .inl g))] t.heap ∧ va_D (va_A [(h0, .inl (cyI, 7, .inl f))] sz) [(h0, .inl (cyI, 7, .inl g))]) (va_A [(h0, .inl (cyI, 7, .inl f))] sz)) 0 0 (va_A [(h0, .inl (cyI, 7, .inl f))] sz) := by
  refine Met.ofW (cc := cJ7_fill_53178) (maxL := 4) (ret := none) (by decide) rfl ?_
  intro p e s m args below meth c s₁ B hml hv
  obtain ⟨rfl, hsz, hP, hK, hD0⟩ := hv
  have hx := B.exec
  have hb := B.bytes
  have hr := B.returns
  have hts : ∀ w ∈ uU, w.before ([.ref h0, .int p0] : List Value).toArray s = true := fun w h => atoms_spec (ws := wk yJ7_fill_53178 cJ7_fill_53178 4 none) B.pre w (List.mem_cons_of_mem _ h)
  have hown : s.vm.findClass RJ7 = some m.cls := findClass_of_methodNamed B.named
  have hlocks := B.notSynchronized
  subst hsz
  have hD := hD0.self (sz := s.heap.size)
  generalize hAe : va_A [(h0, .inl (cyI, 7, .inl f))] s.heap.size = A at hD ⊢
  have hA : ∀ q : Nat, s.heap.size ≤ q → A q := fun q h => by rw [← hAe]; exact Or.inr h
  have hS : va_S A s.heap s.heap [] := va_S.rf
  have hP : va_P (dC, dI) vwCl [(h0, .inl (cyI, 7, .inl f))] s.heap := hP
  have hl := lv_entry ([.ref h0, .int p0]) (n := 4) (Nat.le_of_ble_eq_true rfl)
  rw [lg_entry_eq]
  generalize (lg_sl ([.ref h0, .int p0]) ++ List.replicate (4 - (lg_sl ([.ref h0, .int p0])).length) Slot.unset).toArray = ls at hl ⊢
  have hl : lv_has ls 4 [(0, .ref h0), (1, .int p0)] := hl
  obtain ⟨H, hHe⟩ : ∃ H, H = s.heap := ⟨_, rfl⟩
  have hP : va_P (dC, dI) vwCl [(h0, .inl (cyI, 7, .inl f))] H := by rw [hHe]; exact hP
  have hS : va_S A s.heap H [] := by rw [hHe]; exact hS
  refine cv_heap hHe ?_
  refine lv_iconst (v := 0) hx hb dJ7_fill_53178_0 (by decide) ?_
  refine lv_istore_n (lv' := [(2, .int 0), (0, .ref h0), (1, .int p0)]) hx hb dJ7_fill_53178_1 rfl hl (by decide) rfl (fun ls hl => ?_)
  refine lv_aload_n hx hb dJ7_fill_53178_2 rfl (lv_at hl 1 rfl) ?_
  refine va_alen hx hb hK hP 0 0 rfl (ty := .int) rfl (v := 7) rfl dJ7_fill_53178_3 ?_
  refine lv_istore_n (lv' := [(3, .int 7), (2, .int 0), (0, .ref h0), (1, .int p0)]) hx hb dJ7_fill_53178_4 rfl hl (by decide) rfl (fun ls hl => ?_)
  have key : ∀ (Q : State → Prop) (R : Room), (∀ (f_1 : Nat → Int32) (H : Heap) (locs : List Loc) (ls : Array Slot), va_P (dC, dI) vwCl [(h0, .inl (cyI, 7, .inl f_1))] H → va_D A [(h0, .inl (cyI, 7, .inl f_1))] → va_S A s.heap H locs → lv_has ls 4 [(3, .int 7), (2, .int 7), (0, .ref h0), (1, .int p0)] → W p l e R s m ([.ref h0, .int p0] : List Value).toArray below meth c H locs 0 0 Q (F0 m 20 ls [])) → ∀ (n k : Nat) (f_1 : Nat → Int32) (H : Heap) (locs : List Loc) (ls : Array Slot), k + n = 7 → va_P (dC, dI) vwCl [(h0, .inl (cyI, 7, .inl f_1))] H → va_D A [(h0, .inl (cyI, 7, .inl f_1))] → va_S A s.heap H locs → lv_has ls 4 [(3, .int 7), (2, .int (nI k)), (0, .ref h0), (1, .int p0)] → W p l e R s m ([.ref h0, .int p0] : List Value).toArray below meth c H locs 0 0 Q (F0 m 5 ls []) := by
    intro Q R kx n
    induction n with
    | zero =>
      intro k f_1 H locs ls hn hP hD hS hl
      have hkN : k = 7 := by omega
      have hl : lv_has ls 4 [(3, .int 7), (2, .int 7), (0, .ref h0), (1, .int p0)] := by rw [hkN] at hl; exact hl
      refine lv_iload_n hx hb dJ7_fill_53178_5 rfl (lv_at hl 1 rfl) ?_
      refine lv_iload_n hx hb dJ7_fill_53178_6 rfl (lv_at hl 0 rfl) ?_
      refine lv_icmp_ge (tgt := 20) hx hb dJ7_fill_53178_7 (by decide) (fun _ => ?_) (fun c_2 => absurd c_2 (by decide))
      exact kx f_1 _ _ _ hP hD hS (lv_sub hl [0, 1, 2, 3] rfl)
    | succ n ih =>
      intro k f_1 H locs ls hn hP hD hS hl
      have hk9 : (nI k).toInt = (k : Int) := nI_toInt (by omega)
      refine lv_iload_n hx hb dJ7_fill_53178_5 rfl (lv_at hl 1 rfl) ?_
      refine lv_iload_n hx hb dJ7_fill_53178_6 rfl (lv_at hl 0 rfl) ?_
      refine lv_icmp_ge (tgt := 20) hx hb dJ7_fill_53178_7 (by decide) (fun c_3 => absurd (show 7 ≤ (nI k).toInt from cv_le c_3) (by omega)) (fun _ => ?_)
      refine lv_aload_n hx hb dJ7_fill_53178_10 rfl (lv_at hl 2 rfl) ?_
      refine lv_iload_n hx hb dJ7_fill_53178_11 rfl (lv_at hl 1 rfl) ?_
      refine lv_iload_n hx hb dJ7_fill_53178_12 rfl (lv_at hl 3 rfl) ?_
      refine va_iast hx hb hK hP hD hS 0 0 rfl rfl (vp_in_iff.mpr (by omega)) dJ7_fill_53178_13 (fun H locs hP hD hS => ?_)
      obtain ⟨f_4, ef_4⟩ : ∃ z9 : Nat → Int32, z9 = upd f_1 (nI k).toNatClampNeg p0 := ⟨_, rfl⟩
      rw [← ef_4] at hP hD
      have hP : va_P (dC, dI) vwCl [(h0, .inl (cyI, 7, .inl f_4))] H := hP
      have hD : va_D A [(h0, .inl (cyI, 7, .inl f_4))] := hD
      obtain ⟨x_5, ex_5⟩ : ∃ y : Int32, y = (nI k) + 1 := ⟨_, rfl⟩
      refine lv_iinc (v := x_5) (lv' := [(2, .int x_5), (3, .int 7), (0, .ref h0), (1, .int p0)]) hx hb dJ7_fill_53178_14 hl (k := 1) rfl (by rw [ex_5]; rfl) (by decide) rfl (fun ls hl => ?_)
      refine lv_goto (tgt := 5) hx hb dJ7_fill_53178_17 (by decide) ?_
      have hl : lv_has ls 4 [(2, .int (nI (k + 1))), (3, .int 7), (0, .ref h0), (1, .int p0)] := by rw [← nI_1, ← ex_5]; exact hl
      exact ih (k + 1) f_4 _ _ _ (by omega) hP hD hS (lv_sub hl [1, 0, 2, 3] rfl)
  refine key _ _ (fun f_6 H locs ls hP hD hS hl => ?_) 7 0 f _ _ _ (by omega) hP hD hS hl
  have hP9 := hP.sub (ws' := [(h0, .inl (cyI, 7, .inl f_6))]) [0] rfl
  have hD9 := hD.sub (ws' := [(h0, .inl (cyI, 7, .inl f_6))]) [0] (by decide) rfl
  exact W.vret hx hb hr (fun t ht hW => ⟨⟨(), rfl, trivial, ⟨f_6, by rw [ht]; exact hP9, hD9⟩⟩, hS.F ht⟩) hS.2.2 dJ7_fill_53178_20

/- J7_fill_53178 -/
set_option maxHeartbeats 4000000 in
set_option maxRecDepth 100000 in
theorem c_fill49 (l : Launch) (dC : Nat → ClassId) (dI : Nat → Nat → Nat) (cyI cyB cyJ cyZ cyH cyN : ClassId) (sz : Nat) (h0 : Nat) (f : Nat → Int32) (p0 : Int32) : Met l yJ7_fill_53178 (wk yJ7_fill_53178 cJ7_fill_53178 4 none) ({ frames := 1, cells := 0, slots := 0, locals := 60 }) (va_Pc [.ref h0, .int p0] (fun U => U.heap.size = sz ∧ va_P (dC, dI) vwCl [(h0, .inl (cyI, 49, .inl f))] U.heap ∧ va_K (dC, dI) vwCl [(cyI, .int), (cyB, .byte), (cyJ, .long), (cyZ, .boolean), (cyH, .object RX2), (cyN, .array .long)] U ∧ va_D (fun _ => True) [(h0, .inl (cyI, 49, .inl f))])) (va_Qv (fun _ : Unit => True) (fun (_ : Unit) (t : State) => ∃ g : Nat → Int32, va_P (dC, dI) vwCl [(h0, .inl (cyI, 49, .inl g))] t.heap ∧ va_D (va_A [(h0, .inl (cyI, 49, .inl f))] sz) [(h0, .inl (cyI, 49, .inl g))]) (va_A [(h0, .inl (cyI, 49, .inl f))] sz)) 0 0 (va_A [(h0, .inl (cyI, 49, .inl f))] sz) := by
  refine Met.ofW (cc := cJ7_fill_53178) (maxL := 4) (ret := none) (by decide) rfl ?_
  intro p e s m args below meth c s₁ B hml hv
  obtain ⟨rfl, hsz, hP, hK, hD0⟩ := hv
  have hx := B.exec
  have hb := B.bytes
  have hr := B.returns
  have hts : ∀ w ∈ uU, w.before ([.ref h0, .int p0] : List Value).toArray s = true := fun w h => atoms_spec (ws := wk yJ7_fill_53178 cJ7_fill_53178 4 none) B.pre w (List.mem_cons_of_mem _ h)
  have hown : s.vm.findClass RJ7 = some m.cls := findClass_of_methodNamed B.named
  have hlocks := B.notSynchronized
  subst hsz
  have hD := hD0.self (sz := s.heap.size)
  generalize hAe : va_A [(h0, .inl (cyI, 49, .inl f))] s.heap.size = A at hD ⊢
  have hA : ∀ q : Nat, s.heap.size ≤ q → A q := fun q h => by rw [← hAe]; exact Or.inr h
  have hS : va_S A s.heap s.heap [] := va_S.rf
  have hP : va_P (dC, dI) vwCl [(h0, .inl (cyI, 49, .inl f))] s.heap := hP
  have hl := lv_entry ([.ref h0, .int p0]) (n := 4) (Nat.le_of_ble_eq_true rfl)
  rw [lg_entry_eq]
  generalize (lg_sl ([.ref h0, .int p0]) ++ List.replicate (4 - (lg_sl ([.ref h0, .int p0])).length) Slot.unset).toArray = ls at hl ⊢
  have hl : lv_has ls 4 [(0, .ref h0), (1, .int p0)] := hl
  obtain ⟨H, hHe⟩ : ∃ H, H = s.heap := ⟨_, rfl⟩
  have hP : va_P (dC, dI) vwCl [(h0, .inl (cyI, 49, .inl f))] H := by rw [hHe]; exact hP
  have hS : va_S A s.heap H [] := by rw [hHe]; exact hS
  refine cv_heap hHe ?_
  refine lv_iconst (v := 0) hx hb dJ7_fill_53178_0 (by decide) ?_
  refine lv_istore_n (lv' := [(2, .int 0), (0, .ref h0), (1, .int p0)]) hx hb dJ7_fill_53178_1 rfl hl (by decide) rfl (fun ls hl => ?_)
  refine lv_aload_n hx hb dJ7_fill_53178_2 rfl (lv_at hl 1 rfl) ?_
  refine va_alen hx hb hK hP 0 0 rfl (ty := .int) rfl (v := 49) rfl dJ7_fill_53178_3 ?_
  refine lv_istore_n (lv' := [(3, .int 49), (2, .int 0), (0, .ref h0), (1, .int p0)]) hx hb dJ7_fill_53178_4 rfl hl (by decide) rfl (fun ls hl => ?_)
  have key : ∀ (Q : State → Prop) (R : Room), (∀ (f_1 : Nat → Int32) (H : Heap) (locs : List Loc) (ls : Array Slot), va_P (dC, dI) vwCl [(h0, .inl (cyI, 49, .inl f_1))] H → va_D A [(h0, .inl (cyI, 49, .inl f_1))] → va_S A s.heap H locs → lv_has ls 4 [(3, .int 49), (2, .int 49), (0, .ref h0), (1, .int p0)] → W p l e R s m ([.ref h0, .int p0] : List Value).toArray below meth c H locs 0 0 Q (F0 m 20 ls [])) → ∀ (n k : Nat) (f_1 : Nat → Int32) (H : Heap) (locs : List Loc) (ls : Array Slot), k + n = 49 → va_P (dC, dI) vwCl [(h0, .inl (cyI, 49, .inl f_1))] H → va_D A [(h0, .inl (cyI, 49, .inl f_1))] → va_S A s.heap H locs → lv_has ls 4 [(3, .int 49), (2, .int (nI k)), (0, .ref h0), (1, .int p0)] → W p l e R s m ([.ref h0, .int p0] : List Value).toArray below meth c H locs 0 0 Q (F0 m 5 ls []) := by
    intro Q R kx n
    induction n with
    | zero =>
      intro k f_1 H locs ls hn hP hD hS hl
      have hkN : k = 49 := by omega
      have hl : lv_has ls 4 [(3, .int 49), (2, .int 49), (0, .ref h0), (1, .int p0)] := by rw [hkN] at hl; exact hl
      refine lv_iload_n hx hb dJ7_fill_53178_5 rfl (lv_at hl 1 rfl) ?_
      refine lv_iload_n hx hb dJ7_fill_53178_6 rfl (lv_at hl 0 rfl) ?_
      refine lv_icmp_ge (tgt := 20) hx hb dJ7_fill_53178_7 (by decide) (fun _ => ?_) (fun c_2 => absurd c_2 (by decide))
      exact kx f_1 _ _ _ hP hD hS (lv_sub hl [0, 1, 2, 3] rfl)
    | succ n ih =>
      intro k f_1 H locs ls hn hP hD hS hl
      have hk9 : (nI k).toInt = (k : Int) := nI_toInt (by omega)
      refine lv_iload_n hx hb dJ7_fill_53178_5 rfl (lv_at hl 1 rfl) ?_
      refine lv_iload_n hx hb dJ7_fill_53178_6 rfl (lv_at hl 0 rfl) ?_
      refine lv_icmp_ge (tgt := 20) hx hb dJ7_fill_53178_7 (by decide) (fun c_3 => absurd (show 49 ≤ (nI k).toInt from cv_le c_3) (by omega)) (fun _ => ?_)
      refine lv_aload_n hx hb dJ7_fill_53178_10 rfl (lv_at hl 2 rfl) ?_
      refine lv_iload_n hx hb dJ7_fill_53178_11 rfl (lv_at hl 1 rfl) ?_
      refine lv_iload_n hx hb dJ7_fill_53178_12 rfl (lv_at hl 3 rfl) ?_
      refine va_iast hx hb hK hP hD hS 0 0 rfl rfl (vp_in_iff.mpr (by omega)) dJ7_fill_53178_13 (fun H locs hP hD hS => ?_)
      obtain ⟨f_4, ef_4⟩ : ∃ z9 : Nat → Int32, z9 = upd f_1 (nI k).toNatClampNeg p0 := ⟨_, rfl⟩
      rw [← ef_4] at hP hD
      have hP : va_P (dC, dI) vwCl [(h0, .inl (cyI, 49, .inl f_4))] H := hP
      have hD : va_D A [(h0, .inl (cyI, 49, .inl f_4))] := hD
      obtain ⟨x_5, ex_5⟩ : ∃ y : Int32, y = (nI k) + 1 := ⟨_, rfl⟩
      refine lv_iinc (v := x_5) (lv' := [(2, .int x_5), (3, .int 49), (0, .ref h0), (1, .int p0)]) hx hb dJ7_fill_53178_14 hl (k := 1) rfl (by rw [ex_5]; rfl) (by decide) rfl (fun ls hl => ?_)
      refine lv_goto (tgt := 5) hx hb dJ7_fill_53178_17 (by decide) ?_
      have hl : lv_has ls 4 [(2, .int (nI (k + 1))), (3, .int 49), (0, .ref h0), (1, .int p0)] := by rw [← nI_1, ← ex_5]; exact hl
      exact ih (k + 1) f_4 _ _ _ (by omega) hP hD hS (lv_sub hl [1, 0, 2, 3] rfl)
  refine key _ _ (fun f_6 H locs ls hP hD hS hl => ?_) 49 0 f _ _ _ (by omega) hP hD hS hl
  have hP9 := hP.sub (ws' := [(h0, .inl (cyI, 49, .inl f_6))]) [0] rfl
  have hD9 := hD.sub (ws' := [(h0, .inl (cyI, 49, .inl f_6))]) [0] (by decide) rfl
  exact W.vret hx hb hr (fun t ht hW => ⟨⟨(), rfl, trivial, ⟨f_6, by rw [ht]; exact hP9, hD9⟩⟩, hS.F ht⟩) hS.2.2 dJ7_fill_53178_20

/- J7_fill_d0a16 -/
set_option maxHeartbeats 4000000 in
set_option maxRecDepth 100000 in
theorem c_fillL (l : Launch) (dC : Nat → ClassId) (dI : Nat → Nat → Nat) (cyI cyB cyJ cyZ cyH cyN : ClassId) (sz : Nat) (h0 : Nat) (f : Nat → Int64) (v : Int64) : Met l yJ7_fill_d0a16 (wk yJ7_fill_d0a16 cJ7_fill_d0a16 5 none) ({ frames := 1, cells := 0, slots := 0, locals := 60 }) (va_Pc [.ref h0, .long v] (fun U => U.heap.size = sz ∧ va_P (dC, dI) vwCl [(h0, .inl (cyJ, 60, .inr (.inl f)))] U.heap ∧ va_K (dC, dI) vwCl [(cyI, .int), (cyB, .byte), (cyJ, .long), (cyZ, .boolean), (cyH, .object RX2), (cyN, .array .long)] U ∧ va_D (fun _ => True) [(h0, .inl (cyJ, 60, .inr (.inl f)))])) (va_Qv (fun _ : Unit => True) (fun (_ : Unit) (t : State) => ∃ g : Nat → Int64, va_P (dC, dI) vwCl [(h0, .inl (cyJ, 60, .inr (.inl g)))] t.heap ∧ va_D (va_A [(h0, .inl (cyJ, 60, .inr (.inl f)))] sz) [(h0, .inl (cyJ, 60, .inr (.inl g)))]) (va_A [(h0, .inl (cyJ, 60, .inr (.inl f)))] sz)) 0 0 (va_A [(h0, .inl (cyJ, 60, .inr (.inl f)))] sz) := by
  refine Met.ofW (cc := cJ7_fill_d0a16) (maxL := 5) (ret := none) (by decide) rfl ?_
  intro p e s m args below meth c s₁ B hml hv
  obtain ⟨rfl, hsz, hP, hK, hD0⟩ := hv
  have hx := B.exec
  have hb := B.bytes
  have hr := B.returns
  have hts : ∀ w ∈ uU, w.before ([.ref h0, .long v] : List Value).toArray s = true := fun w h => atoms_spec (ws := wk yJ7_fill_d0a16 cJ7_fill_d0a16 5 none) B.pre w (List.mem_cons_of_mem _ h)
  have hown : s.vm.findClass RJ7 = some m.cls := findClass_of_methodNamed B.named
  have hlocks := B.notSynchronized
  subst hsz
  have hD := hD0.self (sz := s.heap.size)
  generalize hAe : va_A [(h0, .inl (cyJ, 60, .inr (.inl f)))] s.heap.size = A at hD ⊢
  have hA : ∀ q : Nat, s.heap.size ≤ q → A q := fun q h => by rw [← hAe]; exact Or.inr h
  have hS : va_S A s.heap s.heap [] := va_S.rf
  have hP : va_P (dC, dI) vwCl [(h0, .inl (cyJ, 60, .inr (.inl f)))] s.heap := hP
  have hl := lv_entry ([.ref h0, .long v]) (n := 5) (Nat.le_of_ble_eq_true rfl)
  rw [lg_entry_eq]
  generalize (lg_sl ([.ref h0, .long v]) ++ List.replicate (5 - (lg_sl ([.ref h0, .long v])).length) Slot.unset).toArray = ls at hl ⊢
  have hl : lv_has ls 5 [(0, .ref h0), (1, .long v)] := hl
  obtain ⟨H, hHe⟩ : ∃ H, H = s.heap := ⟨_, rfl⟩
  have hP : va_P (dC, dI) vwCl [(h0, .inl (cyJ, 60, .inr (.inl f)))] H := by rw [hHe]; exact hP
  have hS : va_S A s.heap H [] := by rw [hHe]; exact hS
  refine cv_heap hHe ?_
  refine lv_iconst (v := 0) hx hb dJ7_fill_d0a16_0 (by decide) ?_
  refine lv_istore_n (lv' := [(3, .int 0), (0, .ref h0), (1, .long v)]) hx hb dJ7_fill_d0a16_1 rfl hl (by decide) rfl (fun ls hl => ?_)
  refine lv_aload_n hx hb dJ7_fill_d0a16_2 rfl (lv_at hl 1 rfl) ?_
  refine va_alen hx hb hK hP 0 2 rfl (ty := .long) rfl (v := 60) rfl dJ7_fill_d0a16_3 ?_
  refine lv_istore (lv' := [(4, .int 60), (3, .int 0), (0, .ref h0), (1, .long v)]) hx hb dJ7_fill_d0a16_4 hl (by decide) rfl (fun ls hl => ?_)
  have key : ∀ (Q : State → Prop) (R : Room), (∀ (f_1 : Nat → Int64) (H : Heap) (locs : List Loc) (ls : Array Slot), va_P (dC, dI) vwCl [(h0, .inl (cyJ, 60, .inr (.inl f_1)))] H → va_D A [(h0, .inl (cyJ, 60, .inr (.inl f_1)))] → va_S A s.heap H locs → lv_has ls 5 [(4, .int 60), (3, .int 60), (0, .ref h0), (1, .long v)] → W p l e R s m ([.ref h0, .long v] : List Value).toArray below meth c H locs 0 0 Q (F0 m 22 ls [])) → ∀ (n k : Nat) (f_1 : Nat → Int64) (H : Heap) (locs : List Loc) (ls : Array Slot), k + n = 60 → va_P (dC, dI) vwCl [(h0, .inl (cyJ, 60, .inr (.inl f_1)))] H → va_D A [(h0, .inl (cyJ, 60, .inr (.inl f_1)))] → va_S A s.heap H locs → lv_has ls 5 [(4, .int 60), (3, .int (nI k)), (0, .ref h0), (1, .long v)] → W p l e R s m ([.ref h0, .long v] : List Value).toArray below meth c H locs 0 0 Q (F0 m 6 ls []) := by
    intro Q R kx n
    induction n with
    | zero =>
      intro k f_1 H locs ls hn hP hD hS hl
      have hkN : k = 60 := by omega
      have hl : lv_has ls 5 [(4, .int 60), (3, .int 60), (0, .ref h0), (1, .long v)] := by rw [hkN] at hl; exact hl
      refine lv_iload_n hx hb dJ7_fill_d0a16_6 rfl (lv_at hl 1 rfl) ?_
      refine lv_iload hx hb dJ7_fill_d0a16_7 (lv_at hl 0 rfl) ?_
      refine lv_icmp_ge (tgt := 22) hx hb dJ7_fill_d0a16_9 (by decide) (fun _ => ?_) (fun c_2 => absurd c_2 (by decide))
      exact kx f_1 _ _ _ hP hD hS (lv_sub hl [0, 1, 2, 3] rfl)
    | succ n ih =>
      intro k f_1 H locs ls hn hP hD hS hl
      have hk9 : (nI k).toInt = (k : Int) := nI_toInt (by omega)
      refine lv_iload_n hx hb dJ7_fill_d0a16_6 rfl (lv_at hl 1 rfl) ?_
      refine lv_iload hx hb dJ7_fill_d0a16_7 (lv_at hl 0 rfl) ?_
      refine lv_icmp_ge (tgt := 22) hx hb dJ7_fill_d0a16_9 (by decide) (fun c_3 => absurd (show 60 ≤ (nI k).toInt from cv_le c_3) (by omega)) (fun _ => ?_)
      refine lv_aload_n hx hb dJ7_fill_d0a16_12 rfl (lv_at hl 2 rfl) ?_
      refine lv_iload_n hx hb dJ7_fill_d0a16_13 rfl (lv_at hl 1 rfl) ?_
      refine lv_lload_n hx hb dJ7_fill_d0a16_14 rfl (lv_at hl 3 rfl) ?_
      refine va_last hx hb hK hP hD hS 0 2 rfl rfl (vp_in_iff.mpr (by omega)) dJ7_fill_d0a16_15 (fun H locs hP hD hS => ?_)
      obtain ⟨f_4, ef_4⟩ : ∃ z9 : Nat → Int64, z9 = vp_updL f_1 (nI k).toNatClampNeg v := ⟨_, rfl⟩
      rw [← ef_4] at hP hD
      have hP : va_P (dC, dI) vwCl [(h0, .inl (cyJ, 60, .inr (.inl f_4)))] H := hP
      have hD : va_D A [(h0, .inl (cyJ, 60, .inr (.inl f_4)))] := hD
      obtain ⟨x_5, ex_5⟩ : ∃ y : Int32, y = (nI k) + 1 := ⟨_, rfl⟩
      refine lv_iinc (v := x_5) (lv' := [(3, .int x_5), (4, .int 60), (0, .ref h0), (1, .long v)]) hx hb dJ7_fill_d0a16_16 hl (k := 1) rfl (by rw [ex_5]; rfl) (by decide) rfl (fun ls hl => ?_)
      refine lv_goto (tgt := 6) hx hb dJ7_fill_d0a16_19 (by decide) ?_
      have hl : lv_has ls 5 [(3, .int (nI (k + 1))), (4, .int 60), (0, .ref h0), (1, .long v)] := by rw [← nI_1, ← ex_5]; exact hl
      exact ih (k + 1) f_4 _ _ _ (by omega) hP hD hS (lv_sub hl [1, 0, 2, 3] rfl)
  refine key _ _ (fun f_6 H locs ls hP hD hS hl => ?_) 60 0 f _ _ _ (by omega) hP hD hS hl
  have hP9 := hP.sub (ws' := [(h0, .inl (cyJ, 60, .inr (.inl f_6)))]) [0] rfl
  have hD9 := hD.sub (ws' := [(h0, .inl (cyJ, 60, .inr (.inl f_6)))]) [0] (by decide) rfl
  exact W.vret hx hb hr (fun t ht hW => ⟨⟨(), rfl, trivial, ⟨f_6, by rw [ht]; exact hP9, hD9⟩⟩, hS.F ht⟩) hS.2.2 dJ7_fill_d0a16_22

/- X10_hasRoom -/
set_option maxHeartbeats 4000000 in
set_option maxRecDepth 100000 in
theorem c_hasRoom (l : Launch) (dC : Nat → ClassId) (dI : Nat → Nat → Nat) (cyI cyB cyJ cyZ cyH cyN : ClassId) (h0 b0 : Nat) : Met l yX10_hasRoom (wk yX10_hasRoom cX10_hasRoom 1 (some .boolean)) ({ frames := 1, cells := 0, slots := 0, locals := 60 }) (va_Pc [.ref h0] (fun U => va_P (dC, dI) vwCl [(h0, .inr (9, [.ref b0, .int 0, .int 0, .int (-1), .int 0, .int 0, .int 0, .int 0, .int 0, .int 0]))] U.heap ∧ va_K (dC, dI) vwCl [(cyI, .int), (cyB, .byte), (cyJ, .long), (cyZ, .boolean), (cyH, .object RX2), (cyN, .array .long)] U)) (vp_Si (fun r : Int32 => r = 1)) 0 0 (fun _ => False) := by
  refine Met.ofW (cc := cX10_hasRoom) (maxL := 1) (ret := (some .boolean)) (by decide) rfl ?_
  intro p e s m args below meth c s₁ B hml hv
  obtain ⟨rfl, hP, hK⟩ := hv
  have hx := B.exec
  have hb := B.bytes
  have hr := B.returns
  have hts : ∀ w ∈ uU, w.before ([.ref h0] : List Value).toArray s = true := fun w h => atoms_spec (ws := wk yX10_hasRoom cX10_hasRoom 1 (some .boolean)) B.pre w (List.mem_cons_of_mem _ h)
  have hown : s.vm.findClass RX10 = some m.cls := findClass_of_methodNamed B.named
  have hlocks := B.notSynchronized
  have hl := lv_entry ([.ref h0]) (n := 1) (Nat.le_of_ble_eq_true rfl)
  rw [lg_entry_eq]
  generalize (lg_sl ([.ref h0]) ++ List.replicate (1 - (lg_sl ([.ref h0])).length) Slot.unset).toArray = ls at hl ⊢
  have hl : lv_has ls 1 [(0, .ref h0)] := hl
  refine lv_aload_n hx hb dX10_hasRoom_0 rfl (lv_at hl 0 rfl) ?_
  refine va_get (D := (dC, dI)) (ci := 9) (v := .int 0) (C := RX10) (T := TX10) (N := 10) hx hb hts uinX10 hown hK hP 0 rfl rfl 1 (by decide) (hts _ wd_1_37) (fun _ h9 => h9) rfl dX10_hasRoom_1 ?_
  refine lv_if_lt (tgt := 24) hx hb dX10_hasRoom_4 (by decide) (fun c_1 => absurd c_1 (by decide)) (fun _ => ?_)
  refine lv_aload_n hx hb dX10_hasRoom_7 rfl (lv_at hl 0 rfl) ?_
  refine va_get (D := (dC, dI)) (ci := 9) (v := .int 0) (C := RX10) (T := TX10) (N := 10) hx hb hts uinX10 hown hK hP 0 rfl rfl 1 (by decide) (hts _ wd_1_37) (fun _ h9 => h9) rfl dX10_hasRoom_8 ?_
  refine lv_bipush (v := 20) hx hb dX10_hasRoom_11 (by decide) ?_
  refine lv_iadd hx hb dX10_hasRoom_13 ?_
  refine cv_topi (b := 20) (by decide) ?_
  refine lv_sipush (v := 800) hx hb dX10_hasRoom_14 (by decide) ?_
  refine lv_icmp_gt (tgt := 24) hx hb dX10_hasRoom_17 (by decide) (fun c_2 => absurd c_2 (by decide)) (fun _ => ?_)
  refine lv_iconst (v := 1) hx hb dX10_hasRoom_20 (by decide) ?_
  refine lv_goto (tgt := 25) hx hb dX10_hasRoom_21 (by decide) ?_
  exact W.zret (v := 1) (ty := .boolean) hx hb hr rfl (fun t ht hW => ⟨1, rfl, rfl, ht⟩) (fun q h => by cases h) dX10_hasRoom_25

/- X10_put -/
set_option maxHeartbeats 4000000 in
set_option maxRecDepth 100000 in
theorem c_put0 (l : Launch) (dC : Nat → ClassId) (dI : Nat → Nat → Nat) (cyI cyB cyJ cyZ cyH cyN : ClassId) (sz : Nat) (h0 b0 : Nat) (f : Nat → Int32) (p0 : Int32) : Met l yX10_put (wk yX10_put cX10_put 3 none) ({ frames := 1, cells := 0, slots := 0, locals := 60 }) (va_Pc [.ref h0, .int p0] (fun U => U.heap.size = sz ∧ va_P (dC, dI) vwCl [(h0, .inr (9, [.ref b0, .int 0, .int 0, .int (-1), .int 0, .int 0, .int 0, .int 0, .int 0, .int 0])), (b0, .inl (cyB, 800, .inl f))] U.heap ∧ va_K (dC, dI) vwCl [(cyI, .int), (cyB, .byte), (cyJ, .long), (cyZ, .boolean), (cyH, .object RX2), (cyN, .array .long)] U ∧ va_D (fun _ => True) [(h0, .inr (9, [.ref b0, .int 0, .int 0, .int (-1), .int 0, .int 0, .int 0, .int 0, .int 0, .int 0])), (b0, .inl (cyB, 800, .inl f))])) (va_Qv (fun _ : Unit => True) (fun (_ : Unit) (t : State) => ∃ g : Nat → Int32, va_P (dC, dI) vwCl [(h0, .inr (9, [.ref b0, .int 4, .int 0, .int (-1), .int 0, .int 0, .int 0, .int 0, .int 0, .int 0])), (b0, .inl (cyB, 800, .inl g))] t.heap ∧ va_D (va_A [(h0, .inr (9, [.ref b0, .int 0, .int 0, .int (-1), .int 0, .int 0, .int 0, .int 0, .int 0, .int 0])), (b0, .inl (cyB, 800, .inl f))] sz) [(h0, .inr (9, [.ref b0, .int 4, .int 0, .int (-1), .int 0, .int 0, .int 0, .int 0, .int 0, .int 0])), (b0, .inl (cyB, 800, .inl g))]) (va_A [(h0, .inr (9, [.ref b0, .int 0, .int 0, .int (-1), .int 0, .int 0, .int 0, .int 0, .int 0, .int 0])), (b0, .inl (cyB, 800, .inl f))] sz)) 0 0 (va_A [(h0, .inr (9, [.ref b0, .int 0, .int 0, .int (-1), .int 0, .int 0, .int 0, .int 0, .int 0, .int 0])), (b0, .inl (cyB, 800, .inl f))] sz) := by
  refine Met.ofW (cc := cX10_put) (maxL := 3) (ret := none) (by decide) rfl ?_
  intro p e s m args below meth c s₁ B hml hv
  obtain ⟨rfl, hsz, hP, hK, hD0⟩ := hv
  have hx := B.exec
  have hb := B.bytes
  have hr := B.returns
  have hts : ∀ w ∈ uU, w.before ([.ref h0, .int p0] : List Value).toArray s = true := fun w h => atoms_spec (ws := wk yX10_put cX10_put 3 none) B.pre w (List.mem_cons_of_mem _ h)
  have hown : s.vm.findClass RX10 = some m.cls := findClass_of_methodNamed B.named
  have hlocks := B.notSynchronized
  subst hsz
  have hD := hD0.self (sz := s.heap.size)
  generalize hAe : va_A [(h0, .inr (9, [.ref b0, .int 0, .int 0, .int (-1), .int 0, .int 0, .int 0, .int 0, .int 0, .int 0])), (b0, .inl (cyB, 800, .inl f))] s.heap.size = A at hD ⊢
  have hA : ∀ q : Nat, s.heap.size ≤ q → A q := fun q h => by rw [← hAe]; exact Or.inr h
  have hS : va_S A s.heap s.heap [] := va_S.rf
  have hP : va_P (dC, dI) vwCl [(h0, .inr (9, [.ref b0, .int 0, .int 0, .int (-1), .int 0, .int 0, .int 0, .int 0, .int 0, .int 0])), (b0, .inl (cyB, 800, .inl f))] s.heap := hP
  have hl := lv_entry ([.ref h0, .int p0]) (n := 3) (Nat.le_of_ble_eq_true rfl)
  rw [lg_entry_eq]
  generalize (lg_sl ([.ref h0, .int p0]) ++ List.replicate (3 - (lg_sl ([.ref h0, .int p0])).length) Slot.unset).toArray = ls at hl ⊢
  have hl : lv_has ls 3 [(0, .ref h0), (1, .int p0)] := hl
  obtain ⟨H, hHe⟩ : ∃ H, H = s.heap := ⟨_, rfl⟩
  have hP : va_P (dC, dI) vwCl [(h0, .inr (9, [.ref b0, .int 0, .int 0, .int (-1), .int 0, .int 0, .int 0, .int 0, .int 0, .int 0])), (b0, .inl (cyB, 800, .inl f))] H := by rw [hHe]; exact hP
  have hS : va_S A s.heap H [] := by rw [hHe]; exact hS
  refine cv_heap hHe ?_
  refine lv_bipush (v := 24) hx hb dX10_put_0 (by decide) ?_
  refine lv_istore_n (lv' := [(2, .int 24), (0, .ref h0), (1, .int p0)]) hx hb dX10_put_2 rfl hl (by decide) rfl (fun ls hl => ?_)
  refine lv_iload_n hx hb dX10_put_3 rfl (lv_at hl 0 rfl) ?_
  refine lv_if_lt (tgt := 46) hx hb dX10_put_4 (by decide) (fun c_1 => absurd c_1 (by decide)) (fun _ => ?_)
  refine lv_aload_n hx hb dX10_put_7 rfl (lv_at hl 1 rfl) ?_
  refine va_get (D := (dC, dI)) (ci := 9) (v := .int 0) (C := RX10) (T := TX10) (N := 10) hx hb hts uinX10 hown hK hP 0 rfl rfl 1 (by decide) (hts _ wd_1_37) (fun _ h9 => h9) rfl dX10_put_8 ?_
  refine lv_sipush (v := 800) hx hb dX10_put_11 (by decide) ?_
  refine lv_icmp_ge (tgt := 46) hx hb dX10_put_14 (by decide) (fun c_2 => absurd c_2 (by decide)) (fun _ => ?_)
  refine lv_aload_n hx hb dX10_put_17 rfl (lv_at hl 1 rfl) ?_
  refine va_get (D := (dC, dI)) (ci := 9) (v := .ref b0) (C := RX10) (T := TX10) (N := 10) hx hb hts uinX10 hown hK hP 0 rfl rfl 0 (by decide) (hts _ wd_1_36) (fun _ h9 => h9) rfl dX10_put_18 ?_
  refine lv_aload_n hx hb dX10_put_21 rfl (lv_at hl 1 rfl) ?_
  refine va_get (D := (dC, dI)) (ci := 9) (v := .int 0) (C := RX10) (T := TX10) (N := 10) hx hb hts uinX10 hown hK hP 0 rfl rfl 1 (by decide) (hts _ wd_1_37) (fun _ h9 => h9) rfl dX10_put_22 ?_
  refine lv_iload_n hx hb dX10_put_25 rfl (lv_at hl 2 rfl) ?_
  refine lv_iload_n hx hb dX10_put_26 rfl (lv_at hl 0 rfl) ?_
  refine lv_ishr hx hb dX10_put_27 ?_
  refine lv_topi (fun x_3 ex_3 => ?_)
  refine lv_i2b hx hb dX10_put_28 rfl ?_
  refine lv_topi (fun x_4 ex_4 => ?_)
  refine va_bast hx hb hK hP hD hS 1 1 rfl rfl (vp_in_iff.mpr (by decide)) dX10_put_29 (fun H locs hP hD hS => ?_)
  obtain ⟨f_5, ef_5⟩ : ∃ z9 : Nat → Int32, z9 = upd f (0 : Int32).toNatClampNeg (vp_nar .byte x_4) := ⟨_, rfl⟩
  rw [← ef_5] at hP hD
  have hP : va_P (dC, dI) vwCl [(h0, .inr (9, [.ref b0, .int 0, .int 0, .int (-1), .int 0, .int 0, .int 0, .int 0, .int 0, .int 0])), (b0, .inl (cyB, 800, .inl f_5))] H := hP
  have hD : va_D A [(h0, .inr (9, [.ref b0, .int 0, .int 0, .int (-1), .int 0, .int 0, .int 0, .int 0, .int 0, .int 0])), (b0, .inl (cyB, 800, .inl f_5))] := hD
  refine lv_aload_n hx hb dX10_put_30 rfl (lv_at hl 1 rfl) ?_
  refine lv_dup hx hb dX10_put_31 rfl ?_
  refine va_get (D := (dC, dI)) (ci := 9) (v := .int 0) (C := RX10) (T := TX10) (N := 10) hx hb hts uinX10 hown hK hP 0 rfl rfl 1 (by decide) (hts _ wd_1_37) (fun _ h9 => h9) rfl dX10_put_32 ?_
  refine lv_iconst (v := 1) hx hb dX10_put_35 (by decide) ?_
  refine lv_iadd hx hb dX10_put_36 ?_
  refine cv_topi (b := 1) (by decide) ?_
  refine va_put (D := (dC, dI)) (ci := 9) (v := .int 1) (ty := .int) (C := RX10) (T := TX10) (N := 10) hx hb hts uinX10 tyX10 tyX10_ok nmX10 hown hK hP hD hS 0 rfl rfl 1 (by decide) (hts _ wd_1_37) (fun _ h9 => h9) rfl (by decide +kernel) rfl rfl (Nat.le_of_ble_eq_true rfl) dX10_put_37 (fun H locs hP hD hS => ?_)
  have hP : va_P (dC, dI) vwCl [(h0, .inr (9, [.ref b0, .int 1, .int 0, .int (-1), .int 0, .int 0, .int 0, .int 0, .int 0, .int 0])), (b0, .inl (cyB, 800, .inl f_5))] H := hP
  have hD : va_D A [(h0, .inr (9, [.ref b0, .int 1, .int 0, .int (-1), .int 0, .int 0, .int 0, .int 0, .int 0, .int 0])), (b0, .inl (cyB, 800, .inl f_5))] := hD
  refine lv_iinc (v := 16) (lv' := [(2, .int 16), (0, .ref h0), (1, .int p0)]) hx hb dX10_put_40 hl (k := 0) rfl (by decide) (by decide) rfl (fun ls hl => ?_)
  refine lv_goto (tgt := 3) hx hb dX10_put_43 (by decide) ?_
  refine lv_iload_n hx hb dX10_put_3 rfl (lv_at hl 0 rfl) ?_
  refine lv_if_lt (tgt := 46) hx hb dX10_put_4 (by decide) (fun c_6 => absurd c_6 (by decide)) (fun _ => ?_)
  refine lv_aload_n hx hb dX10_put_7 rfl (lv_at hl 1 rfl) ?_
  refine va_get (D := (dC, dI)) (ci := 9) (v := .int 1) (C := RX10) (T := TX10) (N := 10) hx hb hts uinX10 hown hK hP 0 rfl rfl 1 (by decide) (hts _ wd_1_37) (fun _ h9 => h9) rfl dX10_put_8 ?_
  refine lv_sipush (v := 800) hx hb dX10_put_11 (by decide) ?_
  refine lv_icmp_ge (tgt := 46) hx hb dX10_put_14 (by decide) (fun c_7 => absurd c_7 (by decide)) (fun _ => ?_)
  refine lv_aload_n hx hb dX10_put_17 rfl (lv_at hl 1 rfl) ?_
  refine va_get (D := (dC, dI)) (ci := 9) (v := .ref b0) (C := RX10) (T := TX10) (N := 10) hx hb hts uinX10 hown hK hP 0 rfl rfl 0 (by decide) (hts _ wd_1_36) (fun _ h9 => h9) rfl dX10_put_18 ?_
  refine lv_aload_n hx hb dX10_put_21 rfl (lv_at hl 1 rfl) ?_
  refine va_get (D := (dC, dI)) (ci := 9) (v := .int 1) (C := RX10) (T := TX10) (N := 10) hx hb hts uinX10 hown hK hP 0 rfl rfl 1 (by decide) (hts _ wd_1_37) (fun _ h9 => h9) rfl dX10_put_22 ?_
  refine lv_iload_n hx hb dX10_put_25 rfl (lv_at hl 2 rfl) ?_
  refine lv_iload_n hx hb dX10_put_26 rfl (lv_at hl 0 rfl) ?_
  refine lv_ishr hx hb dX10_put_27 ?_
  refine lv_topi (fun x_8 ex_8 => ?_)
  refine lv_i2b hx hb dX10_put_28 rfl ?_
  refine lv_topi (fun x_9 ex_9 => ?_)
  refine va_bast hx hb hK hP hD hS 1 1 rfl rfl (vp_in_iff.mpr (by decide)) dX10_put_29 (fun H locs hP hD hS => ?_)
  obtain ⟨f_10, ef_10⟩ : ∃ z9 : Nat → Int32, z9 = upd f_5 (1 : Int32).toNatClampNeg (vp_nar .byte x_9) := ⟨_, rfl⟩
  rw [← ef_10] at hP hD
  have hP : va_P (dC, dI) vwCl [(h0, .inr (9, [.ref b0, .int 1, .int 0, .int (-1), .int 0, .int 0, .int 0, .int 0, .int 0, .int 0])), (b0, .inl (cyB, 800, .inl f_10))] H := hP
  have hD : va_D A [(h0, .inr (9, [.ref b0, .int 1, .int 0, .int (-1), .int 0, .int 0, .int 0, .int 0, .int 0, .int 0])), (b0, .inl (cyB, 800, .inl f_10))] := hD
  refine lv_aload_n hx hb dX10_put_30 rfl (lv_at hl 1 rfl) ?_
  refine lv_dup hx hb dX10_put_31 rfl ?_
  refine va_get (D := (dC, dI)) (ci := 9) (v := .int 1) (C := RX10) (T := TX10) (N := 10) hx hb hts uinX10 hown hK hP 0 rfl rfl 1 (by decide) (hts _ wd_1_37) (fun _ h9 => h9) rfl dX10_put_32 ?_
  refine lv_iconst (v := 1) hx hb dX10_put_35 (by decide) ?_
  refine lv_iadd hx hb dX10_put_36 ?_
  refine cv_topi (b := 2) (by decide) ?_
  refine va_put (D := (dC, dI)) (ci := 9) (v := .int 2) (ty := .int) (C := RX10) (T := TX10) (N := 10) hx hb hts uinX10 tyX10 tyX10_ok nmX10 hown hK hP hD hS 0 rfl rfl 1 (by decide) (hts _ wd_1_37) (fun _ h9 => h9) rfl (by decide +kernel) rfl rfl (Nat.le_of_ble_eq_true rfl) dX10_put_37 (fun H locs hP hD hS => ?_)
  have hP : va_P (dC, dI) vwCl [(h0, .inr (9, [.ref b0, .int 2, .int 0, .int (-1), .int 0, .int 0, .int 0, .int 0, .int 0, .int 0])), (b0, .inl (cyB, 800, .inl f_10))] H := hP
  have hD : va_D A [(h0, .inr (9, [.ref b0, .int 2, .int 0, .int (-1), .int 0, .int 0, .int 0, .int 0, .int 0, .int 0])), (b0, .inl (cyB, 800, .inl f_10))] := hD
  refine lv_iinc (v := 8) (lv' := [(2, .int 8), (0, .ref h0), (1, .int p0)]) hx hb dX10_put_40 hl (k := 0) rfl (by decide) (by decide) rfl (fun ls hl => ?_)
  refine lv_goto (tgt := 3) hx hb dX10_put_43 (by decide) ?_
  refine lv_iload_n hx hb dX10_put_3 rfl (lv_at hl 0 rfl) ?_
  refine lv_if_lt (tgt := 46) hx hb dX10_put_4 (by decide) (fun c_11 => absurd c_11 (by decide)) (fun _ => ?_)
  refine lv_aload_n hx hb dX10_put_7 rfl (lv_at hl 1 rfl) ?_
  refine va_get (D := (dC, dI)) (ci := 9) (v := .int 2) (C := RX10) (T := TX10) (N := 10) hx hb hts uinX10 hown hK hP 0 rfl rfl 1 (by decide) (hts _ wd_1_37) (fun _ h9 => h9) rfl dX10_put_8 ?_
  refine lv_sipush (v := 800) hx hb dX10_put_11 (by decide) ?_
  refine lv_icmp_ge (tgt := 46) hx hb dX10_put_14 (by decide) (fun c_12 => absurd c_12 (by decide)) (fun _ => ?_)
  refine lv_aload_n hx hb dX10_put_17 rfl (lv_at hl 1 rfl) ?_
  refine va_get (D := (dC, dI)) (ci := 9) (v := .ref b0) (C := RX10) (T := TX10) (N := 10) hx hb hts uinX10 hown hK hP 0 rfl rfl 0 (by decide) (hts _ wd_1_36) (fun _ h9 => h9) rfl dX10_put_18 ?_
  refine lv_aload_n hx hb dX10_put_21 rfl (lv_at hl 1 rfl) ?_
  refine va_get (D := (dC, dI)) (ci := 9) (v := .int 2) (C := RX10) (T := TX10) (N := 10) hx hb hts uinX10 hown hK hP 0 rfl rfl 1 (by decide) (hts _ wd_1_37) (fun _ h9 => h9) rfl dX10_put_22 ?_
  refine lv_iload_n hx hb dX10_put_25 rfl (lv_at hl 2 rfl) ?_
  refine lv_iload_n hx hb dX10_put_26 rfl (lv_at hl 0 rfl) ?_
  refine lv_ishr hx hb dX10_put_27 ?_
  refine lv_topi (fun x_13 ex_13 => ?_)
  refine lv_i2b hx hb dX10_put_28 rfl ?_
  refine lv_topi (fun x_14 ex_14 => ?_)
  refine va_bast hx hb hK hP hD hS 1 1 rfl rfl (vp_in_iff.mpr (by decide)) dX10_put_29 (fun H locs hP hD hS => ?_)
  obtain ⟨f_15, ef_15⟩ : ∃ z9 : Nat → Int32, z9 = upd f_10 (2 : Int32).toNatClampNeg (vp_nar .byte x_14) := ⟨_, rfl⟩
  rw [← ef_15] at hP hD
  have hP : va_P (dC, dI) vwCl [(h0, .inr (9, [.ref b0, .int 2, .int 0, .int (-1), .int 0, .int 0, .int 0, .int 0, .int 0, .int 0])), (b0, .inl (cyB, 800, .inl f_15))] H := hP
  have hD : va_D A [(h0, .inr (9, [.ref b0, .int 2, .int 0, .int (-1), .int 0, .int 0, .int 0, .int 0, .int 0, .int 0])), (b0, .inl (cyB, 800, .inl f_15))] := hD
  refine lv_aload_n hx hb dX10_put_30 rfl (lv_at hl 1 rfl) ?_
  refine lv_dup hx hb dX10_put_31 rfl ?_
  refine va_get (D := (dC, dI)) (ci := 9) (v := .int 2) (C := RX10) (T := TX10) (N := 10) hx hb hts uinX10 hown hK hP 0 rfl rfl 1 (by decide) (hts _ wd_1_37) (fun _ h9 => h9) rfl dX10_put_32 ?_
  refine lv_iconst (v := 1) hx hb dX10_put_35 (by decide) ?_
  refine lv_iadd hx hb dX10_put_36 ?_
  refine cv_topi (b := 3) (by decide) ?_
  refine va_put (D := (dC, dI)) (ci := 9) (v := .int 3) (ty := .int) (C := RX10) (T := TX10) (N := 10) hx hb hts uinX10 tyX10 tyX10_ok nmX10 hown hK hP hD hS 0 rfl rfl 1 (by decide) (hts _ wd_1_37) (fun _ h9 => h9) rfl (by decide +kernel) rfl rfl (Nat.le_of_ble_eq_true rfl) dX10_put_37 (fun H locs hP hD hS => ?_)
  have hP : va_P (dC, dI) vwCl [(h0, .inr (9, [.ref b0, .int 3, .int 0, .int (-1), .int 0, .int 0, .int 0, .int 0, .int 0, .int 0])), (b0, .inl (cyB, 800, .inl f_15))] H := hP
  have hD : va_D A [(h0, .inr (9, [.ref b0, .int 3, .int 0, .int (-1), .int 0, .int 0, .int 0, .int 0, .int 0, .int 0])), (b0, .inl (cyB, 800, .inl f_15))] := hD
  refine lv_iinc (v := 0) (lv' := [(2, .int 0), (0, .ref h0), (1, .int p0)]) hx hb dX10_put_40 hl (k := 0) rfl (by decide) (by decide) rfl (fun ls hl => ?_)
  refine lv_goto (tgt := 3) hx hb dX10_put_43 (by decide) ?_
  refine lv_iload_n hx hb dX10_put_3 rfl (lv_at hl 0 rfl) ?_
  refine lv_if_lt (tgt := 46) hx hb dX10_put_4 (by decide) (fun c_16 => absurd c_16 (by decide)) (fun _ => ?_)
  refine lv_aload_n hx hb dX10_put_7 rfl (lv_at hl 1 rfl) ?_
  refine va_get (D := (dC, dI)) (ci := 9) (v := .int 3) (C := RX10) (T := TX10) (N := 10) hx hb hts uinX10 hown hK hP 0 rfl rfl 1 (by decide) (hts _ wd_1_37) (fun _ h9 => h9) rfl dX10_put_8 ?_
  refine lv_sipush (v := 800) hx hb dX10_put_11 (by decide) ?_
  refine lv_icmp_ge (tgt := 46) hx hb dX10_put_14 (by decide) (fun c_17 => absurd c_17 (by decide)) (fun _ => ?_)
  refine lv_aload_n hx hb dX10_put_17 rfl (lv_at hl 1 rfl) ?_
  refine va_get (D := (dC, dI)) (ci := 9) (v := .ref b0) (C := RX10) (T := TX10) (N := 10) hx hb hts uinX10 hown hK hP 0 rfl rfl 0 (by decide) (hts _ wd_1_36) (fun _ h9 => h9) rfl dX10_put_18 ?_
  refine lv_aload_n hx hb dX10_put_21 rfl (lv_at hl 1 rfl) ?_
  refine va_get (D := (dC, dI)) (ci := 9) (v := .int 3) (C := RX10) (T := TX10) (N := 10) hx hb hts uinX10 hown hK hP 0 rfl rfl 1 (by decide) (hts _ wd_1_37) (fun _ h9 => h9) rfl dX10_put_22 ?_
  refine lv_iload_n hx hb dX10_put_25 rfl (lv_at hl 2 rfl) ?_
  refine lv_iload_n hx hb dX10_put_26 rfl (lv_at hl 0 rfl) ?_
  refine lv_ishr hx hb dX10_put_27 ?_
  refine lv_topi (fun x_18 ex_18 => ?_)
  refine lv_i2b hx hb dX10_put_28 rfl ?_
  refine lv_topi (fun x_19 ex_19 => ?_)
  refine va_bast hx hb hK hP hD hS 1 1 rfl rfl (vp_in_iff.mpr (by decide)) dX10_put_29 (fun H locs hP hD hS => ?_)
  obtain ⟨f_20, ef_20⟩ : ∃ z9 : Nat → Int32, z9 = upd f_15 (3 : Int32).toNatClampNeg (vp_nar .byte x_19) := ⟨_, rfl⟩
  rw [← ef_20] at hP hD
  have hP : va_P (dC, dI) vwCl [(h0, .inr (9, [.ref b0, .int 3, .int 0, .int (-1), .int 0, .int 0, .int 0, .int 0, .int 0, .int 0])), (b0, .inl (cyB, 800, .inl f_20))] H := hP
  have hD : va_D A [(h0, .inr (9, [.ref b0, .int 3, .int 0, .int (-1), .int 0, .int 0, .int 0, .int 0, .int 0, .int 0])), (b0, .inl (cyB, 800, .inl f_20))] := hD
  refine lv_aload_n hx hb dX10_put_30 rfl (lv_at hl 1 rfl) ?_
  refine lv_dup hx hb dX10_put_31 rfl ?_
  refine va_get (D := (dC, dI)) (ci := 9) (v := .int 3) (C := RX10) (T := TX10) (N := 10) hx hb hts uinX10 hown hK hP 0 rfl rfl 1 (by decide) (hts _ wd_1_37) (fun _ h9 => h9) rfl dX10_put_32 ?_
  refine lv_iconst (v := 1) hx hb dX10_put_35 (by decide) ?_
  refine lv_iadd hx hb dX10_put_36 ?_
  refine cv_topi (b := 4) (by decide) ?_
  refine va_put (D := (dC, dI)) (ci := 9) (v := .int 4) (ty := .int) (C := RX10) (T := TX10) (N := 10) hx hb hts uinX10 tyX10 tyX10_ok nmX10 hown hK hP hD hS 0 rfl rfl 1 (by decide) (hts _ wd_1_37) (fun _ h9 => h9) rfl (by decide +kernel) rfl rfl (Nat.le_of_ble_eq_true rfl) dX10_put_37 (fun H locs hP hD hS => ?_)
  have hP : va_P (dC, dI) vwCl [(h0, .inr (9, [.ref b0, .int 4, .int 0, .int (-1), .int 0, .int 0, .int 0, .int 0, .int 0, .int 0])), (b0, .inl (cyB, 800, .inl f_20))] H := hP
  have hD : va_D A [(h0, .inr (9, [.ref b0, .int 4, .int 0, .int (-1), .int 0, .int 0, .int 0, .int 0, .int 0, .int 0])), (b0, .inl (cyB, 800, .inl f_20))] := hD
  refine lv_iinc (v := (-8)) (lv' := [(2, .int (-8)), (0, .ref h0), (1, .int p0)]) hx hb dX10_put_40 hl (k := 0) rfl (by decide) (by decide) rfl (fun ls hl => ?_)
  refine lv_goto (tgt := 3) hx hb dX10_put_43 (by decide) ?_
  refine lv_iload_n hx hb dX10_put_3 rfl (lv_at hl 0 rfl) ?_
  refine lv_if_lt (tgt := 46) hx hb dX10_put_4 (by decide) (fun _ => ?_) (fun c_21 => absurd c_21 (by decide))
  have hP9 := hP.sub (ws' := [(h0, .inr (9, [.ref b0, .int 4, .int 0, .int (-1), .int 0, .int 0, .int 0, .int 0, .int 0, .int 0])), (b0, .inl (cyB, 800, .inl f_20))]) [0, 1] rfl
  have hD9 := hD.sub (ws' := [(h0, .inr (9, [.ref b0, .int 4, .int 0, .int (-1), .int 0, .int 0, .int 0, .int 0, .int 0, .int 0])), (b0, .inl (cyB, 800, .inl f_20))]) [0, 1] (by decide) rfl
  exact W.vret hx hb hr (fun t ht hW => ⟨⟨(), rfl, trivial, ⟨f_20, by rw [ht]; exact hP9, hD9⟩⟩, hS.F ht⟩) hS.2.2 dX10_put_46

/- X10_put -/
set_option maxHeartbeats 4000000 in
set_option maxRecDepth 100000 in
theorem c_put4 (l : Launch) (dC : Nat → ClassId) (dI : Nat → Nat → Nat) (cyI cyB cyJ cyZ cyH cyN : ClassId) (sz : Nat) (h0 b0 : Nat) (f : Nat → Int32) (p0 : Int32) : Met l yX10_put (wk yX10_put cX10_put 3 none) ({ frames := 1, cells := 0, slots := 0, locals := 60 }) (va_Pc [.ref h0, .int p0] (fun U => U.heap.size = sz ∧ va_P (dC, dI) vwCl [(h0, .inr (9, [.ref b0, .int 4, .int 0, .int (-1), .int 0, .int 0, .int 0, .int 0, .int 0, .int 0])), (b0, .inl (cyB, 800, .inl f))] U.heap ∧ va_K (dC, dI) vwCl [(cyI, .int), (cyB, .byte), (cyJ, .long), (cyZ, .boolean), (cyH, .object RX2), (cyN, .array .long)] U ∧ va_D (fun _ => True) [(h0, .inr (9, [.ref b0, .int 4, .int 0, .int (-1), .int 0, .int 0, .int 0, .int 0, .int 0, .int 0])), (b0, .inl (cyB, 800, .inl f))])) (va_Qv (fun _ : Unit => True) (fun (_ : Unit) (t : State) => ∃ g : Nat → Int32, va_P (dC, dI) vwCl [(h0, .inr (9, [.ref b0, .int 8, .int 0, .int (-1), .int 0, .int 0, .int 0, .int 0, .int 0, .int 0])), (b0, .inl (cyB, 800, .inl g))] t.heap ∧ va_D (va_A [(h0, .inr (9, [.ref b0, .int 4, .int 0, .int (-1), .int 0, .int 0, .int 0, .int 0, .int 0, .int 0])), (b0, .inl (cyB, 800, .inl f))] sz) [(h0, .inr (9, [.ref b0, .int 8, .int 0, .int (-1), .int 0, .int 0, .int 0, .int 0, .int 0, .int 0])), (b0, .inl (cyB, 800, .inl g))]) (va_A [(h0, .inr (9, [.ref b0, .int 4, .int 0, .int (-1), .int 0, .int 0, .int 0, .int 0, .int 0, .int 0])), (b0, .inl (cyB, 800, .inl f))] sz)) 0 0 (va_A [(h0, .inr (9, [.ref b0, .int 4, .int 0, .int (-1), .int 0, .int 0, .int 0, .int 0, .int 0, .int 0])), (b0, .inl (cyB, 800, .inl f))] sz) := by
  refine Met.ofW (cc := cX10_put) (maxL := 3) (ret := none) (by decide) rfl ?_
  intro p e s m args below meth c s₁ B hml hv
  obtain ⟨rfl, hsz, hP, hK, hD0⟩ := hv
  have hx := B.exec
  have hb := B.bytes
  have hr := B.returns
  have hts : ∀ w ∈ uU, w.before ([.ref h0, .int p0] : List Value).toArray s = true := fun w h => atoms_spec (ws := wk yX10_put cX10_put 3 none) B.pre w (List.mem_cons_of_mem _ h)
  have hown : s.vm.findClass RX10 = some m.cls := findClass_of_methodNamed B.named
  have hlocks := B.notSynchronized
  subst hsz
  have hD := hD0.self (sz := s.heap.size)
  generalize hAe : va_A [(h0, .inr (9, [.ref b0, .int 4, .int 0, .int (-1), .int 0, .int 0, .int 0, .int 0, .int 0, .int 0])), (b0, .inl (cyB, 800, .inl f))] s.heap.size = A at hD ⊢
  have hA : ∀ q : Nat, s.heap.size ≤ q → A q := fun q h => by rw [← hAe]; exact Or.inr h
  have hS : va_S A s.heap s.heap [] := va_S.rf
  have hP : va_P (dC, dI) vwCl [(h0, .inr (9, [.ref b0, .int 4, .int 0, .int (-1), .int 0, .int 0, .int 0, .int 0, .int 0, .int 0])), (b0, .inl (cyB, 800, .inl f))] s.heap := hP
  have hl := lv_entry ([.ref h0, .int p0]) (n := 3) (Nat.le_of_ble_eq_true rfl)
  rw [lg_entry_eq]
  generalize (lg_sl ([.ref h0, .int p0]) ++ List.replicate (3 - (lg_sl ([.ref h0, .int p0])).length) Slot.unset).toArray = ls at hl ⊢
  have hl : lv_has ls 3 [(0, .ref h0), (1, .int p0)] := hl
  obtain ⟨H, hHe⟩ : ∃ H, H = s.heap := ⟨_, rfl⟩
  have hP : va_P (dC, dI) vwCl [(h0, .inr (9, [.ref b0, .int 4, .int 0, .int (-1), .int 0, .int 0, .int 0, .int 0, .int 0, .int 0])), (b0, .inl (cyB, 800, .inl f))] H := by rw [hHe]; exact hP
  have hS : va_S A s.heap H [] := by rw [hHe]; exact hS
  refine cv_heap hHe ?_
  refine lv_bipush (v := 24) hx hb dX10_put_0 (by decide) ?_
  refine lv_istore_n (lv' := [(2, .int 24), (0, .ref h0), (1, .int p0)]) hx hb dX10_put_2 rfl hl (by decide) rfl (fun ls hl => ?_)
  refine lv_iload_n hx hb dX10_put_3 rfl (lv_at hl 0 rfl) ?_
  refine lv_if_lt (tgt := 46) hx hb dX10_put_4 (by decide) (fun c_1 => absurd c_1 (by decide)) (fun _ => ?_)
  refine lv_aload_n hx hb dX10_put_7 rfl (lv_at hl 1 rfl) ?_
  refine va_get (D := (dC, dI)) (ci := 9) (v := .int 4) (C := RX10) (T := TX10) (N := 10) hx hb hts uinX10 hown hK hP 0 rfl rfl 1 (by decide) (hts _ wd_1_37) (fun _ h9 => h9) rfl dX10_put_8 ?_
  refine lv_sipush (v := 800) hx hb dX10_put_11 (by decide) ?_
  refine lv_icmp_ge (tgt := 46) hx hb dX10_put_14 (by decide) (fun c_2 => absurd c_2 (by decide)) (fun _ => ?_)
  refine lv_aload_n hx hb dX10_put_17 rfl (lv_at hl 1 rfl) ?_
  refine va_get (D := (dC, dI)) (ci := 9) (v := .ref b0) (C := RX10) (T := TX10) (N := 10) hx hb hts uinX10 hown hK hP 0 rfl rfl 0 (by decide) (hts _ wd_1_36) (fun _ h9 => h9) rfl dX10_put_18 ?_
  refine lv_aload_n hx hb dX10_put_21 rfl (lv_at hl 1 rfl) ?_
  refine va_get (D := (dC, dI)) (ci := 9) (v := .int 4) (C := RX10) (T := TX10) (N := 10) hx hb hts uinX10 hown hK hP 0 rfl rfl 1 (by decide) (hts _ wd_1_37) (fun _ h9 => h9) rfl dX10_put_22 ?_
  refine lv_iload_n hx hb dX10_put_25 rfl (lv_at hl 2 rfl) ?_
  refine lv_iload_n hx hb dX10_put_26 rfl (lv_at hl 0 rfl) ?_
  refine lv_ishr hx hb dX10_put_27 ?_
  refine lv_topi (fun x_3 ex_3 => ?_)
  refine lv_i2b hx hb dX10_put_28 rfl ?_
  refine lv_topi (fun x_4 ex_4 => ?_)
  refine va_bast hx hb hK hP hD hS 1 1 rfl rfl (vp_in_iff.mpr (by decide)) dX10_put_29 (fun H locs hP hD hS => ?_)
  obtain ⟨f_5, ef_5⟩ : ∃ z9 : Nat → Int32, z9 = upd f (4 : Int32).toNatClampNeg (vp_nar .byte x_4) := ⟨_, rfl⟩
  rw [← ef_5] at hP hD
  have hP : va_P (dC, dI) vwCl [(h0, .inr (9, [.ref b0, .int 4, .int 0, .int (-1), .int 0, .int 0, .int 0, .int 0, .int 0, .int 0])), (b0, .inl (cyB, 800, .inl f_5))] H := hP
  have hD : va_D A [(h0, .inr (9, [.ref b0, .int 4, .int 0, .int (-1), .int 0, .int 0, .int 0, .int 0, .int 0, .int 0])), (b0, .inl (cyB, 800, .inl f_5))] := hD
  refine lv_aload_n hx hb dX10_put_30 rfl (lv_at hl 1 rfl) ?_
  refine lv_dup hx hb dX10_put_31 rfl ?_
  refine va_get (D := (dC, dI)) (ci := 9) (v := .int 4) (C := RX10) (T := TX10) (N := 10) hx hb hts uinX10 hown hK hP 0 rfl rfl 1 (by decide) (hts _ wd_1_37) (fun _ h9 => h9) rfl dX10_put_32 ?_
  refine lv_iconst (v := 1) hx hb dX10_put_35 (by decide) ?_
  refine lv_iadd hx hb dX10_put_36 ?_
  refine cv_topi (b := 5) (by decide) ?_
  refine va_put (D := (dC, dI)) (ci := 9) (v := .int 5) (ty := .int) (C := RX10) (T := TX10) (N := 10) hx hb hts uinX10 tyX10 tyX10_ok nmX10 hown hK hP hD hS 0 rfl rfl 1 (by decide) (hts _ wd_1_37) (fun _ h9 => h9) rfl (by decide +kernel) rfl rfl (Nat.le_of_ble_eq_true rfl) dX10_put_37 (fun H locs hP hD hS => ?_)
  have hP : va_P (dC, dI) vwCl [(h0, .inr (9, [.ref b0, .int 5, .int 0, .int (-1), .int 0, .int 0, .int 0, .int 0, .int 0, .int 0])), (b0, .inl (cyB, 800, .inl f_5))] H := hP
  have hD : va_D A [(h0, .inr (9, [.ref b0, .int 5, .int 0, .int (-1), .int 0, .int 0, .int 0, .int 0, .int 0, .int 0])), (b0, .inl (cyB, 800, .inl f_5))] := hD
  refine lv_iinc (v := 16) (lv' := [(2, .int 16), (0, .ref h0), (1, .int p0)]) hx hb dX10_put_40 hl (k := 0) rfl (by decide) (by decide) rfl (fun ls hl => ?_)
  refine lv_goto (tgt := 3) hx hb dX10_put_43 (by decide) ?_
  refine lv_iload_n hx hb dX10_put_3 rfl (lv_at hl 0 rfl) ?_
  refine lv_if_lt (tgt := 46) hx hb dX10_put_4 (by decide) (fun c_6 => absurd c_6 (by decide)) (fun _ => ?_)
  refine lv_aload_n hx hb dX10_put_7 rfl (lv_at hl 1 rfl) ?_
  refine va_get (D := (dC, dI)) (ci := 9) (v := .int 5) (C := RX10) (T := TX10) (N := 10) hx hb hts uinX10 hown hK hP 0 rfl rfl 1 (by decide) (hts _ wd_1_37) (fun _ h9 => h9) rfl dX10_put_8 ?_
  refine lv_sipush (v := 800) hx hb dX10_put_11 (by decide) ?_
  refine lv_icmp_ge (tgt := 46) hx hb dX10_put_14 (by decide) (fun c_7 => absurd c_7 (by decide)) (fun _ => ?_)
  refine lv_aload_n hx hb dX10_put_17 rfl (lv_at hl 1 rfl) ?_
  refine va_get (D := (dC, dI)) (ci := 9) (v := .ref b0) (C := RX10) (T := TX10) (N := 10) hx hb hts uinX10 hown hK hP 0 rfl rfl 0 (by decide) (hts _ wd_1_36) (fun _ h9 => h9) rfl dX10_put_18 ?_
  refine lv_aload_n hx hb dX10_put_21 rfl (lv_at hl 1 rfl) ?_
  refine va_get (D := (dC, dI)) (ci := 9) (v := .int 5) (C := RX10) (T := TX10) (N := 10) hx hb hts uinX10 hown hK hP 0 rfl rfl 1 (by decide) (hts _ wd_1_37) (fun _ h9 => h9) rfl dX10_put_22 ?_
  refine lv_iload_n hx hb dX10_put_25 rfl (lv_at hl 2 rfl) ?_
  refine lv_iload_n hx hb dX10_put_26 rfl (lv_at hl 0 rfl) ?_
  refine lv_ishr hx hb dX10_put_27 ?_
  refine lv_topi (fun x_8 ex_8 => ?_)
  refine lv_i2b hx hb dX10_put_28 rfl ?_
  refine lv_topi (fun x_9 ex_9 => ?_)
  refine va_bast hx hb hK hP hD hS 1 1 rfl rfl (vp_in_iff.mpr (by decide)) dX10_put_29 (fun H locs hP hD hS => ?_)
  obtain ⟨f_10, ef_10⟩ : ∃ z9 : Nat → Int32, z9 = upd f_5 (5 : Int32).toNatClampNeg (vp_nar .byte x_9) := ⟨_, rfl⟩
  rw [← ef_10] at hP hD
  have hP : va_P (dC, dI) vwCl [(h0, .inr (9, [.ref b0, .int 5, .int 0, .int (-1), .int 0, .int 0, .int 0, .int 0, .int 0, .int 0])), (b0, .inl (cyB, 800, .inl f_10))] H := hP
  have hD : va_D A [(h0, .inr (9, [.ref b0, .int 5, .int 0, .int (-1), .int 0, .int 0, .int 0, .int 0, .int 0, .int 0])), (b0, .inl (cyB, 800, .inl f_10))] := hD
  refine lv_aload_n hx hb dX10_put_30 rfl (lv_at hl 1 rfl) ?_
  refine lv_dup hx hb dX10_put_31 rfl ?_
  refine va_get (D := (dC, dI)) (ci := 9) (v := .int 5) (C := RX10) (T := TX10) (N := 10) hx hb hts uinX10 hown hK hP 0 rfl rfl 1 (by decide) (hts _ wd_1_37) (fun _ h9 => h9) rfl dX10_put_32 ?_
  refine lv_iconst (v := 1) hx hb dX10_put_35 (by decide) ?_
  refine lv_iadd hx hb dX10_put_36 ?_
  refine cv_topi (b := 6) (by decide) ?_
  refine va_put (D := (dC, dI)) (ci := 9) (v := .int 6) (ty := .int) (C := RX10) (T := TX10) (N := 10) hx hb hts uinX10 tyX10 tyX10_ok nmX10 hown hK hP hD hS 0 rfl rfl 1 (by decide) (hts _ wd_1_37) (fun _ h9 => h9) rfl (by decide +kernel) rfl rfl (Nat.le_of_ble_eq_true rfl) dX10_put_37 (fun H locs hP hD hS => ?_)
  have hP : va_P (dC, dI) vwCl [(h0, .inr (9, [.ref b0, .int 6, .int 0, .int (-1), .int 0, .int 0, .int 0, .int 0, .int 0, .int 0])), (b0, .inl (cyB, 800, .inl f_10))] H := hP
  have hD : va_D A [(h0, .inr (9, [.ref b0, .int 6, .int 0, .int (-1), .int 0, .int 0, .int 0, .int 0, .int 0, .int 0])), (b0, .inl (cyB, 800, .inl f_10))] := hD
  refine lv_iinc (v := 8) (lv' := [(2, .int 8), (0, .ref h0), (1, .int p0)]) hx hb dX10_put_40 hl (k := 0) rfl (by decide) (by decide) rfl (fun ls hl => ?_)
  refine lv_goto (tgt := 3) hx hb dX10_put_43 (by decide) ?_
  refine lv_iload_n hx hb dX10_put_3 rfl (lv_at hl 0 rfl) ?_
  refine lv_if_lt (tgt := 46) hx hb dX10_put_4 (by decide) (fun c_11 => absurd c_11 (by decide)) (fun _ => ?_)
  refine lv_aload_n hx hb dX10_put_7 rfl (lv_at hl 1 rfl) ?_
  refine va_get (D := (dC, dI)) (ci := 9) (v := .int 6) (C := RX10) (T := TX10) (N := 10) hx hb hts uinX10 hown hK hP 0 rfl rfl 1 (by decide) (hts _ wd_1_37) (fun _ h9 => h9) rfl dX10_put_8 ?_
  refine lv_sipush (v := 800) hx hb dX10_put_11 (by decide) ?_
  refine lv_icmp_ge (tgt := 46) hx hb dX10_put_14 (by decide) (fun c_12 => absurd c_12 (by decide)) (fun _ => ?_)
  refine lv_aload_n hx hb dX10_put_17 rfl (lv_at hl 1 rfl) ?_
  refine va_get (D := (dC, dI)) (ci := 9) (v := .ref b0) (C := RX10) (T := TX10) (N := 10) hx hb hts uinX10 hown hK hP 0 rfl rfl 0 (by decide) (hts _ wd_1_36) (fun _ h9 => h9) rfl dX10_put_18 ?_
  refine lv_aload_n hx hb dX10_put_21 rfl (lv_at hl 1 rfl) ?_
  refine va_get (D := (dC, dI)) (ci := 9) (v := .int 6) (C := RX10) (T := TX10) (N := 10) hx hb hts uinX10 hown hK hP 0 rfl rfl 1 (by decide) (hts _ wd_1_37) (fun _ h9 => h9) rfl dX10_put_22 ?_
  refine lv_iload_n hx hb dX10_put_25 rfl (lv_at hl 2 rfl) ?_
  refine lv_iload_n hx hb dX10_put_26 rfl (lv_at hl 0 rfl) ?_
  refine lv_ishr hx hb dX10_put_27 ?_
  refine lv_topi (fun x_13 ex_13 => ?_)
  refine lv_i2b hx hb dX10_put_28 rfl ?_
  refine lv_topi (fun x_14 ex_14 => ?_)
  refine va_bast hx hb hK hP hD hS 1 1 rfl rfl (vp_in_iff.mpr (by decide)) dX10_put_29 (fun H locs hP hD hS => ?_)
  obtain ⟨f_15, ef_15⟩ : ∃ z9 : Nat → Int32, z9 = upd f_10 (6 : Int32).toNatClampNeg (vp_nar .byte x_14) := ⟨_, rfl⟩
  rw [← ef_15] at hP hD
  have hP : va_P (dC, dI) vwCl [(h0, .inr (9, [.ref b0, .int 6, .int 0, .int (-1), .int 0, .int 0, .int 0, .int 0, .int 0, .int 0])), (b0, .inl (cyB, 800, .inl f_15))] H := hP
  have hD : va_D A [(h0, .inr (9, [.ref b0, .int 6, .int 0, .int (-1), .int 0, .int 0, .int 0, .int 0, .int 0, .int 0])), (b0, .inl (cyB, 800, .inl f_15))] := hD
  refine lv_aload_n hx hb dX10_put_30 rfl (lv_at hl 1 rfl) ?_
  refine lv_dup hx hb dX10_put_31 rfl ?_
  refine va_get (D := (dC, dI)) (ci := 9) (v := .int 6) (C := RX10) (T := TX10) (N := 10) hx hb hts uinX10 hown hK hP 0 rfl rfl 1 (by decide) (hts _ wd_1_37) (fun _ h9 => h9) rfl dX10_put_32 ?_
  refine lv_iconst (v := 1) hx hb dX10_put_35 (by decide) ?_
  refine lv_iadd hx hb dX10_put_36 ?_
  refine cv_topi (b := 7) (by decide) ?_
  refine va_put (D := (dC, dI)) (ci := 9) (v := .int 7) (ty := .int) (C := RX10) (T := TX10) (N := 10) hx hb hts uinX10 tyX10 tyX10_ok nmX10 hown hK hP hD hS 0 rfl rfl 1 (by decide) (hts _ wd_1_37) (fun _ h9 => h9) rfl (by decide +kernel) rfl rfl (Nat.le_of_ble_eq_true rfl) dX10_put_37 (fun H locs hP hD hS => ?_)
  have hP : va_P (dC, dI) vwCl [(h0, .inr (9, [.ref b0, .int 7, .int 0, .int (-1), .int 0, .int 0, .int 0, .int 0, .int 0, .int 0])), (b0, .inl (cyB, 800, .inl f_15))] H := hP
  have hD : va_D A [(h0, .inr (9, [.ref b0, .int 7, .int 0, .int (-1), .int 0, .int 0, .int 0, .int 0, .int 0, .int 0])), (b0, .inl (cyB, 800, .inl f_15))] := hD
  refine lv_iinc (v := 0) (lv' := [(2, .int 0), (0, .ref h0), (1, .int p0)]) hx hb dX10_put_40 hl (k := 0) rfl (by decide) (by decide) rfl (fun ls hl => ?_)
  refine lv_goto (tgt := 3) hx hb dX10_put_43 (by decide) ?_
  refine lv_iload_n hx hb dX10_put_3 rfl (lv_at hl 0 rfl) ?_
  refine lv_if_lt (tgt := 46) hx hb dX10_put_4 (by decide) (fun c_16 => absurd c_16 (by decide)) (fun _ => ?_)
  refine lv_aload_n hx hb dX10_put_7 rfl (lv_at hl 1 rfl) ?_
  refine va_get (D := (dC, dI)) (ci := 9) (v := .int 7) (C := RX10) (T := TX10) (N := 10) hx hb hts uinX10 hown hK hP 0 rfl rfl 1 (by decide) (hts _ wd_1_37) (fun _ h9 => h9) rfl dX10_put_8 ?_
  refine lv_sipush (v := 800) hx hb dX10_put_11 (by decide) ?_
  refine lv_icmp_ge (tgt := 46) hx hb dX10_put_14 (by decide) (fun c_17 => absurd c_17 (by decide)) (fun _ => ?_)
  refine lv_aload_n hx hb dX10_put_17 rfl (lv_at hl 1 rfl) ?_
  refine va_get (D := (dC, dI)) (ci := 9) (v := .ref b0) (C := RX10) (T := TX10) (N := 10) hx hb hts uinX10 hown hK hP 0 rfl rfl 0 (by decide) (hts _ wd_1_36) (fun _ h9 => h9) rfl dX10_put_18 ?_
  refine lv_aload_n hx hb dX10_put_21 rfl (lv_at hl 1 rfl) ?_
  refine va_get (D := (dC, dI)) (ci := 9) (v := .int 7) (C := RX10) (T := TX10) (N := 10) hx hb hts uinX10 hown hK hP 0 rfl rfl 1 (by decide) (hts _ wd_1_37) (fun _ h9 => h9) rfl dX10_put_22 ?_
  refine lv_iload_n hx hb dX10_put_25 rfl (lv_at hl 2 rfl) ?_
  refine lv_iload_n hx hb dX10_put_26 rfl (lv_at hl 0 rfl) ?_
  refine lv_ishr hx hb dX10_put_27 ?_
  refine lv_topi (fun x_18 ex_18 => ?_)
  refine lv_i2b hx hb dX10_put_28 rfl ?_
  refine lv_topi (fun x_19 ex_19 => ?_)
  refine va_bast hx hb hK hP hD hS 1 1 rfl rfl (vp_in_iff.mpr (by decide)) dX10_put_29 (fun H locs hP hD hS => ?_)
  obtain ⟨f_20, ef_20⟩ : ∃ z9 : Nat → Int32, z9 = upd f_15 (7 : Int32).toNatClampNeg (vp_nar .byte x_19) := ⟨_, rfl⟩
  rw [← ef_20] at hP hD
  have hP : va_P (dC, dI) vwCl [(h0, .inr (9, [.ref b0, .int 7, .int 0, .int (-1), .int 0, .int 0, .int 0, .int 0, .int 0, .int 0])), (b0, .inl (cyB, 800, .inl f_20))] H := hP
  have hD : va_D A [(h0, .inr (9, [.ref b0, .int 7, .int 0, .int (-1), .int 0, .int 0, .int 0, .int 0, .int 0, .int 0])), (b0, .inl (cyB, 800, .inl f_20))] := hD
  refine lv_aload_n hx hb dX10_put_30 rfl (lv_at hl 1 rfl) ?_
  refine lv_dup hx hb dX10_put_31 rfl ?_
  refine va_get (D := (dC, dI)) (ci := 9) (v := .int 7) (C := RX10) (T := TX10) (N := 10) hx hb hts uinX10 hown hK hP 0 rfl rfl 1 (by decide) (hts _ wd_1_37) (fun _ h9 => h9) rfl dX10_put_32 ?_
  refine lv_iconst (v := 1) hx hb dX10_put_35 (by decide) ?_
  refine lv_iadd hx hb dX10_put_36 ?_
  refine cv_topi (b := 8) (by decide) ?_
  refine va_put (D := (dC, dI)) (ci := 9) (v := .int 8) (ty := .int) (C := RX10) (T := TX10) (N := 10) hx hb hts uinX10 tyX10 tyX10_ok nmX10 hown hK hP hD hS 0 rfl rfl 1 (by decide) (hts _ wd_1_37) (fun _ h9 => h9) rfl (by decide +kernel) rfl rfl (Nat.le_of_ble_eq_true rfl) dX10_put_37 (fun H locs hP hD hS => ?_)
  have hP : va_P (dC, dI) vwCl [(h0, .inr (9, [.ref b0, .int 8, .int 0, .int (-1), .int 0, .int 0, .int 0, .int 0, .int 0, .int 0])), (b0, .inl (cyB, 800, .inl f_20))] H := hP
  have hD : va_D A [(h0, .inr (9, [.ref b0, .int 8, .int 0, .int (-1), .int 0, .int 0, .int 0, .int 0, .int 0, .int 0])), (b0, .inl (cyB, 800, .inl f_20))] := hD
  refine lv_iinc (v := (-8)) (lv' := [(2, .int (-8)), (0, .ref h0), (1, .int p0)]) hx hb dX10_put_40 hl (k := 0) rfl (by decide) (by decide) rfl (fun ls hl => ?_)
  refine lv_goto (tgt := 3) hx hb dX10_put_43 (by decide) ?_
  refine lv_iload_n hx hb dX10_put_3 rfl (lv_at hl 0 rfl) ?_
  refine lv_if_lt (tgt := 46) hx hb dX10_put_4 (by decide) (fun _ => ?_) (fun c_21 => absurd c_21 (by decide))
  have hP9 := hP.sub (ws' := [(h0, .inr (9, [.ref b0, .int 8, .int 0, .int (-1), .int 0, .int 0, .int 0, .int 0, .int 0, .int 0])), (b0, .inl (cyB, 800, .inl f_20))]) [0, 1] rfl
  have hD9 := hD.sub (ws' := [(h0, .inr (9, [.ref b0, .int 8, .int 0, .int (-1), .int 0, .int 0, .int 0, .int 0, .int 0, .int 0])), (b0, .inl (cyB, 800, .inl f_20))]) [0, 1] (by decide) rfl
  exact W.vret hx hb hr (fun t ht hW => ⟨⟨(), rfl, trivial, ⟨f_20, by rw [ht]; exact hP9, hD9⟩⟩, hS.F ht⟩) hS.2.2 dX10_put_46

/- X10_put -/
set_option maxHeartbeats 4000000 in
set_option maxRecDepth 100000 in
theorem c_put8 (l : Launch) (dC : Nat → ClassId) (dI : Nat → Nat → Nat) (cyI cyB cyJ cyZ cyH cyN : ClassId) (sz : Nat) (h0 b0 : Nat) (f : Nat → Int32) (p0 : Int32) : Met l yX10_put (wk yX10_put cX10_put 3 none) ({ frames := 1, cells := 0, slots := 0, locals := 60 }) (va_Pc [.ref h0, .int p0] (fun U => U.heap.size = sz ∧ va_P (dC, dI) vwCl [(h0, .inr (9, [.ref b0, .int 8, .int 0, .int (-1), .int 0, .int 0, .int 0, .int 0, .int 0, .int 0])), (b0, .inl (cyB, 800, .inl f))] U.heap ∧ va_K (dC, dI) vwCl [(cyI, .int), (cyB, .byte), (cyJ, .long), (cyZ, .boolean), (cyH, .object RX2), (cyN, .array .long)] U ∧ va_D (fun _ => True) [(h0, .inr (9, [.ref b0, .int 8, .int 0, .int (-1), .int 0, .int 0, .int 0, .int 0, .int 0, .int 0])), (b0, .inl (cyB, 800, .inl f))])) (va_Qv (fun _ : Unit => True) (fun (_ : Unit) (t : State) => ∃ g : Nat → Int32, va_P (dC, dI) vwCl [(h0, .inr (9, [.ref b0, .int 12, .int 0, .int (-1), .int 0, .int 0, .int 0, .int 0, .int 0, .int 0])), (b0, .inl (cyB, 800, .inl g))] t.heap ∧ va_D (va_A [(h0, .inr (9, [.ref b0, .int 8, .int 0, .int (-1), .int 0, .int 0, .int 0, .int 0, .int 0, .int 0])), (b0, .inl (cyB, 800, .inl f))] sz) [(h0, .inr (9, [.ref b0, .int 12, .int 0, .int (-1), .int 0, .int 0, .int 0, .int 0, .int 0, .int 0])), (b0, .inl (cyB, 800, .inl g))]) (va_A [(h0, .inr (9, [.ref b0, .int 8, .int 0, .int (-1), .int 0, .int 0, .int 0, .int 0, .int 0, .int 0])), (b0, .inl (cyB, 800, .inl f))] sz)) 0 0 (va_A [(h0, .inr (9, [.ref b0, .int 8, .int 0, .int (-1), .int 0, .int 0, .int 0, .int 0, .int 0, .int 0])), (b0, .inl (cyB, 800, .inl f))] sz) := by
  refine Met.ofW (cc := cX10_put) (maxL := 3) (ret := none) (by decide) rfl ?_
  intro p e s m args below meth c s₁ B hml hv
  obtain ⟨rfl, hsz, hP, hK, hD0⟩ := hv
  have hx := B.exec
  have hb := B.bytes
  have hr := B.returns
  have hts : ∀ w ∈ uU, w.before ([.ref h0, .int p0] : List Value).toArray s = true := fun w h => atoms_spec (ws := wk yX10_put cX10_put 3 none) B.pre w (List.mem_cons_of_mem _ h)
  have hown : s.vm.findClass RX10 = some m.cls := findClass_of_methodNamed B.named
  have hlocks := B.notSynchronized
  subst hsz
  have hD := hD0.self (sz := s.heap.size)
  generalize hAe : va_A [(h0, .inr (9, [.ref b0, .int 8, .int 0, .int (-1), .int 0, .int 0, .int 0, .int 0, .int 0, .int 0])), (b0, .inl (cyB, 800, .inl f))] s.heap.size = A at hD ⊢
  have hA : ∀ q : Nat, s.heap.size ≤ q → A q := fun q h => by rw [← hAe]; exact Or.inr h
  have hS : va_S A s.heap s.heap [] := va_S.rf
  have hP : va_P (dC, dI) vwCl [(h0, .inr (9, [.ref b0, .int 8, .int 0, .int (-1), .int 0, .int 0, .int 0, .int 0, .int 0, .int 0])), (b0, .inl (cyB, 800, .inl f))] s.heap := hP
  have hl := lv_entry ([.ref h0, .int p0]) (n := 3) (Nat.le_of_ble_eq_true rfl)
  rw [lg_entry_eq]
  generalize (lg_sl ([.ref h0, .int p0]) ++ List.replicate (3 - (lg_sl ([.ref h0, .int p0])).length) Slot.unset).toArray = ls at hl ⊢
  have hl : lv_has ls 3 [(0, .ref h0), (1, .int p0)] := hl
  obtain ⟨H, hHe⟩ : ∃ H, H = s.heap := ⟨_, rfl⟩
  have hP : va_P (dC, dI) vwCl [(h0, .inr (9, [.ref b0, .int 8, .int 0, .int (-1), .int 0, .int 0, .int 0, .int 0, .int 0, .int 0])), (b0, .inl (cyB, 800, .inl f))] H := by rw [hHe]; exact hP
  have hS : va_S A s.heap H [] := by rw [hHe]; exact hS
  refine cv_heap hHe ?_
  refine lv_bipush (v := 24) hx hb dX10_put_0 (by decide) ?_
  refine lv_istore_n (lv' := [(2, .int 24), (0, .ref h0), (1, .int p0)]) hx hb dX10_put_2 rfl hl (by decide) rfl (fun ls hl => ?_)
  refine lv_iload_n hx hb dX10_put_3 rfl (lv_at hl 0 rfl) ?_
  refine lv_if_lt (tgt := 46) hx hb dX10_put_4 (by decide) (fun c_1 => absurd c_1 (by decide)) (fun _ => ?_)
  refine lv_aload_n hx hb dX10_put_7 rfl (lv_at hl 1 rfl) ?_
  refine va_get (D := (dC, dI)) (ci := 9) (v := .int 8) (C := RX10) (T := TX10) (N := 10) hx hb hts uinX10 hown hK hP 0 rfl rfl 1 (by decide) (hts _ wd_1_37) (fun _ h9 => h9) rfl dX10_put_8 ?_
  refine lv_sipush (v := 800) hx hb dX10_put_11 (by decide) ?_
  refine lv_icmp_ge (tgt := 46) hx hb dX10_put_14 (by decide) (fun c_2 => absurd c_2 (by decide)) (fun _ => ?_)
  refine lv_aload_n hx hb dX10_put_17 rfl (lv_at hl 1 rfl) ?_
  refine va_get (D := (dC, dI)) (ci := 9) (v := .ref b0) (C := RX10) (T := TX10) (N := 10) hx hb hts uinX10 hown hK hP 0 rfl rfl 0 (by decide) (hts _ wd_1_36) (fun _ h9 => h9) rfl dX10_put_18 ?_
  refine lv_aload_n hx hb dX10_put_21 rfl (lv_at hl 1 rfl) ?_
  refine va_get (D := (dC, dI)) (ci := 9) (v := .int 8) (C := RX10) (T := TX10) (N := 10) hx hb hts uinX10 hown hK hP 0 rfl rfl 1 (by decide) (hts _ wd_1_37) (fun _ h9 => h9) rfl dX10_put_22 ?_
  refine lv_iload_n hx hb dX10_put_25 rfl (lv_at hl 2 rfl) ?_
  refine lv_iload_n hx hb dX10_put_26 rfl (lv_at hl 0 rfl) ?_
  refine lv_ishr hx hb dX10_put_27 ?_
  refine lv_topi (fun x_3 ex_3 => ?_)
  refine lv_i2b hx hb dX10_put_28 rfl ?_
  refine lv_topi (fun x_4 ex_4 => ?_)
  refine va_bast hx hb hK hP hD hS 1 1 rfl rfl (vp_in_iff.mpr (by decide)) dX10_put_29 (fun H locs hP hD hS => ?_)
  obtain ⟨f_5, ef_5⟩ : ∃ z9 : Nat → Int32, z9 = upd f (8 : Int32).toNatClampNeg (vp_nar .byte x_4) := ⟨_, rfl⟩
  rw [← ef_5] at hP hD
  have hP : va_P (dC, dI) vwCl [(h0, .inr (9, [.ref b0, .int 8, .int 0, .int (-1), .int 0, .int 0, .int 0, .int 0, .int 0, .int 0])), (b0, .inl (cyB, 800, .inl f_5))] H := hP
  have hD : va_D A [(h0, .inr (9, [.ref b0, .int 8, .int 0, .int (-1), .int 0, .int 0, .int 0, .int 0, .int 0, .int 0])), (b0, .inl (cyB, 800, .inl f_5))] := hD
  refine lv_aload_n hx hb dX10_put_30 rfl (lv_at hl 1 rfl) ?_
  refine lv_dup hx hb dX10_put_31 rfl ?_
  refine va_get (D := (dC, dI)) (ci := 9) (v := .int 8) (C := RX10) (T := TX10) (N := 10) hx hb hts uinX10 hown hK hP 0 rfl rfl 1 (by decide) (hts _ wd_1_37) (fun _ h9 => h9) rfl dX10_put_32 ?_
  refine lv_iconst (v := 1) hx hb dX10_put_35 (by decide) ?_
  refine lv_iadd hx hb dX10_put_36 ?_
  refine cv_topi (b := 9) (by decide) ?_
  refine va_put (D := (dC, dI)) (ci := 9) (v := .int 9) (ty := .int) (C := RX10) (T := TX10) (N := 10) hx hb hts uinX10 tyX10 tyX10_ok nmX10 hown hK hP hD hS 0 rfl rfl 1 (by decide) (hts _ wd_1_37) (fun _ h9 => h9) rfl (by decide +kernel) rfl rfl (Nat.le_of_ble_eq_true rfl) dX10_put_37 (fun H locs hP hD hS => ?_)
  have hP : va_P (dC, dI) vwCl [(h0, .inr (9, [.ref b0, .int 9, .int 0, .int (-1), .int 0, .int 0, .int 0, .int 0, .int 0, .int 0])), (b0, .inl (cyB, 800, .inl f_5))] H := hP
  have hD : va_D A [(h0, .inr (9, [.ref b0, .int 9, .int 0, .int (-1), .int 0, .int 0, .int 0, .int 0, .int 0, .int 0])), (b0, .inl (cyB, 800, .inl f_5))] := hD
  refine lv_iinc (v := 16) (lv' := [(2, .int 16), (0, .ref h0), (1, .int p0)]) hx hb dX10_put_40 hl (k := 0) rfl (by decide) (by decide) rfl (fun ls hl => ?_)
  refine lv_goto (tgt := 3) hx hb dX10_put_43 (by decide) ?_
  refine lv_iload_n hx hb dX10_put_3 rfl (lv_at hl 0 rfl) ?_
  refine lv_if_lt (tgt := 46) hx hb dX10_put_4 (by decide) (fun c_6 => absurd c_6 (by decide)) (fun _ => ?_)
  refine lv_aload_n hx hb dX10_put_7 rfl (lv_at hl 1 rfl) ?_
  refine va_get (D := (dC, dI)) (ci := 9) (v := .int 9) (C := RX10) (T := TX10) (N := 10) hx hb hts uinX10 hown hK hP 0 rfl rfl 1 (by decide) (hts _ wd_1_37) (fun _ h9 => h9) rfl dX10_put_8 ?_
  refine lv_sipush (v := 800) hx hb dX10_put_11 (by decide) ?_
  refine lv_icmp_ge (tgt := 46) hx hb dX10_put_14 (by decide) (fun c_7 => absurd c_7 (by decide)) (fun _ => ?_)
  refine lv_aload_n hx hb dX10_put_17 rfl (lv_at hl 1 rfl) ?_
  refine va_get (D := (dC, dI)) (ci := 9) (v := .ref b0) (C := RX10) (T := TX10) (N := 10) hx hb hts uinX10 hown hK hP 0 rfl rfl 0 (by decide) (hts _ wd_1_36) (fun _ h9 => h9) rfl dX10_put_18 ?_
  refine lv_aload_n hx hb dX10_put_21 rfl (lv_at hl 1 rfl) ?_
  refine va_get (D := (dC, dI)) (ci := 9) (v := .int 9) (C := RX10) (T := TX10) (N := 10) hx hb hts uinX10 hown hK hP 0 rfl rfl 1 (by decide) (hts _ wd_1_37) (fun _ h9 => h9) rfl dX10_put_22 ?_
  refine lv_iload_n hx hb dX10_put_25 rfl (lv_at hl 2 rfl) ?_
  refine lv_iload_n hx hb dX10_put_26 rfl (lv_at hl 0 rfl) ?_
  refine lv_ishr hx hb dX10_put_27 ?_
  refine lv_topi (fun x_8 ex_8 => ?_)
  refine lv_i2b hx hb dX10_put_28 rfl ?_
  refine lv_topi (fun x_9 ex_9 => ?_)
  refine va_bast hx hb hK hP hD hS 1 1 rfl rfl (vp_in_iff.mpr (by decide)) dX10_put_29 (fun H locs hP hD hS => ?_)
  obtain ⟨f_10, ef_10⟩ : ∃ z9 : Nat → Int32, z9 = upd f_5 (9 : Int32).toNatClampNeg (vp_nar .byte x_9) := ⟨_, rfl⟩
  rw [← ef_10] at hP hD
  have hP : va_P (dC, dI) vwCl [(h0, .inr (9, [.ref b0, .int 9, .int 0, .int (-1), .int 0, .int 0, .int 0, .int 0, .int 0, .int 0])), (b0, .inl (cyB, 800, .inl f_10))] H := hP
  have hD : va_D A [(h0, .inr (9, [.ref b0, .int 9, .int 0, .int (-1), .int 0, .int 0, .int 0, .int 0, .int 0, .int 0])), (b0, .inl (cyB, 800, .inl f_10))] := hD
  refine lv_aload_n hx hb dX10_put_30 rfl (lv_at hl 1 rfl) ?_
  refine lv_dup hx hb dX10_put_31 rfl ?_
  refine va_get (D := (dC, dI)) (ci := 9) (v := .int 9) (C := RX10) (T := TX10) (N := 10) hx hb hts uinX10 hown hK hP 0 rfl rfl 1 (by decide) (hts _ wd_1_37) (fun _ h9 => h9) rfl dX10_put_32 ?_
  refine lv_iconst (v := 1) hx hb dX10_put_35 (by decide) ?_
  refine lv_iadd hx hb dX10_put_36 ?_
  refine cv_topi (b := 10) (by decide) ?_
  refine va_put (D := (dC, dI)) (ci := 9) (v := .int 10) (ty := .int) (C := RX10) (T := TX10) (N := 10) hx hb hts uinX10 tyX10 tyX10_ok nmX10 hown hK hP hD hS 0 rfl rfl 1 (by decide) (hts _ wd_1_37) (fun _ h9 => h9) rfl (by decide +kernel) rfl rfl (Nat.le_of_ble_eq_true rfl) dX10_put_37 (fun H locs hP hD hS => ?_)
  have hP : va_P (dC, dI) vwCl [(h0, .inr (9, [.ref b0, .int 10, .int 0, .int (-1), .int 0, .int 0, .int 0, .int 0, .int 0, .int 0])), (b0, .inl (cyB, 800, .inl f_10))] H := hP
  have hD : va_D A [(h0, .inr (9, [.ref b0, .int 10, .int 0, .int (-1), .int 0, .int 0, .int 0, .int 0, .int 0, .int 0])), (b0, .inl (cyB, 800, .inl f_10))] := hD
  refine lv_iinc (v := 8) (lv' := [(2, .int 8), (0, .ref h0), (1, .int p0)]) hx hb dX10_put_40 hl (k := 0) rfl (by decide) (by decide) rfl (fun ls hl => ?_)
  refine lv_goto (tgt := 3) hx hb dX10_put_43 (by decide) ?_
  refine lv_iload_n hx hb dX10_put_3 rfl (lv_at hl 0 rfl) ?_
  refine lv_if_lt (tgt := 46) hx hb dX10_put_4 (by decide) (fun c_11 => absurd c_11 (by decide)) (fun _ => ?_)
  refine lv_aload_n hx hb dX10_put_7 rfl (lv_at hl 1 rfl) ?_
  refine va_get (D := (dC, dI)) (ci := 9) (v := .int 10) (C := RX10) (T := TX10) (N := 10) hx hb hts uinX10 hown hK hP 0 rfl rfl 1 (by decide) (hts _ wd_1_37) (fun _ h9 => h9) rfl dX10_put_8 ?_
  refine lv_sipush (v := 800) hx hb dX10_put_11 (by decide) ?_
  refine lv_icmp_ge (tgt := 46) hx hb dX10_put_14 (by decide) (fun c_12 => absurd c_12 (by decide)) (fun _ => ?_)
  refine lv_aload_n hx hb dX10_put_17 rfl (lv_at hl 1 rfl) ?_
  refine va_get (D := (dC, dI)) (ci := 9) (v := .ref b0) (C := RX10) (T := TX10) (N := 10) hx hb hts uinX10 hown hK hP 0 rfl rfl 0 (by decide) (hts _ wd_1_36) (fun _ h9 => h9) rfl dX10_put_18 ?_
  refine lv_aload_n hx hb dX10_put_21 rfl (lv_at hl 1 rfl) ?_
  refine va_get (D := (dC, dI)) (ci := 9) (v := .int 10) (C := RX10) (T := TX10) (N := 10) hx hb hts uinX10 hown hK hP 0 rfl rfl 1 (by decide) (hts _ wd_1_37) (fun _ h9 => h9) rfl dX10_put_22 ?_
  refine lv_iload_n hx hb dX10_put_25 rfl (lv_at hl 2 rfl) ?_
  refine lv_iload_n hx hb dX10_put_26 rfl (lv_at hl 0 rfl) ?_
  refine lv_ishr hx hb dX10_put_27 ?_
  refine lv_topi (fun x_13 ex_13 => ?_)
  refine lv_i2b hx hb dX10_put_28 rfl ?_
  refine lv_topi (fun x_14 ex_14 => ?_)
  refine va_bast hx hb hK hP hD hS 1 1 rfl rfl (vp_in_iff.mpr (by decide)) dX10_put_29 (fun H locs hP hD hS => ?_)
  obtain ⟨f_15, ef_15⟩ : ∃ z9 : Nat → Int32, z9 = upd f_10 (10 : Int32).toNatClampNeg (vp_nar .byte x_14) := ⟨_, rfl⟩
  rw [← ef_15] at hP hD
  have hP : va_P (dC, dI) vwCl [(h0, .inr (9, [.ref b0, .int 10, .int 0, .int (-1), .int 0, .int 0, .int 0, .int 0, .int 0, .int 0])), (b0, .inl (cyB, 800, .inl f_15))] H := hP
  have hD : va_D A [(h0, .inr (9, [.ref b0, .int 10, .int 0, .int (-1), .int 0, .int 0, .int 0, .int 0, .int 0, .int 0])), (b0, .inl (cyB, 800, .inl f_15))] := hD
  refine lv_aload_n hx hb dX10_put_30 rfl (lv_at hl 1 rfl) ?_
  refine lv_dup hx hb dX10_put_31 rfl ?_
  refine va_get (D := (dC, dI)) (ci := 9) (v := .int 10) (C := RX10) (T := TX10) (N := 10) hx hb hts uinX10 hown hK hP 0 rfl rfl 1 (by decide) (hts _ wd_1_37) (fun _ h9 => h9) rfl dX10_put_32 ?_
  refine lv_iconst (v := 1) hx hb dX10_put_35 (by decide) ?_
  refine lv_iadd hx hb dX10_put_36 ?_
  refine cv_topi (b := 11) (by decide) ?_
  refine va_put (D := (dC, dI)) (ci := 9) (v := .int 11) (ty := .int) (C := RX10) (T := TX10) (N := 10) hx hb hts uinX10 tyX10 tyX10_ok nmX10 hown hK hP hD hS 0 rfl rfl 1 (by decide) (hts _ wd_1_37) (fun _ h9 => h9) rfl (by decide +kernel) rfl rfl (Nat.le_of_ble_eq_true rfl) dX10_put_37 (fun H locs hP hD hS => ?_)
  have hP : va_P (dC, dI) vwCl [(h0, .inr (9, [.ref b0, .int 11, .int 0, .int (-1), .int 0, .int 0, .int 0, .int 0, .int 0, .int 0])), (b0, .inl (cyB, 800, .inl f_15))] H := hP
  have hD : va_D A [(h0, .inr (9, [.ref b0, .int 11, .int 0, .int (-1), .int 0, .int 0, .int 0, .int 0, .int 0, .int 0])), (b0, .inl (cyB, 800, .inl f_15))] := hD
  refine lv_iinc (v := 0) (lv' := [(2, .int 0), (0, .ref h0), (1, .int p0)]) hx hb dX10_put_40 hl (k := 0) rfl (by decide) (by decide) rfl (fun ls hl => ?_)
  refine lv_goto (tgt := 3) hx hb dX10_put_43 (by decide) ?_
  refine lv_iload_n hx hb dX10_put_3 rfl (lv_at hl 0 rfl) ?_
  refine lv_if_lt (tgt := 46) hx hb dX10_put_4 (by decide) (fun c_16 => absurd c_16 (by decide)) (fun _ => ?_)
  refine lv_aload_n hx hb dX10_put_7 rfl (lv_at hl 1 rfl) ?_
  refine va_get (D := (dC, dI)) (ci := 9) (v := .int 11) (C := RX10) (T := TX10) (N := 10) hx hb hts uinX10 hown hK hP 0 rfl rfl 1 (by decide) (hts _ wd_1_37) (fun _ h9 => h9) rfl dX10_put_8 ?_
  refine lv_sipush (v := 800) hx hb dX10_put_11 (by decide) ?_
  refine lv_icmp_ge (tgt := 46) hx hb dX10_put_14 (by decide) (fun c_17 => absurd c_17 (by decide)) (fun _ => ?_)
  refine lv_aload_n hx hb dX10_put_17 rfl (lv_at hl 1 rfl) ?_
  refine va_get (D := (dC, dI)) (ci := 9) (v := .ref b0) (C := RX10) (T := TX10) (N := 10) hx hb hts uinX10 hown hK hP 0 rfl rfl 0 (by decide) (hts _ wd_1_36) (fun _ h9 => h9) rfl dX10_put_18 ?_
  refine lv_aload_n hx hb dX10_put_21 rfl (lv_at hl 1 rfl) ?_
  refine va_get (D := (dC, dI)) (ci := 9) (v := .int 11) (C := RX10) (T := TX10) (N := 10) hx hb hts uinX10 hown hK hP 0 rfl rfl 1 (by decide) (hts _ wd_1_37) (fun _ h9 => h9) rfl dX10_put_22 ?_
  refine lv_iload_n hx hb dX10_put_25 rfl (lv_at hl 2 rfl) ?_
  refine lv_iload_n hx hb dX10_put_26 rfl (lv_at hl 0 rfl) ?_
  refine lv_ishr hx hb dX10_put_27 ?_
  refine lv_topi (fun x_18 ex_18 => ?_)
  refine lv_i2b hx hb dX10_put_28 rfl ?_
  refine lv_topi (fun x_19 ex_19 => ?_)
  refine va_bast hx hb hK hP hD hS 1 1 rfl rfl (vp_in_iff.mpr (by decide)) dX10_put_29 (fun H locs hP hD hS => ?_)
  obtain ⟨f_20, ef_20⟩ : ∃ z9 : Nat → Int32, z9 = upd f_15 (11 : Int32).toNatClampNeg (vp_nar .byte x_19) := ⟨_, rfl⟩
  rw [← ef_20] at hP hD
  have hP : va_P (dC, dI) vwCl [(h0, .inr (9, [.ref b0, .int 11, .int 0, .int (-1), .int 0, .int 0, .int 0, .int 0, .int 0, .int 0])), (b0, .inl (cyB, 800, .inl f_20))] H := hP
  have hD : va_D A [(h0, .inr (9, [.ref b0, .int 11, .int 0, .int (-1), .int 0, .int 0, .int 0, .int 0, .int 0, .int 0])), (b0, .inl (cyB, 800, .inl f_20))] := hD
  refine lv_aload_n hx hb dX10_put_30 rfl (lv_at hl 1 rfl) ?_
  refine lv_dup hx hb dX10_put_31 rfl ?_
  refine va_get (D := (dC, dI)) (ci := 9) (v := .int 11) (C := RX10) (T := TX10) (N := 10) hx hb hts uinX10 hown hK hP 0 rfl rfl 1 (by decide) (hts _ wd_1_37) (fun _ h9 => h9) rfl dX10_put_32 ?_
  refine lv_iconst (v := 1) hx hb dX10_put_35 (by decide) ?_
  refine lv_iadd hx hb dX10_put_36 ?_
  refine cv_topi (b := 12) (by decide) ?_
  refine va_put (D := (dC, dI)) (ci := 9) (v := .int 12) (ty := .int) (C := RX10) (T := TX10) (N := 10) hx hb hts uinX10 tyX10 tyX10_ok nmX10 hown hK hP hD hS 0 rfl rfl 1 (by decide) (hts _ wd_1_37) (fun _ h9 => h9) rfl (by decide +kernel) rfl rfl (Nat.le_of_ble_eq_true rfl) dX10_put_37 (fun H locs hP hD hS => ?_)
  have hP : va_P (dC, dI) vwCl [(h0, .inr (9, [.ref b0, .int 12, .int 0, .int (-1), .int 0, .int 0, .int 0, .int 0, .int 0, .int 0])), (b0, .inl (cyB, 800, .inl f_20))] H := hP
  have hD : va_D A [(h0, .inr (9, [.ref b0, .int 12, .int 0, .int (-1), .int 0, .int 0, .int 0, .int 0, .int 0, .int 0])), (b0, .inl (cyB, 800, .inl f_20))] := hD
  refine lv_iinc (v := (-8)) (lv' := [(2, .int (-8)), (0, .ref h0), (1, .int p0)]) hx hb dX10_put_40 hl (k := 0) rfl (by decide) (by decide) rfl (fun ls hl => ?_)
  refine lv_goto (tgt := 3) hx hb dX10_put_43 (by decide) ?_
  refine lv_iload_n hx hb dX10_put_3 rfl (lv_at hl 0 rfl) ?_
  refine lv_if_lt (tgt := 46) hx hb dX10_put_4 (by decide) (fun _ => ?_) (fun c_21 => absurd c_21 (by decide))
  have hP9 := hP.sub (ws' := [(h0, .inr (9, [.ref b0, .int 12, .int 0, .int (-1), .int 0, .int 0, .int 0, .int 0, .int 0, .int 0])), (b0, .inl (cyB, 800, .inl f_20))]) [0, 1] rfl
  have hD9 := hD.sub (ws' := [(h0, .inr (9, [.ref b0, .int 12, .int 0, .int (-1), .int 0, .int 0, .int 0, .int 0, .int 0, .int 0])), (b0, .inl (cyB, 800, .inl f_20))]) [0, 1] (by decide) rfl
  exact W.vret hx hb hr (fun t ht hW => ⟨⟨(), rfl, trivial, ⟨f_20, by rw [ht]; exact hP9, hD9⟩⟩, hS.F ht⟩) hS.2.2 dX10_put_46

/- X10_put -/
set_option maxHeartbeats 4000000 in
set_option maxRecDepth 100000 in
theorem c_put12 (l : Launch) (dC : Nat → ClassId) (dI : Nat → Nat → Nat) (cyI cyB cyJ cyZ cyH cyN : ClassId) (sz : Nat) (h0 b0 : Nat) (f : Nat → Int32) (p0 : Int32) : Met l yX10_put (wk yX10_put cX10_put 3 none) ({ frames := 1, cells := 0, slots := 0, locals := 60 }) (va_Pc [.ref h0, .int p0] (fun U => U.heap.size = sz ∧ va_P (dC, dI) vwCl [(h0, .inr (9, [.ref b0, .int 12, .int 0, .int (-1), .int 0, .int 0, .int 0, .int 0, .int 0, .int 0])), (b0, .inl (cyB, 800, .inl f))] U.heap ∧ va_K (dC, dI) vwCl [(cyI, .int), (cyB, .byte), (cyJ, .long), (cyZ, .boolean), (cyH, .object RX2), (cyN, .array .long)] U ∧ va_D (fun _ => True) [(h0, .inr (9, [.ref b0, .int 12, .int 0, .int (-1), .int 0, .int 0, .int 0, .int 0, .int 0, .int 0])), (b0, .inl (cyB, 800, .inl f))])) (va_Qv (fun _ : Unit => True) (fun (_ : Unit) (t : State) => ∃ g : Nat → Int32, va_P (dC, dI) vwCl [(h0, .inr (9, [.ref b0, .int 16, .int 0, .int (-1), .int 0, .int 0, .int 0, .int 0, .int 0, .int 0])), (b0, .inl (cyB, 800, .inl g))] t.heap ∧ va_D (va_A [(h0, .inr (9, [.ref b0, .int 12, .int 0, .int (-1), .int 0, .int 0, .int 0, .int 0, .int 0, .int 0])), (b0, .inl (cyB, 800, .inl f))] sz) [(h0, .inr (9, [.ref b0, .int 16, .int 0, .int (-1), .int 0, .int 0, .int 0, .int 0, .int 0, .int 0])), (b0, .inl (cyB, 800, .inl g))]) (va_A [(h0, .inr (9, [.ref b0, .int 12, .int 0, .int (-1), .int 0, .int 0, .int 0, .int 0, .int 0, .int 0])), (b0, .inl (cyB, 800, .inl f))] sz)) 0 0 (va_A [(h0, .inr (9, [.ref b0, .int 12, .int 0, .int (-1), .int 0, .int 0, .int 0, .int 0, .int 0, .int 0])), (b0, .inl (cyB, 800, .inl f))] sz) := by
  refine Met.ofW (cc := cX10_put) (maxL := 3) (ret := none) (by decide) rfl ?_
  intro p e s m args below meth c s₁ B hml hv
  obtain ⟨rfl, hsz, hP, hK, hD0⟩ := hv
  have hx := B.exec
  have hb := B.bytes
  have hr := B.returns
  have hts : ∀ w ∈ uU, w.before ([.ref h0, .int p0] : List Value).toArray s = true := fun w h => atoms_spec (ws := wk yX10_put cX10_put 3 none) B.pre w (List.mem_cons_of_mem _ h)
  have hown : s.vm.findClass RX10 = some m.cls := findClass_of_methodNamed B.named
  have hlocks := B.notSynchronized
  subst hsz
  have hD := hD0.self (sz := s.heap.size)
  generalize hAe : va_A [(h0, .inr (9, [.ref b0, .int 12, .int 0, .int (-1), .int 0, .int 0, .int 0, .int 0, .int 0, .int 0])), (b0, .inl (cyB, 800, .inl f))] s.heap.size = A at hD ⊢
  have hA : ∀ q : Nat, s.heap.size ≤ q → A q := fun q h => by rw [← hAe]; exact Or.inr h
  have hS : va_S A s.heap s.heap [] := va_S.rf
  have hP : va_P (dC, dI) vwCl [(h0, .inr (9, [.ref b0, .int 12, .int 0, .int (-1), .int 0, .int 0, .int 0, .int 0, .int 0, .int 0])), (b0, .inl (cyB, 800, .inl f))] s.heap := hP
  have hl := lv_entry ([.ref h0, .int p0]) (n := 3) (Nat.le_of_ble_eq_true rfl)
  rw [lg_entry_eq]
  generalize (lg_sl ([.ref h0, .int p0]) ++ List.replicate (3 - (lg_sl ([.ref h0, .int p0])).length) Slot.unset).toArray = ls at hl ⊢
  have hl : lv_has ls 3 [(0, .ref h0), (1, .int p0)] := hl
  obtain ⟨H, hHe⟩ : ∃ H, H = s.heap := ⟨_, rfl⟩
  have hP : va_P (dC, dI) vwCl [(h0, .inr (9, [.ref b0, .int 12, .int 0, .int (-1), .int 0, .int 0, .int 0, .int 0, .int 0, .int 0])), (b0, .inl (cyB, 800, .inl f))] H := by rw [hHe]; exact hP
  have hS : va_S A s.heap H [] := by rw [hHe]; exact hS
  refine cv_heap hHe ?_
  refine lv_bipush (v := 24) hx hb dX10_put_0 (by decide) ?_
  refine lv_istore_n (lv' := [(2, .int 24), (0, .ref h0), (1, .int p0)]) hx hb dX10_put_2 rfl hl (by decide) rfl (fun ls hl => ?_)
  refine lv_iload_n hx hb dX10_put_3 rfl (lv_at hl 0 rfl) ?_
  refine lv_if_lt (tgt := 46) hx hb dX10_put_4 (by decide) (fun c_1 => absurd c_1 (by decide)) (fun _ => ?_)
  refine lv_aload_n hx hb dX10_put_7 rfl (lv_at hl 1 rfl) ?_
  refine va_get (D := (dC, dI)) (ci := 9) (v := .int 12) (C := RX10) (T := TX10) (N := 10) hx hb hts uinX10 hown hK hP 0 rfl rfl 1 (by decide) (hts _ wd_1_37) (fun _ h9 => h9) rfl dX10_put_8 ?_
  refine lv_sipush (v := 800) hx hb dX10_put_11 (by decide) ?_
  refine lv_icmp_ge (tgt := 46) hx hb dX10_put_14 (by decide) (fun c_2 => absurd c_2 (by decide)) (fun _ => ?_)
  refine lv_aload_n hx hb dX10_put_17 rfl (lv_at hl 1 rfl) ?_
  refine va_get (D := (dC, dI)) (ci := 9) (v := .ref b0) (C := RX10) (T := TX10) (N := 10) hx hb hts uinX10 hown hK hP 0 rfl rfl 0 (by decide) (hts _ wd_1_36) (fun _ h9 => h9) rfl dX10_put_18 ?_
  refine lv_aload_n hx hb dX10_put_21 rfl (lv_at hl 1 rfl) ?_
  refine va_get (D := (dC, dI)) (ci := 9) (v := .int 12) (C := RX10) (T := TX10) (N := 10) hx hb hts uinX10 hown hK hP 0 rfl rfl 1 (by decide) (hts _ wd_1_37) (fun _ h9 => h9) rfl dX10_put_22 ?_
  refine lv_iload_n hx hb dX10_put_25 rfl (lv_at hl 2 rfl) ?_
  refine lv_iload_n hx hb dX10_put_26 rfl (lv_at hl 0 rfl) ?_
  refine lv_ishr hx hb dX10_put_27 ?_
  refine lv_topi (fun x_3 ex_3 => ?_)
  refine lv_i2b hx hb dX10_put_28 rfl ?_
  refine lv_topi (fun x_4 ex_4 => ?_)
  refine va_bast hx hb hK hP hD hS 1 1 rfl rfl (vp_in_iff.mpr (by decide)) dX10_put_29 (fun H locs hP hD hS => ?_)
  obtain ⟨f_5, ef_5⟩ : ∃ z9 : Nat → Int32, z9 = upd f (12 : Int32).toNatClampNeg (vp_nar .byte x_4) := ⟨_, rfl⟩
  rw [← ef_5] at hP hD
  have hP : va_P (dC, dI) vwCl [(h0, .inr (9, [.ref b0, .int 12, .int 0, .int (-1), .int 0, .int 0, .int 0, .int 0, .int 0, .int 0])), (b0, .inl (cyB, 800, .inl f_5))] H := hP
  have hD : va_D A [(h0, .inr (9, [.ref b0, .int 12, .int 0, .int (-1), .int 0, .int 0, .int 0, .int 0, .int 0, .int 0])), (b0, .inl (cyB, 800, .inl f_5))] := hD
  refine lv_aload_n hx hb dX10_put_30 rfl (lv_at hl 1 rfl) ?_
  refine lv_dup hx hb dX10_put_31 rfl ?_
  refine va_get (D := (dC, dI)) (ci := 9) (v := .int 12) (C := RX10) (T := TX10) (N := 10) hx hb hts uinX10 hown hK hP 0 rfl rfl 1 (by decide) (hts _ wd_1_37) (fun _ h9 => h9) rfl dX10_put_32 ?_
  refine lv_iconst (v := 1) hx hb dX10_put_35 (by decide) ?_
  refine lv_iadd hx hb dX10_put_36 ?_
  refine cv_topi (b := 13) (by decide) ?_
  refine va_put (D := (dC, dI)) (ci := 9) (v := .int 13) (ty := .int) (C := RX10) (T := TX10) (N := 10) hx hb hts uinX10 tyX10 tyX10_ok nmX10 hown hK hP hD hS 0 rfl rfl 1 (by decide) (hts _ wd_1_37) (fun _ h9 => h9) rfl (by decide +kernel) rfl rfl (Nat.le_of_ble_eq_true rfl) dX10_put_37 (fun H locs hP hD hS => ?_)
  have hP : va_P (dC, dI) vwCl [(h0, .inr (9, [.ref b0, .int 13, .int 0, .int (-1), .int 0, .int 0, .int 0, .int 0, .int 0, .int 0])), (b0, .inl (cyB, 800, .inl f_5))] H := hP
  have hD : va_D A [(h0, .inr (9, [.ref b0, .int 13, .int 0, .int (-1), .int 0, .int 0, .int 0, .int 0, .int 0, .int 0])), (b0, .inl (cyB, 800, .inl f_5))] := hD
  refine lv_iinc (v := 16) (lv' := [(2, .int 16), (0, .ref h0), (1, .int p0)]) hx hb dX10_put_40 hl (k := 0) rfl (by decide) (by decide) rfl (fun ls hl => ?_)
  refine lv_goto (tgt := 3) hx hb dX10_put_43 (by decide) ?_
  refine lv_iload_n hx hb dX10_put_3 rfl (lv_at hl 0 rfl) ?_
  refine lv_if_lt (tgt := 46) hx hb dX10_put_4 (by decide) (fun c_6 => absurd c_6 (by decide)) (fun _ => ?_)
  refine lv_aload_n hx hb dX10_put_7 rfl (lv_at hl 1 rfl) ?_
  refine va_get (D := (dC, dI)) (ci := 9) (v := .int 13) (C := RX10) (T := TX10) (N := 10) hx hb hts uinX10 hown hK hP 0 rfl rfl 1 (by decide) (hts _ wd_1_37) (fun _ h9 => h9) rfl dX10_put_8 ?_
  refine lv_sipush (v := 800) hx hb dX10_put_11 (by decide) ?_
  refine lv_icmp_ge (tgt := 46) hx hb dX10_put_14 (by decide) (fun c_7 => absurd c_7 (by decide)) (fun _ => ?_)
  refine lv_aload_n hx hb dX10_put_17 rfl (lv_at hl 1 rfl) ?_
  refine va_get (D := (dC, dI)) (ci := 9) (v := .ref b0) (C := RX10) (T := TX10) (N := 10) hx hb hts uinX10 hown hK hP 0 rfl rfl 0 (by decide) (hts _ wd_1_36) (fun _ h9 => h9) rfl dX10_put_18 ?_
  refine lv_aload_n hx hb dX10_put_21 rfl (lv_at hl 1 rfl) ?_
  refine va_get (D := (dC, dI)) (ci := 9) (v := .int 13) (C := RX10) (T := TX10) (N := 10) hx hb hts uinX10 hown hK hP 0 rfl rfl 1 (by decide) (hts _ wd_1_37) (fun _ h9 => h9) rfl dX10_put_22 ?_
  refine lv_iload_n hx hb dX10_put_25 rfl (lv_at hl 2 rfl) ?_
  refine lv_iload_n hx hb dX10_put_26 rfl (lv_at hl 0 rfl) ?_
  refine lv_ishr hx hb dX10_put_27 ?_
  refine lv_topi (fun x_8 ex_8 => ?_)
  refine lv_i2b hx hb dX10_put_28 rfl ?_
  refine lv_topi (fun x_9 ex_9 => ?_)
  refine va_bast hx hb hK hP hD hS 1 1 rfl rfl (vp_in_iff.mpr (by decide)) dX10_put_29 (fun H locs hP hD hS => ?_)
  obtain ⟨f_10, ef_10⟩ : ∃ z9 : Nat → Int32, z9 = upd f_5 (13 : Int32).toNatClampNeg (vp_nar .byte x_9) := ⟨_, rfl⟩
  rw [← ef_10] at hP hD
  have hP : va_P (dC, dI) vwCl [(h0, .inr (9, [.ref b0, .int 13, .int 0, .int (-1), .int 0, .int 0, .int 0, .int 0, .int 0, .int 0])), (b0, .inl (cyB, 800, .inl f_10))] H := hP
  have hD : va_D A [(h0, .inr (9, [.ref b0, .int 13, .int 0, .int (-1), .int 0, .int 0, .int 0, .int 0, .int 0, .int 0])), (b0, .inl (cyB, 800, .inl f_10))] := hD
  refine lv_aload_n hx hb dX10_put_30 rfl (lv_at hl 1 rfl) ?_
  refine lv_dup hx hb dX10_put_31 rfl ?_
  refine va_get (D := (dC, dI)) (ci := 9) (v := .int 13) (C := RX10) (T := TX10) (N := 10) hx hb hts uinX10 hown hK hP 0 rfl rfl 1 (by decide) (hts _ wd_1_37) (fun _ h9 => h9) rfl dX10_put_32 ?_
  refine lv_iconst (v := 1) hx hb dX10_put_35 (by decide) ?_
  refine lv_iadd hx hb dX10_put_36 ?_
  refine cv_topi (b := 14) (by decide) ?_
  refine va_put (D := (dC, dI)) (ci := 9) (v := .int 14) (ty := .int) (C := RX10) (T := TX10) (N := 10) hx hb hts uinX10 tyX10 tyX10_ok nmX10 hown hK hP hD hS 0 rfl rfl 1 (by decide) (hts _ wd_1_37) (fun _ h9 => h9) rfl (by decide +kernel) rfl rfl (Nat.le_of_ble_eq_true rfl) dX10_put_37 (fun H locs hP hD hS => ?_)
  have hP : va_P (dC, dI) vwCl [(h0, .inr (9, [.ref b0, .int 14, .int 0, .int (-1), .int 0, .int 0, .int 0, .int 0, .int 0, .int 0])), (b0, .inl (cyB, 800, .inl f_10))] H := hP
  have hD : va_D A [(h0, .inr (9, [.ref b0, .int 14, .int 0, .int (-1), .int 0, .int 0, .int 0, .int 0, .int 0, .int 0])), (b0, .inl (cyB, 800, .inl f_10))] := hD
  refine lv_iinc (v := 8) (lv' := [(2, .int 8), (0, .ref h0), (1, .int p0)]) hx hb dX10_put_40 hl (k := 0) rfl (by decide) (by decide) rfl (fun ls hl => ?_)
  refine lv_goto (tgt := 3) hx hb dX10_put_43 (by decide) ?_
  refine lv_iload_n hx hb dX10_put_3 rfl (lv_at hl 0 rfl) ?_
  refine lv_if_lt (tgt := 46) hx hb dX10_put_4 (by decide) (fun c_11 => absurd c_11 (by decide)) (fun _ => ?_)
  refine lv_aload_n hx hb dX10_put_7 rfl (lv_at hl 1 rfl) ?_
  refine va_get (D := (dC, dI)) (ci := 9) (v := .int 14) (C := RX10) (T := TX10) (N := 10) hx hb hts uinX10 hown hK hP 0 rfl rfl 1 (by decide) (hts _ wd_1_37) (fun _ h9 => h9) rfl dX10_put_8 ?_
  refine lv_sipush (v := 800) hx hb dX10_put_11 (by decide) ?_
  refine lv_icmp_ge (tgt := 46) hx hb dX10_put_14 (by decide) (fun c_12 => absurd c_12 (by decide)) (fun _ => ?_)
  refine lv_aload_n hx hb dX10_put_17 rfl (lv_at hl 1 rfl) ?_
  refine va_get (D := (dC, dI)) (ci := 9) (v := .ref b0) (C := RX10) (T := TX10) (N := 10) hx hb hts uinX10 hown hK hP 0 rfl rfl 0 (by decide) (hts _ wd_1_36) (fun _ h9 => h9) rfl dX10_put_18 ?_
  refine lv_aload_n hx hb dX10_put_21 rfl (lv_at hl 1 rfl) ?_
  refine va_get (D := (dC, dI)) (ci := 9) (v := .int 14) (C := RX10) (T := TX10) (N := 10) hx hb hts uinX10 hown hK hP 0 rfl rfl 1 (by decide) (hts _ wd_1_37) (fun _ h9 => h9) rfl dX10_put_22 ?_
  refine lv_iload_n hx hb dX10_put_25 rfl (lv_at hl 2 rfl) ?_
  refine lv_iload_n hx hb dX10_put_26 rfl (lv_at hl 0 rfl) ?_
  refine lv_ishr hx hb dX10_put_27 ?_
  refine lv_topi (fun x_13 ex_13 => ?_)
  refine lv_i2b hx hb dX10_put_28 rfl ?_
  refine lv_topi (fun x_14 ex_14 => ?_)
  refine va_bast hx hb hK hP hD hS 1 1 rfl rfl (vp_in_iff.mpr (by decide)) dX10_put_29 (fun H locs hP hD hS => ?_)
  obtain ⟨f_15, ef_15⟩ : ∃ z9 : Nat → Int32, z9 = upd f_10 (14 : Int32).toNatClampNeg (vp_nar .byte x_14) := ⟨_, rfl⟩
  rw [← ef_15] at hP hD
  have hP : va_P (dC, dI) vwCl [(h0, .inr (9, [.ref b0, .int 14, .int 0, .int (-1), .int 0, .int 0, .int 0, .int 0, .int 0, .int 0])), (b0, .inl (cyB, 800, .inl f_15))] H := hP
  have hD : va_D A [(h0, .inr (9, [.ref b0, .int 14, .int 0, .int (-1), .int 0, .int 0, .int 0, .int 0, .int 0, .int 0])), (b0, .inl (cyB, 800, .inl f_15))] := hD
  refine lv_aload_n hx hb dX10_put_30 rfl (lv_at hl 1 rfl) ?_
  refine lv_dup hx hb dX10_put_31 rfl ?_
  refine va_get (D := (dC, dI)) (ci := 9) (v := .int 14) (C := RX10) (T := TX10) (N := 10) hx hb hts uinX10 hown hK hP 0 rfl rfl 1 (by decide) (hts _ wd_1_37) (fun _ h9 => h9) rfl dX10_put_32 ?_
  refine lv_iconst (v := 1) hx hb dX10_put_35 (by decide) ?_
  refine lv_iadd hx hb dX10_put_36 ?_
  refine cv_topi (b := 15) (by decide) ?_
  refine va_put (D := (dC, dI)) (ci := 9) (v := .int 15) (ty := .int) (C := RX10) (T := TX10) (N := 10) hx hb hts uinX10 tyX10 tyX10_ok nmX10 hown hK hP hD hS 0 rfl rfl 1 (by decide) (hts _ wd_1_37) (fun _ h9 => h9) rfl (by decide +kernel) rfl rfl (Nat.le_of_ble_eq_true rfl) dX10_put_37 (fun H locs hP hD hS => ?_)
  have hP : va_P (dC, dI) vwCl [(h0, .inr (9, [.ref b0, .int 15, .int 0, .int (-1), .int 0, .int 0, .int 0, .int 0, .int 0, .int 0])), (b0, .inl (cyB, 800, .inl f_15))] H := hP
  have hD : va_D A [(h0, .inr (9, [.ref b0, .int 15, .int 0, .int (-1), .int 0, .int 0, .int 0, .int 0, .int 0, .int 0])), (b0, .inl (cyB, 800, .inl f_15))] := hD
  refine lv_iinc (v := 0) (lv' := [(2, .int 0), (0, .ref h0), (1, .int p0)]) hx hb dX10_put_40 hl (k := 0) rfl (by decide) (by decide) rfl (fun ls hl => ?_)
  refine lv_goto (tgt := 3) hx hb dX10_put_43 (by decide) ?_
  refine lv_iload_n hx hb dX10_put_3 rfl (lv_at hl 0 rfl) ?_
  refine lv_if_lt (tgt := 46) hx hb dX10_put_4 (by decide) (fun c_16 => absurd c_16 (by decide)) (fun _ => ?_)
  refine lv_aload_n hx hb dX10_put_7 rfl (lv_at hl 1 rfl) ?_
  refine va_get (D := (dC, dI)) (ci := 9) (v := .int 15) (C := RX10) (T := TX10) (N := 10) hx hb hts uinX10 hown hK hP 0 rfl rfl 1 (by decide) (hts _ wd_1_37) (fun _ h9 => h9) rfl dX10_put_8 ?_
  refine lv_sipush (v := 800) hx hb dX10_put_11 (by decide) ?_
  refine lv_icmp_ge (tgt := 46) hx hb dX10_put_14 (by decide) (fun c_17 => absurd c_17 (by decide)) (fun _ => ?_)
  refine lv_aload_n hx hb dX10_put_17 rfl (lv_at hl 1 rfl) ?_
  refine va_get (D := (dC, dI)) (ci := 9) (v := .ref b0) (C := RX10) (T := TX10) (N := 10) hx hb hts uinX10 hown hK hP 0 rfl rfl 0 (by decide) (hts _ wd_1_36) (fun _ h9 => h9) rfl dX10_put_18 ?_
  refine lv_aload_n hx hb dX10_put_21 rfl (lv_at hl 1 rfl) ?_
  refine va_get (D := (dC, dI)) (ci := 9) (v := .int 15) (C := RX10) (T := TX10) (N := 10) hx hb hts uinX10 hown hK hP 0 rfl rfl 1 (by decide) (hts _ wd_1_37) (fun _ h9 => h9) rfl dX10_put_22 ?_
  refine lv_iload_n hx hb dX10_put_25 rfl (lv_at hl 2 rfl) ?_
  refine lv_iload_n hx hb dX10_put_26 rfl (lv_at hl 0 rfl) ?_
  refine lv_ishr hx hb dX10_put_27 ?_
  refine lv_topi (fun x_18 ex_18 => ?_)
  refine lv_i2b hx hb dX10_put_28 rfl ?_
  refine lv_topi (fun x_19 ex_19 => ?_)
  refine va_bast hx hb hK hP hD hS 1 1 rfl rfl (vp_in_iff.mpr (by decide)) dX10_put_29 (fun H locs hP hD hS => ?_)
  obtain ⟨f_20, ef_20⟩ : ∃ z9 : Nat → Int32, z9 = upd f_15 (15 : Int32).toNatClampNeg (vp_nar .byte x_19) := ⟨_, rfl⟩
  rw [← ef_20] at hP hD
  have hP : va_P (dC, dI) vwCl [(h0, .inr (9, [.ref b0, .int 15, .int 0, .int (-1), .int 0, .int 0, .int 0, .int 0, .int 0, .int 0])), (b0, .inl (cyB, 800, .inl f_20))] H := hP
  have hD : va_D A [(h0, .inr (9, [.ref b0, .int 15, .int 0, .int (-1), .int 0, .int 0, .int 0, .int 0, .int 0, .int 0])), (b0, .inl (cyB, 800, .inl f_20))] := hD
  refine lv_aload_n hx hb dX10_put_30 rfl (lv_at hl 1 rfl) ?_
  refine lv_dup hx hb dX10_put_31 rfl ?_
  refine va_get (D := (dC, dI)) (ci := 9) (v := .int 15) (C := RX10) (T := TX10) (N := 10) hx hb hts uinX10 hown hK hP 0 rfl rfl 1 (by decide) (hts _ wd_1_37) (fun _ h9 => h9) rfl dX10_put_32 ?_
  refine lv_iconst (v := 1) hx hb dX10_put_35 (by decide) ?_
  refine lv_iadd hx hb dX10_put_36 ?_
  refine cv_topi (b := 16) (by decide) ?_
  refine va_put (D := (dC, dI)) (ci := 9) (v := .int 16) (ty := .int) (C := RX10) (T := TX10) (N := 10) hx hb hts uinX10 tyX10 tyX10_ok nmX10 hown hK hP hD hS 0 rfl rfl 1 (by decide) (hts _ wd_1_37) (fun _ h9 => h9) rfl (by decide +kernel) rfl rfl (Nat.le_of_ble_eq_true rfl) dX10_put_37 (fun H locs hP hD hS => ?_)
  have hP : va_P (dC, dI) vwCl [(h0, .inr (9, [.ref b0, .int 16, .int 0, .int (-1), .int 0, .int 0, .int 0, .int 0, .int 0, .int 0])), (b0, .inl (cyB, 800, .inl f_20))] H := hP
  have hD : va_D A [(h0, .inr (9, [.ref b0, .int 16, .int 0, .int (-1), .int 0, .int 0, .int 0, .int 0, .int 0, .int 0])), (b0, .inl (cyB, 800, .inl f_20))] := hD
  refine lv_iinc (v := (-8)) (lv' := [(2, .int (-8)), (0, .ref h0), (1, .int p0)]) hx hb dX10_put_40 hl (k := 0) rfl (by decide) (by decide) rfl (fun ls hl => ?_)
  refine lv_goto (tgt := 3) hx hb dX10_put_43 (by decide) ?_
  refine lv_iload_n hx hb dX10_put_3 rfl (lv_at hl 0 rfl) ?_
  refine lv_if_lt (tgt := 46) hx hb dX10_put_4 (by decide) (fun _ => ?_) (fun c_21 => absurd c_21 (by decide))
  have hP9 := hP.sub (ws' := [(h0, .inr (9, [.ref b0, .int 16, .int 0, .int (-1), .int 0, .int 0, .int 0, .int 0, .int 0, .int 0])), (b0, .inl (cyB, 800, .inl f_20))]) [0, 1] rfl
  have hD9 := hD.sub (ws' := [(h0, .inr (9, [.ref b0, .int 16, .int 0, .int (-1), .int 0, .int 0, .int 0, .int 0, .int 0, .int 0])), (b0, .inl (cyB, 800, .inl f_20))]) [0, 1] (by decide) rfl
  exact W.vret hx hb hr (fun t ht hW => ⟨⟨(), rfl, trivial, ⟨f_20, by rw [ht]; exact hP9, hD9⟩⟩, hS.F ht⟩) hS.2.2 dX10_put_46

/- X10_put -/
set_option maxHeartbeats 4000000 in
set_option maxRecDepth 100000 in
theorem c_put16 (l : Launch) (dC : Nat → ClassId) (dI : Nat → Nat → Nat) (cyI cyB cyJ cyZ cyH cyN : ClassId) (sz : Nat) (h0 b0 : Nat) (f : Nat → Int32) (p0 : Int32) : Met l yX10_put (wk yX10_put cX10_put 3 none) ({ frames := 1, cells := 0, slots := 0, locals := 60 }) (va_Pc [.ref h0, .int p0] (fun U => U.heap.size = sz ∧ va_P (dC, dI) vwCl [(h0, .inr (9, [.ref b0, .int 16, .int 0, .int (-1), .int 0, .int 0, .int 0, .int 0, .int 0, .int 0])), (b0, .inl (cyB, 800, .inl f))] U.heap ∧ va_K (dC, dI) vwCl [(cyI, .int), (cyB, .byte), (cyJ, .long), (cyZ, .boolean), (cyH, .object RX2), (cyN, .array .long)] U ∧ va_D (fun _ => True) [(h0, .inr (9, [.ref b0, .int 16, .int 0, .int (-1), .int 0, .int 0, .int 0, .int 0, .int 0, .int 0])), (b0, .inl (cyB, 800, .inl f))])) (va_Qv (fun _ : Unit => True) (fun (_ : Unit) (t : State) => ∃ g : Nat → Int32, va_P (dC, dI) vwCl [(h0, .inr (9, [.ref b0, .int 20, .int 0, .int (-1), .int 0, .int 0, .int 0, .int 0, .int 0, .int 0])), (b0, .inl (cyB, 800, .inl g))] t.heap ∧ va_D (va_A [(h0, .inr (9, [.ref b0, .int 16, .int 0, .int (-1), .int 0, .int 0, .int 0, .int 0, .int 0, .int 0])), (b0, .inl (cyB, 800, .inl f))] sz) [(h0, .inr (9, [.ref b0, .int 20, .int 0, .int (-1), .int 0, .int 0, .int 0, .int 0, .int 0, .int 0])), (b0, .inl (cyB, 800, .inl g))]) (va_A [(h0, .inr (9, [.ref b0, .int 16, .int 0, .int (-1), .int 0, .int 0, .int 0, .int 0, .int 0, .int 0])), (b0, .inl (cyB, 800, .inl f))] sz)) 0 0 (va_A [(h0, .inr (9, [.ref b0, .int 16, .int 0, .int (-1), .int 0, .int 0, .int 0, .int 0, .int 0, .int 0])), (b0, .inl (cyB, 800, .inl f))] sz) := by
  refine Met.ofW (cc := cX10_put) (maxL := 3) (ret := none) (by decide) rfl ?_
  intro p e s m args below meth c s₁ B hml hv
  obtain ⟨rfl, hsz, hP, hK, hD0⟩ := hv
  have hx := B.exec
  have hb := B.bytes
  have hr := B.returns
  have hts : ∀ w ∈ uU, w.before ([.ref h0, .int p0] : List Value).toArray s = true := fun w h => atoms_spec (ws := wk yX10_put cX10_put 3 none) B.pre w (List.mem_cons_of_mem _ h)
  have hown : s.vm.findClass RX10 = some m.cls := findClass_of_methodNamed B.named
  have hlocks := B.notSynchronized
  subst hsz
  have hD := hD0.self (sz := s.heap.size)
  generalize hAe : va_A [(h0, .inr (9, [.ref b0, .int 16, .int 0, .int (-1), .int 0, .int 0, .int 0, .int 0, .int 0, .int 0])), (b0, .inl (cyB, 800, .inl f))] s.heap.size = A at hD ⊢
  have hA : ∀ q : Nat, s.heap.size ≤ q → A q := fun q h => by rw [← hAe]; exact Or.inr h
  have hS : va_S A s.heap s.heap [] := va_S.rf
  have hP : va_P (dC, dI) vwCl [(h0, .inr (9, [.ref b0, .int 16, .int 0, .int (-1), .int 0, .int 0, .int 0, .int 0, .int 0, .int 0])), (b0, .inl (cyB, 800, .inl f))] s.heap := hP
  have hl := lv_entry ([.ref h0, .int p0]) (n := 3) (Nat.le_of_ble_eq_true rfl)
  rw [lg_entry_eq]
  generalize (lg_sl ([.ref h0, .int p0]) ++ List.replicate (3 - (lg_sl ([.ref h0, .int p0])).length) Slot.unset).toArray = ls at hl ⊢
  have hl : lv_has ls 3 [(0, .ref h0), (1, .int p0)] := hl
  obtain ⟨H, hHe⟩ : ∃ H, H = s.heap := ⟨_, rfl⟩
  have hP : va_P (dC, dI) vwCl [(h0, .inr (9, [.ref b0, .int 16, .int 0, .int (-1), .int 0, .int 0, .int 0, .int 0, .int 0, .int 0])), (b0, .inl (cyB, 800, .inl f))] H := by rw [hHe]; exact hP
  have hS : va_S A s.heap H [] := by rw [hHe]; exact hS
  refine cv_heap hHe ?_
  refine lv_bipush (v := 24) hx hb dX10_put_0 (by decide) ?_
  refine lv_istore_n (lv' := [(2, .int 24), (0, .ref h0), (1, .int p0)]) hx hb dX10_put_2 rfl hl (by decide) rfl (fun ls hl => ?_)
  refine lv_iload_n hx hb dX10_put_3 rfl (lv_at hl 0 rfl) ?_
  refine lv_if_lt (tgt := 46) hx hb dX10_put_4 (by decide) (fun c_1 => absurd c_1 (by decide)) (fun _ => ?_)
  refine lv_aload_n hx hb dX10_put_7 rfl (lv_at hl 1 rfl) ?_
  refine va_get (D := (dC, dI)) (ci := 9) (v := .int 16) (C := RX10) (T := TX10) (N := 10) hx hb hts uinX10 hown hK hP 0 rfl rfl 1 (by decide) (hts _ wd_1_37) (fun _ h9 => h9) rfl dX10_put_8 ?_
  refine lv_sipush (v := 800) hx hb dX10_put_11 (by decide) ?_
  refine lv_icmp_ge (tgt := 46) hx hb dX10_put_14 (by decide) (fun c_2 => absurd c_2 (by decide)) (fun _ => ?_)
  refine lv_aload_n hx hb dX10_put_17 rfl (lv_at hl 1 rfl) ?_
  refine va_get (D := (dC, dI)) (ci := 9) (v := .ref b0) (C := RX10) (T := TX10) (N := 10) hx hb hts uinX10 hown hK hP 0 rfl rfl 0 (by decide) (hts _ wd_1_36) (fun _ h9 => h9) rfl dX10_put_18 ?_
  refine lv_aload_n hx hb dX10_put_21 rfl (lv_at hl 1 rfl) ?_
  refine va_get (D := (dC, dI)) (ci := 9) (v := .int 16) (C := RX10) (T := TX10) (N := 10) hx hb hts uinX10 hown hK hP 0 rfl rfl 1 (by decide) (hts _ wd_1_37) (fun _ h9 => h9) rfl dX10_put_22 ?_
  refine lv_iload_n hx hb dX10_put_25 rfl (lv_at hl 2 rfl) ?_
  refine lv_iload_n hx hb dX10_put_26 rfl (lv_at hl 0 rfl) ?_
  refine lv_ishr hx hb dX10_put_27 ?_
  refine lv_topi (fun x_3 ex_3 => ?_)
  refine lv_i2b hx hb dX10_put_28 rfl ?_
  refine lv_topi (fun x_4 ex_4 => ?_)
  refine va_bast hx hb hK hP hD hS 1 1 rfl rfl (vp_in_iff.mpr (by decide)) dX10_put_29 (fun H locs hP hD hS => ?_)
  obtain ⟨f_5, ef_5⟩ : ∃ z9 : Nat → Int32, z9 = upd f (16 : Int32).toNatClampNeg (vp_nar .byte x_4) := ⟨_, rfl⟩
  rw [← ef_5] at hP hD
  have hP : va_P (dC, dI) vwCl [(h0, .inr (9, [.ref b0, .int 16, .int 0, .int (-1), .int 0, .int 0, .int 0, .int 0, .int 0, .int 0])), (b0, .inl (cyB, 800, .inl f_5))] H := hP
  have hD : va_D A [(h0, .inr (9, [.ref b0, .int 16, .int 0, .int (-1), .int 0, .int 0, .int 0, .int 0, .int 0, .int 0])), (b0, .inl (cyB, 800, .inl f_5))] := hD
  refine lv_aload_n hx hb dX10_put_30 rfl (lv_at hl 1 rfl) ?_
  refine lv_dup hx hb dX10_put_31 rfl ?_
  refine va_get (D := (dC, dI)) (ci := 9) (v := .int 16) (C := RX10) (T := TX10) (N := 10) hx hb hts uinX10 hown hK hP 0 rfl rfl 1 (by decide) (hts _ wd_1_37) (fun _ h9 => h9) rfl dX10_put_32 ?_
  refine lv_iconst (v := 1) hx hb dX10_put_35 (by decide) ?_
  refine lv_iadd hx hb dX10_put_36 ?_
  refine cv_topi (b := 17) (by decide) ?_
  refine va_put (D := (dC, dI)) (ci := 9) (v := .int 17) (ty := .int) (C := RX10) (T := TX10) (N := 10) hx hb hts uinX10 tyX10 tyX10_ok nmX10 hown hK hP hD hS 0 rfl rfl 1 (by decide) (hts _ wd_1_37) (fun _ h9 => h9) rfl (by decide +kernel) rfl rfl (Nat.le_of_ble_eq_true rfl) dX10_put_37 (fun H locs hP hD hS => ?_)
  have hP : va_P (dC, dI) vwCl [(h0, .inr (9, [.ref b0, .int 17, .int 0, .int (-1), .int 0, .int 0, .int 0, .int 0, .int 0, .int 0])), (b0, .inl (cyB, 800, .inl f_5))] H := hP
  have hD : va_D A [(h0, .inr (9, [.ref b0, .int 17, .int 0, .int (-1), .int 0, .int 0, .int 0, .int 0, .int 0, .int 0])), (b0, .inl (cyB, 800, .inl f_5))] := hD
  refine lv_iinc (v := 16) (lv' := [(2, .int 16), (0, .ref h0), (1, .int p0)]) hx hb dX10_put_40 hl (k := 0) rfl (by decide) (by decide) rfl (fun ls hl => ?_)
  refine lv_goto (tgt := 3) hx hb dX10_put_43 (by decide) ?_
  refine lv_iload_n hx hb dX10_put_3 rfl (lv_at hl 0 rfl) ?_
  refine lv_if_lt (tgt := 46) hx hb dX10_put_4 (by decide) (fun c_6 => absurd c_6 (by decide)) (fun _ => ?_)
  refine lv_aload_n hx hb dX10_put_7 rfl (lv_at hl 1 rfl) ?_
  refine va_get (D := (dC, dI)) (ci := 9) (v := .int 17) (C := RX10) (T := TX10) (N := 10) hx hb hts uinX10 hown hK hP 0 rfl rfl 1 (by decide) (hts _ wd_1_37) (fun _ h9 => h9) rfl dX10_put_8 ?_
  refine lv_sipush (v := 800) hx hb dX10_put_11 (by decide) ?_
  refine lv_icmp_ge (tgt := 46) hx hb dX10_put_14 (by decide) (fun c_7 => absurd c_7 (by decide)) (fun _ => ?_)
  refine lv_aload_n hx hb dX10_put_17 rfl (lv_at hl 1 rfl) ?_
  refine va_get (D := (dC, dI)) (ci := 9) (v := .ref b0) (C := RX10) (T := TX10) (N := 10) hx hb hts uinX10 hown hK hP 0 rfl rfl 0 (by decide) (hts _ wd_1_36) (fun _ h9 => h9) rfl dX10_put_18 ?_
  refine lv_aload_n hx hb dX10_put_21 rfl (lv_at hl 1 rfl) ?_
  refine va_get (D := (dC, dI)) (ci := 9) (v := .int 17) (C := RX10) (T := TX10) (N := 10) hx hb hts uinX10 hown hK hP 0 rfl rfl 1 (by decide) (hts _ wd_1_37) (fun _ h9 => h9) rfl dX10_put_22 ?_
  refine lv_iload_n hx hb dX10_put_25 rfl (lv_at hl 2 rfl) ?_
  refine lv_iload_n hx hb dX10_put_26 rfl (lv_at hl 0 rfl) ?_
  refine lv_ishr hx hb dX10_put_27 ?_
  refine lv_topi (fun x_8 ex_8 => ?_)
  refine lv_i2b hx hb dX10_put_28 rfl ?_
  refine lv_topi (fun x_9 ex_9 => ?_)
  refine va_bast hx hb hK hP hD hS 1 1 rfl rfl (vp_in_iff.mpr (by decide)) dX10_put_29 (fun H locs hP hD hS => ?_)
  obtain ⟨f_10, ef_10⟩ : ∃ z9 : Nat → Int32, z9 = upd f_5 (17 : Int32).toNatClampNeg (vp_nar .byte x_9) := ⟨_, rfl⟩
  rw [← ef_10] at hP hD
  have hP : va_P (dC, dI) vwCl [(h0, .inr (9, [.ref b0, .int 17, .int 0, .int (-1), .int 0, .int 0, .int 0, .int 0, .int 0, .int 0])), (b0, .inl (cyB, 800, .inl f_10))] H := hP
  have hD : va_D A [(h0, .inr (9, [.ref b0, .int 17, .int 0, .int (-1), .int 0, .int 0, .int 0, .int 0, .int 0, .int 0])), (b0, .inl (cyB, 800, .inl f_10))] := hD
  refine lv_aload_n hx hb dX10_put_30 rfl (lv_at hl 1 rfl) ?_
  refine lv_dup hx hb dX10_put_31 rfl ?_
  refine va_get (D := (dC, dI)) (ci := 9) (v := .int 17) (C := RX10) (T := TX10) (N := 10) hx hb hts uinX10 hown hK hP 0 rfl rfl 1 (by decide) (hts _ wd_1_37) (fun _ h9 => h9) rfl dX10_put_32 ?_
  refine lv_iconst (v := 1) hx hb dX10_put_35 (by decide) ?_
  refine lv_iadd hx hb dX10_put_36 ?_
  refine cv_topi (b := 18) (by decide) ?_
  refine va_put (D := (dC, dI)) (ci := 9) (v := .int 18) (ty := .int) (C := RX10) (T := TX10) (N := 10) hx hb hts uinX10 tyX10 tyX10_ok nmX10 hown hK hP hD hS 0 rfl rfl 1 (by decide) (hts _ wd_1_37) (fun _ h9 => h9) rfl (by decide +kernel) rfl rfl (Nat.le_of_ble_eq_true rfl) dX10_put_37 (fun H locs hP hD hS => ?_)
  have hP : va_P (dC, dI) vwCl [(h0, .inr (9, [.ref b0, .int 18, .int 0, .int (-1), .int 0, .int 0, .int 0, .int 0, .int 0, .int 0])), (b0, .inl (cyB, 800, .inl f_10))] H := hP
  have hD : va_D A [(h0, .inr (9, [.ref b0, .int 18, .int 0, .int (-1), .int 0, .int 0, .int 0, .int 0, .int 0, .int 0])), (b0, .inl (cyB, 800, .inl f_10))] := hD
  refine lv_iinc (v := 8) (lv' := [(2, .int 8), (0, .ref h0), (1, .int p0)]) hx hb dX10_put_40 hl (k := 0) rfl (by decide) (by decide) rfl (fun ls hl => ?_)
  refine lv_goto (tgt := 3) hx hb dX10_put_43 (by decide) ?_
  refine lv_iload_n hx hb dX10_put_3 rfl (lv_at hl 0 rfl) ?_
  refine lv_if_lt (tgt := 46) hx hb dX10_put_4 (by decide) (fun c_11 => absurd c_11 (by decide)) (fun _ => ?_)
  refine lv_aload_n hx hb dX10_put_7 rfl (lv_at hl 1 rfl) ?_
  refine va_get (D := (dC, dI)) (ci := 9) (v := .int 18) (C := RX10) (T := TX10) (N := 10) hx hb hts uinX10 hown hK hP 0 rfl rfl 1 (by decide) (hts _ wd_1_37) (fun _ h9 => h9) rfl dX10_put_8 ?_
  refine lv_sipush (v := 800) hx hb dX10_put_11 (by decide) ?_
  refine lv_icmp_ge (tgt := 46) hx hb dX10_put_14 (by decide) (fun c_12 => absurd c_12 (by decide)) (fun _ => ?_)
  refine lv_aload_n hx hb dX10_put_17 rfl (lv_at hl 1 rfl) ?_
  refine va_get (D := (dC, dI)) (ci := 9) (v := .ref b0) (C := RX10) (T := TX10) (N := 10) hx hb hts uinX10 hown hK hP 0 rfl rfl 0 (by decide) (hts _ wd_1_36) (fun _ h9 => h9) rfl dX10_put_18 ?_
  refine lv_aload_n hx hb dX10_put_21 rfl (lv_at hl 1 rfl) ?_
  refine va_get (D := (dC, dI)) (ci := 9) (v := .int 18) (C := RX10) (T := TX10) (N := 10) hx hb hts uinX10 hown hK hP 0 rfl rfl 1 (by decide) (hts _ wd_1_37) (fun _ h9 => h9) rfl dX10_put_22 ?_
  refine lv_iload_n hx hb dX10_put_25 rfl (lv_at hl 2 rfl) ?_
  refine lv_iload_n hx hb dX10_put_26 rfl (lv_at hl 0 rfl) ?_
  refine lv_ishr hx hb dX10_put_27 ?_
  refine lv_topi (fun x_13 ex_13 => ?_)
  refine lv_i2b hx hb dX10_put_28 rfl ?_
  refine lv_topi (fun x_14 ex_14 => ?_)
  refine va_bast hx hb hK hP hD hS 1 1 rfl rfl (vp_in_iff.mpr (by decide)) dX10_put_29 (fun H locs hP hD hS => ?_)
  obtain ⟨f_15, ef_15⟩ : ∃ z9 : Nat → Int32, z9 = upd f_10 (18 : Int32).toNatClampNeg (vp_nar .byte x_14) := ⟨_, rfl⟩
  rw [← ef_15] at hP hD
  have hP : va_P (dC, dI) vwCl [(h0, .inr (9, [.ref b0, .int 18, .int 0, .int (-1), .int 0, .int 0, .int 0, .int 0, .int 0, .int 0])), (b0, .inl (cyB, 800, .inl f_15))] H := hP
  have hD : va_D A [(h0, .inr (9, [.ref b0, .int 18, .int 0, .int (-1), .int 0, .int 0, .int 0, .int 0, .int 0, .int 0])), (b0, .inl (cyB, 800, .inl f_15))] := hD
  refine lv_aload_n hx hb dX10_put_30 rfl (lv_at hl 1 rfl) ?_
  refine lv_dup hx hb dX10_put_31 rfl ?_
  refine va_get (D := (dC, dI)) (ci := 9) (v := .int 18) (C := RX10) (T := TX10) (N := 10) hx hb hts uinX10 hown hK hP 0 rfl rfl 1 (by decide) (hts _ wd_1_37) (fun _ h9 => h9) rfl dX10_put_32 ?_
  refine lv_iconst (v := 1) hx hb dX10_put_35 (by decide) ?_
  refine lv_iadd hx hb dX10_put_36 ?_
  refine cv_topi (b := 19) (by decide) ?_
  refine va_put (D := (dC, dI)) (ci := 9) (v := .int 19) (ty := .int) (C := RX10) (T := TX10) (N := 10) hx hb hts uinX10 tyX10 tyX10_ok nmX10 hown hK hP hD hS 0 rfl rfl 1 (by decide) (hts _ wd_1_37) (fun _ h9 => h9) rfl (by decide +kernel) rfl rfl (Nat.le_of_ble_eq_true rfl) dX10_put_37 (fun H locs hP hD hS => ?_)
  have hP : va_P (dC, dI) vwCl [(h0, .inr (9, [.ref b0, .int 19, .int 0, .int (-1), .int 0, .int 0, .int 0, .int 0, .int 0, .int 0])), (b0, .inl (cyB, 800, .inl f_15))] H := hP
  have hD : va_D A [(h0, .inr (9, [.ref b0, .int 19, .int 0, .int (-1), .int 0, .int 0, .int 0, .int 0, .int 0, .int 0])), (b0, .inl (cyB, 800, .inl f_15))] := hD
  refine lv_iinc (v := 0) (lv' := [(2, .int 0), (0, .ref h0), (1, .int p0)]) hx hb dX10_put_40 hl (k := 0) rfl (by decide) (by decide) rfl (fun ls hl => ?_)
  refine lv_goto (tgt := 3) hx hb dX10_put_43 (by decide) ?_
  refine lv_iload_n hx hb dX10_put_3 rfl (lv_at hl 0 rfl) ?_
  refine lv_if_lt (tgt := 46) hx hb dX10_put_4 (by decide) (fun c_16 => absurd c_16 (by decide)) (fun _ => ?_)
  refine lv_aload_n hx hb dX10_put_7 rfl (lv_at hl 1 rfl) ?_
  refine va_get (D := (dC, dI)) (ci := 9) (v := .int 19) (C := RX10) (T := TX10) (N := 10) hx hb hts uinX10 hown hK hP 0 rfl rfl 1 (by decide) (hts _ wd_1_37) (fun _ h9 => h9) rfl dX10_put_8 ?_
  refine lv_sipush (v := 800) hx hb dX10_put_11 (by decide) ?_
  refine lv_icmp_ge (tgt := 46) hx hb dX10_put_14 (by decide) (fun c_17 => absurd c_17 (by decide)) (fun _ => ?_)
  refine lv_aload_n hx hb dX10_put_17 rfl (lv_at hl 1 rfl) ?_
  refine va_get (D := (dC, dI)) (ci := 9) (v := .ref b0) (C := RX10) (T := TX10) (N := 10) hx hb hts uinX10 hown hK hP 0 rfl rfl 0 (by decide) (hts _ wd_1_36) (fun _ h9 => h9) rfl dX10_put_18 ?_
  refine lv_aload_n hx hb dX10_put_21 rfl (lv_at hl 1 rfl) ?_
  refine va_get (D := (dC, dI)) (ci := 9) (v := .int 19) (C := RX10) (T := TX10) (N := 10) hx hb hts uinX10 hown hK hP 0 rfl rfl 1 (by decide) (hts _ wd_1_37) (fun _ h9 => h9) rfl dX10_put_22 ?_
  refine lv_iload_n hx hb dX10_put_25 rfl (lv_at hl 2 rfl) ?_
  refine lv_iload_n hx hb dX10_put_26 rfl (lv_at hl 0 rfl) ?_
  refine lv_ishr hx hb dX10_put_27 ?_
  refine lv_topi (fun x_18 ex_18 => ?_)
  refine lv_i2b hx hb dX10_put_28 rfl ?_
  refine lv_topi (fun x_19 ex_19 => ?_)
  refine va_bast hx hb hK hP hD hS 1 1 rfl rfl (vp_in_iff.mpr (by decide)) dX10_put_29 (fun H locs hP hD hS => ?_)
  obtain ⟨f_20, ef_20⟩ : ∃ z9 : Nat → Int32, z9 = upd f_15 (19 : Int32).toNatClampNeg (vp_nar .byte x_19) := ⟨_, rfl⟩
  rw [← ef_20] at hP hD
  have hP : va_P (dC, dI) vwCl [(h0, .inr (9, [.ref b0, .int 19, .int 0, .int (-1), .int 0, .int 0, .int 0, .int 0, .int 0, .int 0])), (b0, .inl (cyB, 800, .inl f_20))] H := hP
  have hD : va_D A [(h0, .inr (9, [.ref b0, .int 19, .int 0, .int (-1), .int 0, .int 0, .int 0, .int 0, .int 0, .int 0])), (b0, .inl (cyB, 800, .inl f_20))] := hD
  refine lv_aload_n hx hb dX10_put_30 rfl (lv_at hl 1 rfl) ?_
  refine lv_dup hx hb dX10_put_31 rfl ?_
  refine va_get (D := (dC, dI)) (ci := 9) (v := .int 19) (C := RX10) (T := TX10) (N := 10) hx hb hts uinX10 hown hK hP 0 rfl rfl 1 (by decide) (hts _ wd_1_37) (fun _ h9 => h9) rfl dX10_put_32 ?_
  refine lv_iconst (v := 1) hx hb dX10_put_35 (by decide) ?_
  refine lv_iadd hx hb dX10_put_36 ?_
  refine cv_topi (b := 20) (by decide) ?_
  refine va_put (D := (dC, dI)) (ci := 9) (v := .int 20) (ty := .int) (C := RX10) (T := TX10) (N := 10) hx hb hts uinX10 tyX10 tyX10_ok nmX10 hown hK hP hD hS 0 rfl rfl 1 (by decide) (hts _ wd_1_37) (fun _ h9 => h9) rfl (by decide +kernel) rfl rfl (Nat.le_of_ble_eq_true rfl) dX10_put_37 (fun H locs hP hD hS => ?_)
  have hP : va_P (dC, dI) vwCl [(h0, .inr (9, [.ref b0, .int 20, .int 0, .int (-1), .int 0, .int 0, .int 0, .int 0, .int 0, .int 0])), (b0, .inl (cyB, 800, .inl f_20))] H := hP
  have hD : va_D A [(h0, .inr (9, [.ref b0, .int 20, .int 0, .int (-1), .int 0, .int 0, .int 0, .int 0, .int 0, .int 0])), (b0, .inl (cyB, 800, .inl f_20))] := hD
  refine lv_iinc (v := (-8)) (lv' := [(2, .int (-8)), (0, .ref h0), (1, .int p0)]) hx hb dX10_put_40 hl (k := 0) rfl (by decide) (by decide) rfl (fun ls hl => ?_)
  refine lv_goto (tgt := 3) hx hb dX10_put_43 (by decide) ?_
  refine lv_iload_n hx hb dX10_put_3 rfl (lv_at hl 0 rfl) ?_
  refine lv_if_lt (tgt := 46) hx hb dX10_put_4 (by decide) (fun _ => ?_) (fun c_21 => absurd c_21 (by decide))
  have hP9 := hP.sub (ws' := [(h0, .inr (9, [.ref b0, .int 20, .int 0, .int (-1), .int 0, .int 0, .int 0, .int 0, .int 0, .int 0])), (b0, .inl (cyB, 800, .inl f_20))]) [0, 1] rfl
  have hD9 := hD.sub (ws' := [(h0, .inr (9, [.ref b0, .int 20, .int 0, .int (-1), .int 0, .int 0, .int 0, .int 0, .int 0, .int 0])), (b0, .inl (cyB, 800, .inl f_20))]) [0, 1] (by decide) rfl
  exact W.vret hx hb hr (fun t ht hW => ⟨⟨(), rfl, trivial, ⟨f_20, by rw [ht]; exact hP9, hD9⟩⟩, hS.F ht⟩) hS.2.2 dX10_put_46

/- X11_feed -/
set_option maxHeartbeats 4000000 in
set_option maxRecDepth 100000 in
theorem c_feed (l : Launch) (dC : Nat → ClassId) (dI : Nat → Nat → Nat) (cyI cyB cyJ cyZ cyH cyN : ClassId) (sz : Nat) (x xTape xHall xDraft xImages xKept xSlots xCourse xSight xParting xSuiting xGame xLots xTold xTried tBytes : Nat) (p0 p1 p2 p3 p4 : Int32) : Met l yX11_feed (wk yX11_feed cX11_feed 6 (some .int)) ({ frames := 2, cells := 0, slots := 0, locals := 82 }) (va_Pc [.ref x, .int p0, .int p1, .int p2, .int p3, .int p4] (fun U => U.heap.size = sz ∧ va_P (dC, dI) vwCl [(x, .inr (10, [.ref xTape, .ref xHall, .ref xDraft, .ref xImages, .ref xKept, .ref xSlots, .ref xCourse, .ref xSight, .ref xParting, .ref xSuiting, .ref xGame, .ref xLots, .ref xTold, .ref xTried, .null])), (xTape, .inr (9, [.ref tBytes, .int 0, .int 0, .int (-1), .int 0, .int 0, .int 0, .int 0, .int 0, .int 0])), (tBytes, .inl (cyB, 800, .inl (fun _ => 0)))] U.heap ∧ va_K (dC, dI) vwCl [(cyI, .int), (cyB, .byte), (cyJ, .long), (cyZ, .boolean), (cyH, .object RX2), (cyN, .array .long)] U ∧ va_D (fun _ => True) [(x, .inr (10, [.ref xTape, .ref xHall, .ref xDraft, .ref xImages, .ref xKept, .ref xSlots, .ref xCourse, .ref xSight, .ref xParting, .ref xSuiting, .ref xGame, .ref xLots, .ref xTold, .ref xTried, .null])), (xTape, .inr (9, [.ref tBytes, .int 0, .int 0, .int (-1), .int 0, .int 0, .int 0, .int 0, .int 0, .int 0])), (tBytes, .inl (cyB, 800, .inl (fun _ => 0)))])) (va_Qi (fun (r : Int32) (_ : Unit) => r = 20) (fun (_ : Unit) (_ : State) => True) (va_A [(x, .inr (10, [.ref xTape, .ref xHall, .ref xDraft, .ref xImages, .ref xKept, .ref xSlots, .ref xCourse, .ref xSight, .ref xParting, .ref xSuiting, .ref xGame, .ref xLots, .ref xTold, .ref xTried, .null])), (xTape, .inr (9, [.ref tBytes, .int 0, .int 0, .int (-1), .int 0, .int 0, .int 0, .int 0, .int 0, .int 0])), (tBytes, .inl (cyB, 800, .inl (fun _ => 0)))] sz)) 0 0 (va_A [(x, .inr (10, [.ref xTape, .ref xHall, .ref xDraft, .ref xImages, .ref xKept, .ref xSlots, .ref xCourse, .ref xSight, .ref xParting, .ref xSuiting, .ref xGame, .ref xLots, .ref xTold, .ref xTried, .null])), (xTape, .inr (9, [.ref tBytes, .int 0, .int 0, .int (-1), .int 0, .int 0, .int 0, .int 0, .int 0, .int 0])), (tBytes, .inl (cyB, 800, .inl (fun _ => 0)))] sz) := by
  refine Met.ofW (cc := cX11_feed) (maxL := 6) (ret := (some .int)) (by decide) rfl ?_
  intro p e s m args below meth c s₁ B hml hv
  obtain ⟨rfl, hsz, hP, hK, hD0⟩ := hv
  have hx := B.exec
  have hb := B.bytes
  have hr := B.returns
  have hts : ∀ w ∈ uU, w.before ([.ref x, .int p0, .int p1, .int p2, .int p3, .int p4] : List Value).toArray s = true := fun w h => atoms_spec (ws := wk yX11_feed cX11_feed 6 (some .int)) B.pre w (List.mem_cons_of_mem _ h)
  have hown : s.vm.findClass RX11 = some m.cls := findClass_of_methodNamed B.named
  have hlocks := B.notSynchronized
  subst hsz
  have hD := hD0.self (sz := s.heap.size)
  generalize hAe : va_A [(x, .inr (10, [.ref xTape, .ref xHall, .ref xDraft, .ref xImages, .ref xKept, .ref xSlots, .ref xCourse, .ref xSight, .ref xParting, .ref xSuiting, .ref xGame, .ref xLots, .ref xTold, .ref xTried, .null])), (xTape, .inr (9, [.ref tBytes, .int 0, .int 0, .int (-1), .int 0, .int 0, .int 0, .int 0, .int 0, .int 0])), (tBytes, .inl (cyB, 800, .inl (fun _ => 0)))] s.heap.size = A at hD ⊢
  have hA : ∀ q : Nat, s.heap.size ≤ q → A q := fun q h => by rw [← hAe]; exact Or.inr h
  have hS : va_S A s.heap s.heap [] := va_S.rf
  have hP : va_P (dC, dI) vwCl [(x, .inr (10, [.ref xTape, .ref xHall, .ref xDraft, .ref xImages, .ref xKept, .ref xSlots, .ref xCourse, .ref xSight, .ref xParting, .ref xSuiting, .ref xGame, .ref xLots, .ref xTold, .ref xTried, .null])), (xTape, .inr (9, [.ref tBytes, .int 0, .int 0, .int (-1), .int 0, .int 0, .int 0, .int 0, .int 0, .int 0])), (tBytes, .inl (cyB, 800, .inl (fun _ => 0)))] s.heap := hP
  have hl := lv_entry ([.ref x, .int p0, .int p1, .int p2, .int p3, .int p4]) (n := 6) (Nat.le_of_ble_eq_true rfl)
  rw [lg_entry_eq]
  generalize (lg_sl ([.ref x, .int p0, .int p1, .int p2, .int p3, .int p4]) ++ List.replicate (6 - (lg_sl ([.ref x, .int p0, .int p1, .int p2, .int p3, .int p4])).length) Slot.unset).toArray = ls at hl ⊢
  have hl : lv_has ls 6 [(0, .ref x), (1, .int p0), (2, .int p1), (3, .int p2), (4, .int p3), (5, .int p4)] := hl
  obtain ⟨H, hHe⟩ : ∃ H, H = s.heap := ⟨_, rfl⟩
  have hP : va_P (dC, dI) vwCl [(x, .inr (10, [.ref xTape, .ref xHall, .ref xDraft, .ref xImages, .ref xKept, .ref xSlots, .ref xCourse, .ref xSight, .ref xParting, .ref xSuiting, .ref xGame, .ref xLots, .ref xTold, .ref xTried, .null])), (xTape, .inr (9, [.ref tBytes, .int 0, .int 0, .int (-1), .int 0, .int 0, .int 0, .int 0, .int 0, .int 0])), (tBytes, .inl (cyB, 800, .inl (fun _ => 0)))] H := by rw [hHe]; exact hP
  have hS : va_S A s.heap H [] := by rw [hHe]; exact hS
  refine cv_heap hHe ?_
  refine lv_aload_n hx hb dX11_feed_0 rfl (lv_at hl 0 rfl) ?_
  refine va_get (D := (dC, dI)) (ci := 10) (v := .ref xTape) (C := RX11) (T := TX11) (N := 15) hx hb hts uinX11 hown hK hP 0 rfl rfl 0 (by decide) (hts _ wd_2_65) (fun _ h9 => h9) rfl dX11_feed_1 ?_
  have hPc := hP.sub (ws' := [(xTape, .inr (9, [.ref tBytes, .int 0, .int 0, .int (-1), .int 0, .int 0, .int 0, .int 0, .int 0, .int 0]))]) [1] rfl
  have hKc := hK.sub (tys' := [(cyI, .int), (cyB, .byte), (cyJ, .long), (cyZ, .boolean), (cyH, .object RX2), (cyN, .array .long)]) [0, 1, 2, 3, 4, 5] rfl
  refine vp_callSi (va_Run.run (va_runV (As := []) (rest := []) ⟨hx, hb, hml, hown, hts⟩ (c_hasRoom l dC dI cyI cyB cyJ cyZ cyH cyN xTape tBytes) (cwV 0 hts (gdV wd_2_115 wd_2_116 wd_2_117 wd_1_2 wd_2_118) rfl rfl rfl (by decide +kernel) ⟨Nat.le_of_ble_eq_true rfl, Nat.le_of_ble_eq_true rfl⟩) ⟨fun a U g mk q => by obtain ⟨q0, qP, qK⟩ := q; exact ⟨q0, qP, va_K.moved (u := U) (U := U.calling g mk a) (Vm.Alike.refl U.vm) qK⟩, va_recv hKc hPc (ci := 9) (q0 := 0) rfl rfl, fun U hU hW => ⟨rfl, by rw [hU]; exact hPc, va_K.moved hW.alike hKc⟩⟩ rfl rfl hl.1 rfl (lv_room (Nat.le_of_ble_eq_true rfl)) dX11_feed_4 ⟨Nat.le_of_ble_eq_true rfl, Nat.le_of_ble_eq_true rfl⟩)) (fun r_1 hw => ?_)
  subst hw
  refine lv_if_ne (tgt := 12) hx hb dX11_feed_7 (by decide) (fun _ => ?_) (fun c_2 => absurd c_2 (by decide))
  refine lv_aload_n hx hb dX11_feed_12 rfl (lv_at hl 0 rfl) ?_
  refine va_get (D := (dC, dI)) (ci := 10) (v := .ref xTape) (C := RX11) (T := TX11) (N := 15) hx hb hts uinX11 hown hK hP 0 rfl rfl 0 (by decide) (hts _ wd_2_65) (fun _ h9 => h9) rfl dX11_feed_13 ?_
  refine lv_iload_n hx hb dX11_feed_16 rfl (lv_at hl 1 rfl) ?_
  have hPc := hP.sub (ws' := [(xTape, .inr (9, [.ref tBytes, .int 0, .int 0, .int (-1), .int 0, .int 0, .int 0, .int 0, .int 0, .int 0])), (tBytes, .inl (cyB, 800, .inl (fun _ => 0)))]) [1, 2] rfl
  have hKc := hK.sub (tys' := [(cyI, .int), (cyB, .byte), (cyJ, .long), (cyZ, .boolean), (cyH, .object RX2), (cyN, .array .long)]) [0, 1, 2, 3, 4, 5] rfl
  have hDc := hD.sub (ws' := [(xTape, .inr (9, [.ref tBytes, .int 0, .int 0, .int (-1), .int 0, .int 0, .int 0, .int 0, .int 0, .int 0])), (tBytes, .inl (cyB, 800, .inl (fun _ => 0)))]) [1, 2] (by decide) rfl
  have hFc := va_free (wc := [(xTape, .inr (9, [.ref tBytes, .int 0, .int 0, .int (-1), .int 0, .int 0, .int 0, .int 0, .int 0, .int 0])), (tBytes, .inl (cyB, 800, .inl (fun _ => 0)))]) hD hS hA [1, 2] rfl
  refine va_callv (va_runV (As := [.int p0]) (rest := []) ⟨hx, hb, hml, hown, hts⟩ (c_put0 l dC dI cyI cyB cyJ cyZ cyH cyN H.size xTape tBytes (fun _ => 0) p0) (cwV 1 hts (gdV wd_2_119 wd_2_120 wd_2_121 wd_1_2 wd_2_122) rfl rfl rfl (by decide +kernel) ⟨Nat.le_of_ble_eq_true rfl, Nat.le_of_ble_eq_true rfl⟩) ⟨fun a U g mk q => by obtain ⟨q0, q1, qP, qK, qD⟩ := q; exact ⟨q0, q1, qP, va_K.moved (u := U) (U := U.calling g mk a) (Vm.Alike.refl U.vm) qK, qD⟩, va_recv hKc hPc (ci := 9) (q0 := 0) rfl rfl, fun U hU hW => ⟨rfl, by rw [hU], by rw [hU]; exact hPc, va_K.moved hW.alike hKc, hDc.weaken (fun _ _ _ _ => trivial)⟩⟩ rfl rfl hl.1 rfl (lv_room (Nat.le_of_ble_eq_true rfl)) dX11_feed_17 ⟨Nat.le_of_ble_eq_true rfl, Nat.le_of_ble_eq_true rfl⟩) hS (fun q _ h => hFc q h) hFc (fun  u t H1 locs ht hvm hw hB hz1 hk1 hS => ?_)
  obtain ⟨g_3, hP1, hD1⟩ := hB
  rw [ht] at hP1
  obtain ⟨hP, hD⟩ := va_join (wr := [(x, .inr (10, [.ref xTape, .ref xHall, .ref xDraft, .ref xImages, .ref xKept, .ref xSlots, .ref xCourse, .ref xSight, .ref xParting, .ref xSuiting, .ref xGame, .ref xLots, .ref xTold, .ref xTried, .null]))]) (w1 := [(xTape, .inr (9, [.ref tBytes, .int 4, .int 0, .int (-1), .int 0, .int 0, .int 0, .int 0, .int 0, .int 0])), (tBytes, .inl (cyB, 800, .inl g_3))]) hP hD [1, 2] [0] rfl rfl (by decide) (by decide) hk1 hFc hP1 hD1
  generalize H1 = H at hP hS ⊢
  have hP : va_P (dC, dI) vwCl [(x, .inr (10, [.ref xTape, .ref xHall, .ref xDraft, .ref xImages, .ref xKept, .ref xSlots, .ref xCourse, .ref xSight, .ref xParting, .ref xSuiting, .ref xGame, .ref xLots, .ref xTold, .ref xTried, .null])), (xTape, .inr (9, [.ref tBytes, .int 4, .int 0, .int (-1), .int 0, .int 0, .int 0, .int 0, .int 0, .int 0])), (tBytes, .inl (cyB, 800, .inl g_3))] H := hP
  have hD : va_D A [(x, .inr (10, [.ref xTape, .ref xHall, .ref xDraft, .ref xImages, .ref xKept, .ref xSlots, .ref xCourse, .ref xSight, .ref xParting, .ref xSuiting, .ref xGame, .ref xLots, .ref xTold, .ref xTried, .null])), (xTape, .inr (9, [.ref tBytes, .int 4, .int 0, .int (-1), .int 0, .int 0, .int 0, .int 0, .int 0, .int 0])), (tBytes, .inl (cyB, 800, .inl g_3))] := hD
  refine lv_aload_n hx hb dX11_feed_20 rfl (lv_at hl 0 rfl) ?_
  refine va_get (D := (dC, dI)) (ci := 10) (v := .ref xTape) (C := RX11) (T := TX11) (N := 15) hx hb hts uinX11 hown hK hP 0 rfl rfl 0 (by decide) (hts _ wd_2_65) (fun _ h9 => h9) rfl dX11_feed_21 ?_
  refine lv_iload_n hx hb dX11_feed_24 rfl (lv_at hl 2 rfl) ?_
  have hPc := hP.sub (ws' := [(xTape, .inr (9, [.ref tBytes, .int 4, .int 0, .int (-1), .int 0, .int 0, .int 0, .int 0, .int 0, .int 0])), (tBytes, .inl (cyB, 800, .inl g_3))]) [1, 2] rfl
  have hKc := hK.sub (tys' := [(cyI, .int), (cyB, .byte), (cyJ, .long), (cyZ, .boolean), (cyH, .object RX2), (cyN, .array .long)]) [0, 1, 2, 3, 4, 5] rfl
  have hDc := hD.sub (ws' := [(xTape, .inr (9, [.ref tBytes, .int 4, .int 0, .int (-1), .int 0, .int 0, .int 0, .int 0, .int 0, .int 0])), (tBytes, .inl (cyB, 800, .inl g_3))]) [1, 2] (by decide) rfl
  have hFc := va_free (wc := [(xTape, .inr (9, [.ref tBytes, .int 4, .int 0, .int (-1), .int 0, .int 0, .int 0, .int 0, .int 0, .int 0])), (tBytes, .inl (cyB, 800, .inl g_3))]) hD hS hA [1, 2] rfl
  refine va_callv (va_runV (As := [.int p1]) (rest := []) ⟨hx, hb, hml, hown, hts⟩ (c_put4 l dC dI cyI cyB cyJ cyZ cyH cyN H.size xTape tBytes g_3 p1) (cwV 1 hts (gdV wd_2_119 wd_2_120 wd_2_121 wd_1_2 wd_2_122) rfl rfl rfl (by decide +kernel) ⟨Nat.le_of_ble_eq_true rfl, Nat.le_of_ble_eq_true rfl⟩) ⟨fun a U g mk q => by obtain ⟨q0, q1, qP, qK, qD⟩ := q; exact ⟨q0, q1, qP, va_K.moved (u := U) (U := U.calling g mk a) (Vm.Alike.refl U.vm) qK, qD⟩, va_recv hKc hPc (ci := 9) (q0 := 0) rfl rfl, fun U hU hW => ⟨rfl, by rw [hU], by rw [hU]; exact hPc, va_K.moved hW.alike hKc, hDc.weaken (fun _ _ _ _ => trivial)⟩⟩ rfl rfl hl.1 rfl (lv_room (Nat.le_of_ble_eq_true rfl)) dX11_feed_25 ⟨Nat.le_of_ble_eq_true rfl, Nat.le_of_ble_eq_true rfl⟩) hS (fun q _ h => hFc q h) hFc (fun  u t H1 locs ht hvm hw hB hz1 hk1 hS => ?_)
  obtain ⟨g_4, hP1, hD1⟩ := hB
  rw [ht] at hP1
  obtain ⟨hP, hD⟩ := va_join (wr := [(x, .inr (10, [.ref xTape, .ref xHall, .ref xDraft, .ref xImages, .ref xKept, .ref xSlots, .ref xCourse, .ref xSight, .ref xParting, .ref xSuiting, .ref xGame, .ref xLots, .ref xTold, .ref xTried, .null]))]) (w1 := [(xTape, .inr (9, [.ref tBytes, .int 8, .int 0, .int (-1), .int 0, .int 0, .int 0, .int 0, .int 0, .int 0])), (tBytes, .inl (cyB, 800, .inl g_4))]) hP hD [1, 2] [0] rfl rfl (by decide) (by decide) hk1 hFc hP1 hD1
  generalize H1 = H at hP hS ⊢
  have hP : va_P (dC, dI) vwCl [(x, .inr (10, [.ref xTape, .ref xHall, .ref xDraft, .ref xImages, .ref xKept, .ref xSlots, .ref xCourse, .ref xSight, .ref xParting, .ref xSuiting, .ref xGame, .ref xLots, .ref xTold, .ref xTried, .null])), (xTape, .inr (9, [.ref tBytes, .int 8, .int 0, .int (-1), .int 0, .int 0, .int 0, .int 0, .int 0, .int 0])), (tBytes, .inl (cyB, 800, .inl g_4))] H := hP
  have hD : va_D A [(x, .inr (10, [.ref xTape, .ref xHall, .ref xDraft, .ref xImages, .ref xKept, .ref xSlots, .ref xCourse, .ref xSight, .ref xParting, .ref xSuiting, .ref xGame, .ref xLots, .ref xTold, .ref xTried, .null])), (xTape, .inr (9, [.ref tBytes, .int 8, .int 0, .int (-1), .int 0, .int 0, .int 0, .int 0, .int 0, .int 0])), (tBytes, .inl (cyB, 800, .inl g_4))] := hD
  refine lv_aload_n hx hb dX11_feed_28 rfl (lv_at hl 0 rfl) ?_
  refine va_get (D := (dC, dI)) (ci := 10) (v := .ref xTape) (C := RX11) (T := TX11) (N := 15) hx hb hts uinX11 hown hK hP 0 rfl rfl 0 (by decide) (hts _ wd_2_65) (fun _ h9 => h9) rfl dX11_feed_29 ?_
  refine lv_iload_n hx hb dX11_feed_32 rfl (lv_at hl 3 rfl) ?_
  have hPc := hP.sub (ws' := [(xTape, .inr (9, [.ref tBytes, .int 8, .int 0, .int (-1), .int 0, .int 0, .int 0, .int 0, .int 0, .int 0])), (tBytes, .inl (cyB, 800, .inl g_4))]) [1, 2] rfl
  have hKc := hK.sub (tys' := [(cyI, .int), (cyB, .byte), (cyJ, .long), (cyZ, .boolean), (cyH, .object RX2), (cyN, .array .long)]) [0, 1, 2, 3, 4, 5] rfl
  have hDc := hD.sub (ws' := [(xTape, .inr (9, [.ref tBytes, .int 8, .int 0, .int (-1), .int 0, .int 0, .int 0, .int 0, .int 0, .int 0])), (tBytes, .inl (cyB, 800, .inl g_4))]) [1, 2] (by decide) rfl
  have hFc := va_free (wc := [(xTape, .inr (9, [.ref tBytes, .int 8, .int 0, .int (-1), .int 0, .int 0, .int 0, .int 0, .int 0, .int 0])), (tBytes, .inl (cyB, 800, .inl g_4))]) hD hS hA [1, 2] rfl
  refine va_callv (va_runV (As := [.int p2]) (rest := []) ⟨hx, hb, hml, hown, hts⟩ (c_put8 l dC dI cyI cyB cyJ cyZ cyH cyN H.size xTape tBytes g_4 p2) (cwV 1 hts (gdV wd_2_119 wd_2_120 wd_2_121 wd_1_2 wd_2_122) rfl rfl rfl (by decide +kernel) ⟨Nat.le_of_ble_eq_true rfl, Nat.le_of_ble_eq_true rfl⟩) ⟨fun a U g mk q => by obtain ⟨q0, q1, qP, qK, qD⟩ := q; exact ⟨q0, q1, qP, va_K.moved (u := U) (U := U.calling g mk a) (Vm.Alike.refl U.vm) qK, qD⟩, va_recv hKc hPc (ci := 9) (q0 := 0) rfl rfl, fun U hU hW => ⟨rfl, by rw [hU], by rw [hU]; exact hPc, va_K.moved hW.alike hKc, hDc.weaken (fun _ _ _ _ => trivial)⟩⟩ rfl rfl hl.1 rfl (lv_room (Nat.le_of_ble_eq_true rfl)) dX11_feed_33 ⟨Nat.le_of_ble_eq_true rfl, Nat.le_of_ble_eq_true rfl⟩) hS (fun q _ h => hFc q h) hFc (fun  u t H1 locs ht hvm hw hB hz1 hk1 hS => ?_)
  obtain ⟨g_5, hP1, hD1⟩ := hB
  rw [ht] at hP1
  obtain ⟨hP, hD⟩ := va_join (wr := [(x, .inr (10, [.ref xTape, .ref xHall, .ref xDraft, .ref xImages, .ref xKept, .ref xSlots, .ref xCourse, .ref xSight, .ref xParting, .ref xSuiting, .ref xGame, .ref xLots, .ref xTold, .ref xTried, .null]))]) (w1 := [(xTape, .inr (9, [.ref tBytes, .int 12, .int 0, .int (-1), .int 0, .int 0, .int 0, .int 0, .int 0, .int 0])), (tBytes, .inl (cyB, 800, .inl g_5))]) hP hD [1, 2] [0] rfl rfl (by decide) (by decide) hk1 hFc hP1 hD1
  generalize H1 = H at hP hS ⊢
  have hP : va_P (dC, dI) vwCl [(x, .inr (10, [.ref xTape, .ref xHall, .ref xDraft, .ref xImages, .ref xKept, .ref xSlots, .ref xCourse, .ref xSight, .ref xParting, .ref xSuiting, .ref xGame, .ref xLots, .ref xTold, .ref xTried, .null])), (xTape, .inr (9, [.ref tBytes, .int 12, .int 0, .int (-1), .int 0, .int 0, .int 0, .int 0, .int 0, .int 0])), (tBytes, .inl (cyB, 800, .inl g_5))] H := hP
  have hD : va_D A [(x, .inr (10, [.ref xTape, .ref xHall, .ref xDraft, .ref xImages, .ref xKept, .ref xSlots, .ref xCourse, .ref xSight, .ref xParting, .ref xSuiting, .ref xGame, .ref xLots, .ref xTold, .ref xTried, .null])), (xTape, .inr (9, [.ref tBytes, .int 12, .int 0, .int (-1), .int 0, .int 0, .int 0, .int 0, .int 0, .int 0])), (tBytes, .inl (cyB, 800, .inl g_5))] := hD
  refine lv_aload_n hx hb dX11_feed_36 rfl (lv_at hl 0 rfl) ?_
  refine va_get (D := (dC, dI)) (ci := 10) (v := .ref xTape) (C := RX11) (T := TX11) (N := 15) hx hb hts uinX11 hown hK hP 0 rfl rfl 0 (by decide) (hts _ wd_2_65) (fun _ h9 => h9) rfl dX11_feed_37 ?_
  refine lv_iload hx hb dX11_feed_40 (lv_at hl 4 rfl) ?_
  have hPc := hP.sub (ws' := [(xTape, .inr (9, [.ref tBytes, .int 12, .int 0, .int (-1), .int 0, .int 0, .int 0, .int 0, .int 0, .int 0])), (tBytes, .inl (cyB, 800, .inl g_5))]) [1, 2] rfl
  have hKc := hK.sub (tys' := [(cyI, .int), (cyB, .byte), (cyJ, .long), (cyZ, .boolean), (cyH, .object RX2), (cyN, .array .long)]) [0, 1, 2, 3, 4, 5] rfl
  have hDc := hD.sub (ws' := [(xTape, .inr (9, [.ref tBytes, .int 12, .int 0, .int (-1), .int 0, .int 0, .int 0, .int 0, .int 0, .int 0])), (tBytes, .inl (cyB, 800, .inl g_5))]) [1, 2] (by decide) rfl
  have hFc := va_free (wc := [(xTape, .inr (9, [.ref tBytes, .int 12, .int 0, .int (-1), .int 0, .int 0, .int 0, .int 0, .int 0, .int 0])), (tBytes, .inl (cyB, 800, .inl g_5))]) hD hS hA [1, 2] rfl
  refine va_callv (va_runV (As := [.int p3]) (rest := []) ⟨hx, hb, hml, hown, hts⟩ (c_put12 l dC dI cyI cyB cyJ cyZ cyH cyN H.size xTape tBytes g_5 p3) (cwV 1 hts (gdV wd_2_119 wd_2_120 wd_2_121 wd_1_2 wd_2_122) rfl rfl rfl (by decide +kernel) ⟨Nat.le_of_ble_eq_true rfl, Nat.le_of_ble_eq_true rfl⟩) ⟨fun a U g mk q => by obtain ⟨q0, q1, qP, qK, qD⟩ := q; exact ⟨q0, q1, qP, va_K.moved (u := U) (U := U.calling g mk a) (Vm.Alike.refl U.vm) qK, qD⟩, va_recv hKc hPc (ci := 9) (q0 := 0) rfl rfl, fun U hU hW => ⟨rfl, by rw [hU], by rw [hU]; exact hPc, va_K.moved hW.alike hKc, hDc.weaken (fun _ _ _ _ => trivial)⟩⟩ rfl rfl hl.1 rfl (lv_room (Nat.le_of_ble_eq_true rfl)) dX11_feed_42 ⟨Nat.le_of_ble_eq_true rfl, Nat.le_of_ble_eq_true rfl⟩) hS (fun q _ h => hFc q h) hFc (fun  u t H1 locs ht hvm hw hB hz1 hk1 hS => ?_)
  obtain ⟨g_6, hP1, hD1⟩ := hB
  rw [ht] at hP1
  obtain ⟨hP, hD⟩ := va_join (wr := [(x, .inr (10, [.ref xTape, .ref xHall, .ref xDraft, .ref xImages, .ref xKept, .ref xSlots, .ref xCourse, .ref xSight, .ref xParting, .ref xSuiting, .ref xGame, .ref xLots, .ref xTold, .ref xTried, .null]))]) (w1 := [(xTape, .inr (9, [.ref tBytes, .int 16, .int 0, .int (-1), .int 0, .int 0, .int 0, .int 0, .int 0, .int 0])), (tBytes, .inl (cyB, 800, .inl g_6))]) hP hD [1, 2] [0] rfl rfl (by decide) (by decide) hk1 hFc hP1 hD1
  generalize H1 = H at hP hS ⊢
  have hP : va_P (dC, dI) vwCl [(x, .inr (10, [.ref xTape, .ref xHall, .ref xDraft, .ref xImages, .ref xKept, .ref xSlots, .ref xCourse, .ref xSight, .ref xParting, .ref xSuiting, .ref xGame, .ref xLots, .ref xTold, .ref xTried, .null])), (xTape, .inr (9, [.ref tBytes, .int 16, .int 0, .int (-1), .int 0, .int 0, .int 0, .int 0, .int 0, .int 0])), (tBytes, .inl (cyB, 800, .inl g_6))] H := hP
  have hD : va_D A [(x, .inr (10, [.ref xTape, .ref xHall, .ref xDraft, .ref xImages, .ref xKept, .ref xSlots, .ref xCourse, .ref xSight, .ref xParting, .ref xSuiting, .ref xGame, .ref xLots, .ref xTold, .ref xTried, .null])), (xTape, .inr (9, [.ref tBytes, .int 16, .int 0, .int (-1), .int 0, .int 0, .int 0, .int 0, .int 0, .int 0])), (tBytes, .inl (cyB, 800, .inl g_6))] := hD
  refine lv_aload_n hx hb dX11_feed_45 rfl (lv_at hl 0 rfl) ?_
  refine va_get (D := (dC, dI)) (ci := 10) (v := .ref xTape) (C := RX11) (T := TX11) (N := 15) hx hb hts uinX11 hown hK hP 0 rfl rfl 0 (by decide) (hts _ wd_2_65) (fun _ h9 => h9) rfl dX11_feed_46 ?_
  refine lv_iload hx hb dX11_feed_49 (lv_at hl 5 rfl) ?_
  have hPc := hP.sub (ws' := [(xTape, .inr (9, [.ref tBytes, .int 16, .int 0, .int (-1), .int 0, .int 0, .int 0, .int 0, .int 0, .int 0])), (tBytes, .inl (cyB, 800, .inl g_6))]) [1, 2] rfl
  have hKc := hK.sub (tys' := [(cyI, .int), (cyB, .byte), (cyJ, .long), (cyZ, .boolean), (cyH, .object RX2), (cyN, .array .long)]) [0, 1, 2, 3, 4, 5] rfl
  have hDc := hD.sub (ws' := [(xTape, .inr (9, [.ref tBytes, .int 16, .int 0, .int (-1), .int 0, .int 0, .int 0, .int 0, .int 0, .int 0])), (tBytes, .inl (cyB, 800, .inl g_6))]) [1, 2] (by decide) rfl
  have hFc := va_free (wc := [(xTape, .inr (9, [.ref tBytes, .int 16, .int 0, .int (-1), .int 0, .int 0, .int 0, .int 0, .int 0, .int 0])), (tBytes, .inl (cyB, 800, .inl g_6))]) hD hS hA [1, 2] rfl
  refine va_callv (va_runV (As := [.int p4]) (rest := []) ⟨hx, hb, hml, hown, hts⟩ (c_put16 l dC dI cyI cyB cyJ cyZ cyH cyN H.size xTape tBytes g_6 p4) (cwV 1 hts (gdV wd_2_119 wd_2_120 wd_2_121 wd_1_2 wd_2_122) rfl rfl rfl (by decide +kernel) ⟨Nat.le_of_ble_eq_true rfl, Nat.le_of_ble_eq_true rfl⟩) ⟨fun a U g mk q => by obtain ⟨q0, q1, qP, qK, qD⟩ := q; exact ⟨q0, q1, qP, va_K.moved (u := U) (U := U.calling g mk a) (Vm.Alike.refl U.vm) qK, qD⟩, va_recv hKc hPc (ci := 9) (q0 := 0) rfl rfl, fun U hU hW => ⟨rfl, by rw [hU], by rw [hU]; exact hPc, va_K.moved hW.alike hKc, hDc.weaken (fun _ _ _ _ => trivial)⟩⟩ rfl rfl hl.1 rfl (lv_room (Nat.le_of_ble_eq_true rfl)) dX11_feed_51 ⟨Nat.le_of_ble_eq_true rfl, Nat.le_of_ble_eq_true rfl⟩) hS (fun q _ h => hFc q h) hFc (fun  u t H1 locs ht hvm hw hB hz1 hk1 hS => ?_)
  obtain ⟨g_7, hP1, hD1⟩ := hB
  rw [ht] at hP1
  obtain ⟨hP, hD⟩ := va_join (wr := [(x, .inr (10, [.ref xTape, .ref xHall, .ref xDraft, .ref xImages, .ref xKept, .ref xSlots, .ref xCourse, .ref xSight, .ref xParting, .ref xSuiting, .ref xGame, .ref xLots, .ref xTold, .ref xTried, .null]))]) (w1 := [(xTape, .inr (9, [.ref tBytes, .int 20, .int 0, .int (-1), .int 0, .int 0, .int 0, .int 0, .int 0, .int 0])), (tBytes, .inl (cyB, 800, .inl g_7))]) hP hD [1, 2] [0] rfl rfl (by decide) (by decide) hk1 hFc hP1 hD1
  generalize H1 = H at hP hS ⊢
  have hP : va_P (dC, dI) vwCl [(x, .inr (10, [.ref xTape, .ref xHall, .ref xDraft, .ref xImages, .ref xKept, .ref xSlots, .ref xCourse, .ref xSight, .ref xParting, .ref xSuiting, .ref xGame, .ref xLots, .ref xTold, .ref xTried, .null])), (xTape, .inr (9, [.ref tBytes, .int 20, .int 0, .int (-1), .int 0, .int 0, .int 0, .int 0, .int 0, .int 0])), (tBytes, .inl (cyB, 800, .inl g_7))] H := hP
  have hD : va_D A [(x, .inr (10, [.ref xTape, .ref xHall, .ref xDraft, .ref xImages, .ref xKept, .ref xSlots, .ref xCourse, .ref xSight, .ref xParting, .ref xSuiting, .ref xGame, .ref xLots, .ref xTold, .ref xTried, .null])), (xTape, .inr (9, [.ref tBytes, .int 20, .int 0, .int (-1), .int 0, .int 0, .int 0, .int 0, .int 0, .int 0])), (tBytes, .inl (cyB, 800, .inl g_7))] := hD
  refine lv_aload_n hx hb dX11_feed_54 rfl (lv_at hl 0 rfl) ?_
  refine va_get (D := (dC, dI)) (ci := 10) (v := .ref xTape) (C := RX11) (T := TX11) (N := 15) hx hb hts uinX11 hown hK hP 0 rfl rfl 0 (by decide) (hts _ wd_2_65) (fun _ h9 => h9) rfl dX11_feed_55 ?_
  refine va_get (D := (dC, dI)) (ci := 9) (v := .int 20) (C := RX10) (T := TX10) (N := 10) hx hb hts uinX10 hown hK hP 1 rfl rfl 1 (by decide) (hts _ wd_1_38) (fun _ h9 => h9) rfl dX11_feed_58 ?_
  exact W.iret (v := 20) hx hb hr (fun t ht hW => ⟨⟨20, (), rfl, rfl, trivial⟩, hS.F ht⟩) hS.2.2 dX11_feed_61

/- X11_end -/
set_option maxHeartbeats 4000000 in
set_option maxRecDepth 100000 in
theorem c_end (l : Launch) (dC : Nat → ClassId) (dI : Nat → Nat → Nat) (cyI cyB cyJ cyZ cyH cyN : ClassId) (sz : Nat) (x xTape xHall xDraft xImages xKept xSlots xCourse xSight xParting xSuiting xGame xLots xTold xTried tBytes : Nat) (p0 : Int32) : Met l yX11_end (wk yX11_end cX11_end 2 (some .int)) ({ frames := 1, cells := 0, slots := 0, locals := 60 }) (va_Pc [.ref x, .int p0] (fun U => U.heap.size = sz ∧ va_P (dC, dI) vwCl [(x, .inr (10, [.ref xTape, .ref xHall, .ref xDraft, .ref xImages, .ref xKept, .ref xSlots, .ref xCourse, .ref xSight, .ref xParting, .ref xSuiting, .ref xGame, .ref xLots, .ref xTold, .ref xTried, .null])), (xTape, .inr (9, [.ref tBytes, .int 0, .int 0, .int (-1), .int 0, .int 0, .int 0, .int 0, .int 0, .int 0]))] U.heap ∧ va_K (dC, dI) vwCl [(cyI, .int), (cyB, .byte), (cyJ, .long), (cyZ, .boolean), (cyH, .object RX2), (cyN, .array .long)] U ∧ va_D (fun _ => True) [(x, .inr (10, [.ref xTape, .ref xHall, .ref xDraft, .ref xImages, .ref xKept, .ref xSlots, .ref xCourse, .ref xSight, .ref xParting, .ref xSuiting, .ref xGame, .ref xLots, .ref xTold, .ref xTried, .null])), (xTape, .inr (9, [.ref tBytes, .int 0, .int 0, .int (-1), .int 0, .int 0, .int 0, .int 0, .int 0, .int 0]))])) (va_Qi (fun (r : Int32) (_ : Unit) => r = (if p0.toInt = 0 then p0 else (-1))) (fun (_ : Unit) (_ : State) => True) (va_A [(x, .inr (10, [.ref xTape, .ref xHall, .ref xDraft, .ref xImages, .ref xKept, .ref xSlots, .ref xCourse, .ref xSight, .ref xParting, .ref xSuiting, .ref xGame, .ref xLots, .ref xTold, .ref xTried, .null])), (xTape, .inr (9, [.ref tBytes, .int 0, .int 0, .int (-1), .int 0, .int 0, .int 0, .int 0, .int 0, .int 0]))] sz)) 0 0 (va_A [(x, .inr (10, [.ref xTape, .ref xHall, .ref xDraft, .ref xImages, .ref xKept, .ref xSlots, .ref xCourse, .ref xSight, .ref xParting, .ref xSuiting, .ref xGame, .ref xLots, .ref xTold, .ref xTried, .null])), (xTape, .inr (9, [.ref tBytes, .int 0, .int 0, .int (-1), .int 0, .int 0, .int 0, .int 0, .int 0, .int 0]))] sz) := by
  refine Met.ofW (cc := cX11_end) (maxL := 2) (ret := (some .int)) (by decide) rfl ?_
  intro p e s m args below meth c s₁ B hml hv
  obtain ⟨rfl, hsz, hP, hK, hD0⟩ := hv
  have hx := B.exec
  have hb := B.bytes
  have hr := B.returns
  have hts : ∀ w ∈ uU, w.before ([.ref x, .int p0] : List Value).toArray s = true := fun w h => atoms_spec (ws := wk yX11_end cX11_end 2 (some .int)) B.pre w (List.mem_cons_of_mem _ h)
  have hown : s.vm.findClass RX11 = some m.cls := findClass_of_methodNamed B.named
  have hlocks := B.notSynchronized
  subst hsz
  have hD := hD0.self (sz := s.heap.size)
  generalize hAe : va_A [(x, .inr (10, [.ref xTape, .ref xHall, .ref xDraft, .ref xImages, .ref xKept, .ref xSlots, .ref xCourse, .ref xSight, .ref xParting, .ref xSuiting, .ref xGame, .ref xLots, .ref xTold, .ref xTried, .null])), (xTape, .inr (9, [.ref tBytes, .int 0, .int 0, .int (-1), .int 0, .int 0, .int 0, .int 0, .int 0, .int 0]))] s.heap.size = A at hD ⊢
  have hA : ∀ q : Nat, s.heap.size ≤ q → A q := fun q h => by rw [← hAe]; exact Or.inr h
  have hS : va_S A s.heap s.heap [] := va_S.rf
  have hP : va_P (dC, dI) vwCl [(x, .inr (10, [.ref xTape, .ref xHall, .ref xDraft, .ref xImages, .ref xKept, .ref xSlots, .ref xCourse, .ref xSight, .ref xParting, .ref xSuiting, .ref xGame, .ref xLots, .ref xTold, .ref xTried, .null])), (xTape, .inr (9, [.ref tBytes, .int 0, .int 0, .int (-1), .int 0, .int 0, .int 0, .int 0, .int 0, .int 0]))] s.heap := hP
  have hl := lv_entry ([.ref x, .int p0]) (n := 2) (Nat.le_of_ble_eq_true rfl)
  rw [lg_entry_eq]
  generalize (lg_sl ([.ref x, .int p0]) ++ List.replicate (2 - (lg_sl ([.ref x, .int p0])).length) Slot.unset).toArray = ls at hl ⊢
  have hl : lv_has ls 2 [(0, .ref x), (1, .int p0)] := hl
  obtain ⟨H, hHe⟩ : ∃ H, H = s.heap := ⟨_, rfl⟩
  have hP : va_P (dC, dI) vwCl [(x, .inr (10, [.ref xTape, .ref xHall, .ref xDraft, .ref xImages, .ref xKept, .ref xSlots, .ref xCourse, .ref xSight, .ref xParting, .ref xSuiting, .ref xGame, .ref xLots, .ref xTold, .ref xTried, .null])), (xTape, .inr (9, [.ref tBytes, .int 0, .int 0, .int (-1), .int 0, .int 0, .int 0, .int 0, .int 0, .int 0]))] H := by rw [hHe]; exact hP
  have hS : va_S A s.heap H [] := by rw [hHe]; exact hS
  refine cv_heap hHe ?_
  refine lv_iload_n hx hb dX11_end_0 rfl (lv_at hl 1 rfl) ?_
  refine lv_if_lt (tgt := 15) hx hb dX11_end_1 (by decide) (fun c_1 => ?_) (fun c_1 => ?_)
  · have c_1 : p0.toInt < 0 := cv_lt c_1
    refine lv_iconst (v := (-1)) hx hb dX11_end_15 (by decide) ?_
    exact W.iret (v := (-1)) hx hb hr (fun t ht hW => ⟨⟨(-1), (), rfl, (by first | (rw [if_pos (by omega)]; done) | (rw [if_neg (by omega)]; done) | (rw [if_neg (by omega), if_pos (by omega)]; done) | (rw [if_neg (by omega), if_neg (by omega)]; done)), trivial⟩, hS.F ht⟩) hS.2.2 dX11_end_16
  · have c_1 : 0 ≤ p0.toInt := cv_nlt c_1
    refine lv_iload_n hx hb dX11_end_4 rfl (lv_at hl 1 rfl) ?_
    refine lv_aload_n hx hb dX11_end_5 rfl (lv_at hl 0 rfl) ?_
    refine va_get (D := (dC, dI)) (ci := 10) (v := .ref xTape) (C := RX11) (T := TX11) (N := 15) hx hb hts uinX11 hown hK hP 0 rfl rfl 0 (by decide) (hts _ wd_2_65) (fun _ h9 => h9) rfl dX11_end_6 ?_
    refine va_get (D := (dC, dI)) (ci := 9) (v := .int 0) (C := RX10) (T := TX10) (N := 10) hx hb hts uinX10 hown hK hP 1 rfl rfl 1 (by decide) (hts _ wd_1_38) (fun _ h9 => h9) rfl dX11_end_9 ?_
    refine lv_icmp_le (tgt := 17) hx hb dX11_end_12 (by decide) (fun c_2 => ?_) (fun c_2 => ?_)
    · have c_2 : p0.toInt ≤ 0 := cv_le c_2
      refine lv_aload_n hx hb dX11_end_17 rfl (lv_at hl 0 rfl) ?_
      refine va_get (D := (dC, dI)) (ci := 10) (v := .ref xTape) (C := RX11) (T := TX11) (N := 15) hx hb hts uinX11 hown hK hP 0 rfl rfl 0 (by decide) (hts _ wd_2_65) (fun _ h9 => h9) rfl dX11_end_18 ?_
      refine lv_iload_n hx hb dX11_end_21 rfl (lv_at hl 1 rfl) ?_
      refine va_put (D := (dC, dI)) (ci := 9) (v := .int p0) (ty := .int) (C := RX10) (T := TX10) (N := 10) hx hb hts uinX10 tyX10 tyX10_ok nmX10 hown hK hP hD hS 1 rfl rfl 1 (by decide) (hts _ wd_1_38) (fun _ h9 => h9) rfl (by decide +kernel) rfl rfl (Nat.le_of_ble_eq_true rfl) dX11_end_22 (fun H locs hP hD hS => ?_)
      have hP : va_P (dC, dI) vwCl [(x, .inr (10, [.ref xTape, .ref xHall, .ref xDraft, .ref xImages, .ref xKept, .ref xSlots, .ref xCourse, .ref xSight, .ref xParting, .ref xSuiting, .ref xGame, .ref xLots, .ref xTold, .ref xTried, .null])), (xTape, .inr (9, [.ref tBytes, .int p0, .int 0, .int (-1), .int 0, .int 0, .int 0, .int 0, .int 0, .int 0]))] H := hP
      have hD : va_D A [(x, .inr (10, [.ref xTape, .ref xHall, .ref xDraft, .ref xImages, .ref xKept, .ref xSlots, .ref xCourse, .ref xSight, .ref xParting, .ref xSuiting, .ref xGame, .ref xLots, .ref xTold, .ref xTried, .null])), (xTape, .inr (9, [.ref tBytes, .int p0, .int 0, .int (-1), .int 0, .int 0, .int 0, .int 0, .int 0, .int 0]))] := hD
      refine lv_iload_n hx hb dX11_end_25 rfl (lv_at hl 1 rfl) ?_
      exact W.iret (v := p0) hx hb hr (fun t ht hW => ⟨⟨p0, (), rfl, (by first | (rw [if_pos (by omega)]; done) | (rw [if_neg (by omega)]; done) | (rw [if_neg (by omega), if_pos (by omega)]; done) | (rw [if_neg (by omega), if_neg (by omega)]; done)), trivial⟩, hS.F ht⟩) hS.2.2 dX11_end_26
    · have c_2 : 0 < p0.toInt := cv_nle c_2
      refine lv_iconst (v := (-1)) hx hb dX11_end_15 (by decide) ?_
      exact W.iret (v := (-1)) hx hb hr (fun t ht hW => ⟨⟨(-1), (), rfl, (by first | (rw [if_pos (by omega)]; done) | (rw [if_neg (by omega)]; done) | (rw [if_neg (by omega), if_pos (by omega)]; done) | (rw [if_neg (by omega), if_neg (by omega)]; done)), trivial⟩, hS.F ht⟩) hS.2.2 dX11_end_16

/- X10_readToken -/
set_option maxHeartbeats 4000000 in
set_option maxRecDepth 100000 in
theorem c_readToken (l : Launch) (dC : Nat → ClassId) (dI : Nat → Nat → Nat) (cyI cyB cyJ cyZ cyH cyN : ClassId) (sz : Nat) (h0 b0 : Nat) : Met l yX10_readToken (wk yX10_readToken cX10_readToken 1 none) ({ frames := 1, cells := 0, slots := 0, locals := 60 }) (va_Pc [.ref h0] (fun U => U.heap.size = sz ∧ va_P (dC, dI) vwCl [(h0, .inr (9, [.ref b0, .int 0, .int 0, .int (-1), .int 0, .int 0, .int 0, .int 0, .int 0, .int 0]))] U.heap ∧ va_K (dC, dI) vwCl [(cyI, .int), (cyB, .byte), (cyJ, .long), (cyZ, .boolean), (cyH, .object RX2), (cyN, .array .long)] U ∧ va_D (fun _ => True) [(h0, .inr (9, [.ref b0, .int 0, .int 0, .int (-1), .int 0, .int 0, .int 0, .int 0, .int 0, .int 0]))])) (va_Qv (fun _ : Unit => True) (fun (_ : Unit) (t : State) => va_P (dC, dI) vwCl [(h0, .inr (9, [.ref b0, .int 0, .int 0, .int (-1), .int 0, .int 0, .int 0, .int 0, .int 0, .int 0]))] t.heap ∧ va_D (va_A [(h0, .inr (9, [.ref b0, .int 0, .int 0, .int (-1), .int 0, .int 0, .int 0, .int 0, .int 0, .int 0]))] sz) [(h0, .inr (9, [.ref b0, .int 0, .int 0, .int (-1), .int 0, .int 0, .int 0, .int 0, .int 0, .int 0]))]) (va_A [(h0, .inr (9, [.ref b0, .int 0, .int 0, .int (-1), .int 0, .int 0, .int 0, .int 0, .int 0, .int 0]))] sz)) 0 0 (va_A [(h0, .inr (9, [.ref b0, .int 0, .int 0, .int (-1), .int 0, .int 0, .int 0, .int 0, .int 0, .int 0]))] sz) := by
  refine Met.ofW (cc := cX10_readToken) (maxL := 1) (ret := none) (by decide) rfl ?_
  intro p e s m args below meth c s₁ B hml hv
  obtain ⟨rfl, hsz, hP, hK, hD0⟩ := hv
  have hx := B.exec
  have hb := B.bytes
  have hr := B.returns
  have hts : ∀ w ∈ uU, w.before ([.ref h0] : List Value).toArray s = true := fun w h => atoms_spec (ws := wk yX10_readToken cX10_readToken 1 none) B.pre w (List.mem_cons_of_mem _ h)
  have hown : s.vm.findClass RX10 = some m.cls := findClass_of_methodNamed B.named
  have hlocks := B.notSynchronized
  subst hsz
  have hD := hD0.self (sz := s.heap.size)
  generalize hAe : va_A [(h0, .inr (9, [.ref b0, .int 0, .int 0, .int (-1), .int 0, .int 0, .int 0, .int 0, .int 0, .int 0]))] s.heap.size = A at hD ⊢
  have hA : ∀ q : Nat, s.heap.size ≤ q → A q := fun q h => by rw [← hAe]; exact Or.inr h
  have hS : va_S A s.heap s.heap [] := va_S.rf
  have hP : va_P (dC, dI) vwCl [(h0, .inr (9, [.ref b0, .int 0, .int 0, .int (-1), .int 0, .int 0, .int 0, .int 0, .int 0, .int 0]))] s.heap := hP
  have hl := lv_entry ([.ref h0]) (n := 1) (Nat.le_of_ble_eq_true rfl)
  rw [lg_entry_eq]
  generalize (lg_sl ([.ref h0]) ++ List.replicate (1 - (lg_sl ([.ref h0])).length) Slot.unset).toArray = ls at hl ⊢
  have hl : lv_has ls 1 [(0, .ref h0)] := hl
  obtain ⟨H, hHe⟩ : ∃ H, H = s.heap := ⟨_, rfl⟩
  have hP : va_P (dC, dI) vwCl [(h0, .inr (9, [.ref b0, .int 0, .int 0, .int (-1), .int 0, .int 0, .int 0, .int 0, .int 0, .int 0]))] H := by rw [hHe]; exact hP
  have hS : va_S A s.heap H [] := by rw [hHe]; exact hS
  refine cv_heap hHe ?_
  refine lv_aload_n hx hb dX10_readToken_0 rfl (lv_at hl 0 rfl) ?_
  refine va_get (D := (dC, dI)) (ci := 9) (v := .int 0) (C := RX10) (T := TX10) (N := 10) hx hb hts uinX10 hown hK hP 0 rfl rfl 4 (by decide) (hts _ wd_1_43) (fun _ h9 => h9) rfl dX10_readToken_1 ?_
  refine lv_aload_n hx hb dX10_readToken_4 rfl (lv_at hl 0 rfl) ?_
  refine va_get (D := (dC, dI)) (ci := 9) (v := .int 0) (C := RX10) (T := TX10) (N := 10) hx hb hts uinX10 hown hK hP 0 rfl rfl 1 (by decide) (hts _ wd_1_37) (fun _ h9 => h9) rfl dX10_readToken_5 ?_
  refine lv_icmp_ge (tgt := 39) hx hb dX10_readToken_8 (by decide) (fun _ => ?_) (fun c_1 => absurd c_1 (by decide))
  refine lv_aload_n hx hb dX10_readToken_39 rfl (lv_at hl 0 rfl) ?_
  refine lv_aload_n hx hb dX10_readToken_40 rfl (lv_at hl 0 rfl) ?_
  refine va_get (D := (dC, dI)) (ci := 9) (v := .int 0) (C := RX10) (T := TX10) (N := 10) hx hb hts uinX10 hown hK hP 0 rfl rfl 4 (by decide) (hts _ wd_1_43) (fun _ h9 => h9) rfl dX10_readToken_41 ?_
  refine va_put (D := (dC, dI)) (ci := 9) (v := .int 0) (ty := .int) (C := RX10) (T := TX10) (N := 10) hx hb hts uinX10 tyX10 tyX10_ok nmX10 hown hK hP hD hS 0 rfl rfl 6 (by decide) (hts _ wd_1_45) (fun _ h9 => h9) rfl (by decide +kernel) rfl rfl (Nat.le_of_ble_eq_true rfl) dX10_readToken_44 (fun H locs hP hD hS => ?_)
  have hP : va_P (dC, dI) vwCl [(h0, .inr (9, [.ref b0, .int 0, .int 0, .int (-1), .int 0, .int 0, .int 0, .int 0, .int 0, .int 0]))] H := hP
  have hD : va_D A [(h0, .inr (9, [.ref b0, .int 0, .int 0, .int (-1), .int 0, .int 0, .int 0, .int 0, .int 0, .int 0]))] := hD
  refine lv_aload_n hx hb dX10_readToken_47 rfl (lv_at hl 0 rfl) ?_
  refine lv_iconst (v := 0) hx hb dX10_readToken_48 (by decide) ?_
  refine va_put (D := (dC, dI)) (ci := 9) (v := .int 0) (ty := .int) (C := RX10) (T := TX10) (N := 10) hx hb hts uinX10 tyX10 tyX10_ok nmX10 hown hK hP hD hS 0 rfl rfl 8 (by decide) (hts _ wd_1_47) (fun _ h9 => h9) rfl (by decide +kernel) rfl rfl (Nat.le_of_ble_eq_true rfl) dX10_readToken_49 (fun H locs hP hD hS => ?_)
  have hP : va_P (dC, dI) vwCl [(h0, .inr (9, [.ref b0, .int 0, .int 0, .int (-1), .int 0, .int 0, .int 0, .int 0, .int 0, .int 0]))] H := hP
  have hD : va_D A [(h0, .inr (9, [.ref b0, .int 0, .int 0, .int (-1), .int 0, .int 0, .int 0, .int 0, .int 0, .int 0]))] := hD
  refine lv_aload_n hx hb dX10_readToken_52 rfl (lv_at hl 0 rfl) ?_
  refine va_get (D := (dC, dI)) (ci := 9) (v := .int 0) (C := RX10) (T := TX10) (N := 10) hx hb hts uinX10 hown hK hP 0 rfl rfl 4 (by decide) (hts _ wd_1_43) (fun _ h9 => h9) rfl dX10_readToken_53 ?_
  refine lv_aload_n hx hb dX10_readToken_56 rfl (lv_at hl 0 rfl) ?_
  refine va_get (D := (dC, dI)) (ci := 9) (v := .int 0) (C := RX10) (T := TX10) (N := 10) hx hb hts uinX10 hown hK hP 0 rfl rfl 1 (by decide) (hts _ wd_1_37) (fun _ h9 => h9) rfl dX10_readToken_57 ?_
  refine lv_icmp_lt (tgt := 71) hx hb dX10_readToken_60 (by decide) (fun c_2 => absurd c_2 (by decide)) (fun _ => ?_)
  refine lv_aload_n hx hb dX10_readToken_63 rfl (lv_at hl 0 rfl) ?_
  refine lv_iconst (v := 0) hx hb dX10_readToken_64 (by decide) ?_
  refine va_put (D := (dC, dI)) (ci := 9) (v := .int 0) (ty := .int) (C := RX10) (T := TX10) (N := 10) hx hb hts uinX10 tyX10 tyX10_ok nmX10 hown hK hP hD hS 0 rfl rfl 5 (by decide) (hts _ wd_1_44) (fun _ h9 => h9) rfl (by decide +kernel) rfl rfl (Nat.le_of_ble_eq_true rfl) dX10_readToken_65 (fun H locs hP hD hS => ?_)
  have hP : va_P (dC, dI) vwCl [(h0, .inr (9, [.ref b0, .int 0, .int 0, .int (-1), .int 0, .int 0, .int 0, .int 0, .int 0, .int 0]))] H := hP
  have hD : va_D A [(h0, .inr (9, [.ref b0, .int 0, .int 0, .int (-1), .int 0, .int 0, .int 0, .int 0, .int 0, .int 0]))] := hD
  refine lv_goto (tgt := 251) hx hb dX10_readToken_68 (by decide) ?_
  refine lv_aload_n hx hb dX10_readToken_251 rfl (lv_at hl 0 rfl) ?_
  refine lv_aload_n hx hb dX10_readToken_252 rfl (lv_at hl 0 rfl) ?_
  refine va_get (D := (dC, dI)) (ci := 9) (v := .int 0) (C := RX10) (T := TX10) (N := 10) hx hb hts uinX10 hown hK hP 0 rfl rfl 4 (by decide) (hts _ wd_1_43) (fun _ h9 => h9) rfl dX10_readToken_253 ?_
  refine va_put (D := (dC, dI)) (ci := 9) (v := .int 0) (ty := .int) (C := RX10) (T := TX10) (N := 10) hx hb hts uinX10 tyX10 tyX10_ok nmX10 hown hK hP hD hS 0 rfl rfl 7 (by decide) (hts _ wd_1_46) (fun _ h9 => h9) rfl (by decide +kernel) rfl rfl (Nat.le_of_ble_eq_true rfl) dX10_readToken_256 (fun H locs hP hD hS => ?_)
  have hP : va_P (dC, dI) vwCl [(h0, .inr (9, [.ref b0, .int 0, .int 0, .int (-1), .int 0, .int 0, .int 0, .int 0, .int 0, .int 0]))] H := hP
  have hD : va_D A [(h0, .inr (9, [.ref b0, .int 0, .int 0, .int (-1), .int 0, .int 0, .int 0, .int 0, .int 0, .int 0]))] := hD
  have hP9 := hP.sub (ws' := [(h0, .inr (9, [.ref b0, .int 0, .int 0, .int (-1), .int 0, .int 0, .int 0, .int 0, .int 0, .int 0]))]) [0] rfl
  have hD9 := hD.sub (ws' := [(h0, .inr (9, [.ref b0, .int 0, .int 0, .int (-1), .int 0, .int 0, .int 0, .int 0, .int 0, .int 0]))]) [0] (by decide) rfl
  exact W.vret hx hb hr (fun t ht hW => ⟨⟨(), rfl, trivial, ⟨by rw [ht]; exact hP9, hD9⟩⟩, hS.F ht⟩) hS.2.2 dX10_readToken_259

/- X2_clear -/
set_option maxHeartbeats 4000000 in
set_option maxRecDepth 100000 in
theorem c_clear (l : Launch) (dC : Nat → ClassId) (dI : Nat → Nat → Nat) (cyI cyB cyJ cyZ cyH cyN : ClassId) (sz : Nat) (h0 a_first a_now a_lawPlace a_lawOther a_lawEach a_lawFrom a_foes a_suitTable a_acts : Nat) : Met l yX2_clear (wk yX2_clear cX2_clear 1 none) ({ frames := 2, cells := 0, slots := 0, locals := 83 }) (va_Pc [.ref h0] (fun U => U.heap.size = sz ∧ va_P (dC, dI) vwCl [(h0, .inr (2, [.int 0, .int 0, .int 0, .int 0, .int 0, .int 0, .ref a_first, .ref a_now, .ref a_lawPlace, .ref a_lawOther, .ref a_lawEach, .ref a_lawFrom, .ref a_foes, .ref a_suitTable, .ref a_acts])), (a_foes, .inl (cyI, 7, .inl (fun _ => 0))), (a_suitTable, .inl (cyI, 49, .inl (fun _ => 0)))] U.heap ∧ va_K (dC, dI) vwCl [(cyI, .int), (cyB, .byte), (cyJ, .long), (cyZ, .boolean), (cyH, .object RX2), (cyN, .array .long)] U ∧ va_D (fun _ => True) [(h0, .inr (2, [.int 0, .int 0, .int 0, .int 0, .int 0, .int 0, .ref a_first, .ref a_now, .ref a_lawPlace, .ref a_lawOther, .ref a_lawEach, .ref a_lawFrom, .ref a_foes, .ref a_suitTable, .ref a_acts])), (a_foes, .inl (cyI, 7, .inl (fun _ => 0))), (a_suitTable, .inl (cyI, 49, .inl (fun _ => 0)))])) (va_Qv (fun _ : Unit => True) (fun (_ : Unit) (t : State) => ∃ g0 : Nat → Int32, ∃ g1 : Nat → Int32, va_P (dC, dI) vwCl [(h0, .inr (2, [.int 0, .int 0, .int 0, .int 0, .int 0, .int 0, .ref a_first, .ref a_now, .ref a_lawPlace, .ref a_lawOther, .ref a_lawEach, .ref a_lawFrom, .ref a_foes, .ref a_suitTable, .ref a_acts])), (a_foes, .inl (cyI, 7, .inl g0)), (a_suitTable, .inl (cyI, 49, .inl g1))] t.heap ∧ va_D (va_A [(h0, .inr (2, [.int 0, .int 0, .int 0, .int 0, .int 0, .int 0, .ref a_first, .ref a_now, .ref a_lawPlace, .ref a_lawOther, .ref a_lawEach, .ref a_lawFrom, .ref a_foes, .ref a_suitTable, .ref a_acts])), (a_foes, .inl (cyI, 7, .inl (fun _ => 0))), (a_suitTable, .inl (cyI, 49, .inl (fun _ => 0)))] sz) [(h0, .inr (2, [.int 0, .int 0, .int 0, .int 0, .int 0, .int 0, .ref a_first, .ref a_now, .ref a_lawPlace, .ref a_lawOther, .ref a_lawEach, .ref a_lawFrom, .ref a_foes, .ref a_suitTable, .ref a_acts])), (a_foes, .inl (cyI, 7, .inl g0)), (a_suitTable, .inl (cyI, 49, .inl g1))]) (va_A [(h0, .inr (2, [.int 0, .int 0, .int 0, .int 0, .int 0, .int 0, .ref a_first, .ref a_now, .ref a_lawPlace, .ref a_lawOther, .ref a_lawEach, .ref a_lawFrom, .ref a_foes, .ref a_suitTable, .ref a_acts])), (a_foes, .inl (cyI, 7, .inl (fun _ => 0))), (a_suitTable, .inl (cyI, 49, .inl (fun _ => 0)))] sz)) 0 0 (va_A [(h0, .inr (2, [.int 0, .int 0, .int 0, .int 0, .int 0, .int 0, .ref a_first, .ref a_now, .ref a_lawPlace, .ref a_lawOther, .ref a_lawEach, .ref a_lawFrom, .ref a_foes, .ref a_suitTable, .ref a_acts])), (a_foes, .inl (cyI, 7, .inl (fun _ => 0))), (a_suitTable, .inl (cyI, 49, .inl (fun _ => 0)))] sz) := by
  refine Met.ofW (cc := cX2_clear) (maxL := 1) (ret := none) (by decide) rfl ?_
  intro p e s m args below meth c s₁ B hml hv
  obtain ⟨rfl, hsz, hP, hK, hD0⟩ := hv
  have hx := B.exec
  have hb := B.bytes
  have hr := B.returns
  have hts : ∀ w ∈ uU, w.before ([.ref h0] : List Value).toArray s = true := fun w h => atoms_spec (ws := wk yX2_clear cX2_clear 1 none) B.pre w (List.mem_cons_of_mem _ h)
  have hown : s.vm.findClass RX2 = some m.cls := findClass_of_methodNamed B.named
  have hlocks := B.notSynchronized
  subst hsz
  have hD := hD0.self (sz := s.heap.size)
  generalize hAe : va_A [(h0, .inr (2, [.int 0, .int 0, .int 0, .int 0, .int 0, .int 0, .ref a_first, .ref a_now, .ref a_lawPlace, .ref a_lawOther, .ref a_lawEach, .ref a_lawFrom, .ref a_foes, .ref a_suitTable, .ref a_acts])), (a_foes, .inl (cyI, 7, .inl (fun _ => 0))), (a_suitTable, .inl (cyI, 49, .inl (fun _ => 0)))] s.heap.size = A at hD ⊢
  have hA : ∀ q : Nat, s.heap.size ≤ q → A q := fun q h => by rw [← hAe]; exact Or.inr h
  have hS : va_S A s.heap s.heap [] := va_S.rf
  have hP : va_P (dC, dI) vwCl [(h0, .inr (2, [.int 0, .int 0, .int 0, .int 0, .int 0, .int 0, .ref a_first, .ref a_now, .ref a_lawPlace, .ref a_lawOther, .ref a_lawEach, .ref a_lawFrom, .ref a_foes, .ref a_suitTable, .ref a_acts])), (a_foes, .inl (cyI, 7, .inl (fun _ => 0))), (a_suitTable, .inl (cyI, 49, .inl (fun _ => 0)))] s.heap := hP
  have hl := lv_entry ([.ref h0]) (n := 1) (Nat.le_of_ble_eq_true rfl)
  rw [lg_entry_eq]
  generalize (lg_sl ([.ref h0]) ++ List.replicate (1 - (lg_sl ([.ref h0])).length) Slot.unset).toArray = ls at hl ⊢
  have hl : lv_has ls 1 [(0, .ref h0)] := hl
  obtain ⟨H, hHe⟩ : ∃ H, H = s.heap := ⟨_, rfl⟩
  have hP : va_P (dC, dI) vwCl [(h0, .inr (2, [.int 0, .int 0, .int 0, .int 0, .int 0, .int 0, .ref a_first, .ref a_now, .ref a_lawPlace, .ref a_lawOther, .ref a_lawEach, .ref a_lawFrom, .ref a_foes, .ref a_suitTable, .ref a_acts])), (a_foes, .inl (cyI, 7, .inl (fun _ => 0))), (a_suitTable, .inl (cyI, 49, .inl (fun _ => 0)))] H := by rw [hHe]; exact hP
  have hS : va_S A s.heap H [] := by rw [hHe]; exact hS
  refine cv_heap hHe ?_
  refine lv_aload_n hx hb dX2_clear_0 rfl (lv_at hl 0 rfl) ?_
  refine lv_iconst (v := 0) hx hb dX2_clear_1 (by decide) ?_
  refine va_put (D := (dC, dI)) (ci := 2) (v := .int 0) (ty := .int) (C := RX2) (T := TX2) (N := 15) hx hb hts uinX2 tyX2 tyX2_ok nmX2 hown hK hP hD hS 0 rfl rfl 0 (by decide) (hts _ wd_1_77) (fun _ h9 => h9) rfl (by decide +kernel) rfl rfl (Nat.le_of_ble_eq_true rfl) dX2_clear_2 (fun H locs hP hD hS => ?_)
  have hP : va_P (dC, dI) vwCl [(h0, .inr (2, [.int 0, .int 0, .int 0, .int 0, .int 0, .int 0, .ref a_first, .ref a_now, .ref a_lawPlace, .ref a_lawOther, .ref a_lawEach, .ref a_lawFrom, .ref a_foes, .ref a_suitTable, .ref a_acts])), (a_foes, .inl (cyI, 7, .inl (fun _ => 0))), (a_suitTable, .inl (cyI, 49, .inl (fun _ => 0)))] H := hP
  have hD : va_D A [(h0, .inr (2, [.int 0, .int 0, .int 0, .int 0, .int 0, .int 0, .ref a_first, .ref a_now, .ref a_lawPlace, .ref a_lawOther, .ref a_lawEach, .ref a_lawFrom, .ref a_foes, .ref a_suitTable, .ref a_acts])), (a_foes, .inl (cyI, 7, .inl (fun _ => 0))), (a_suitTable, .inl (cyI, 49, .inl (fun _ => 0)))] := hD
  refine lv_aload_n hx hb dX2_clear_5 rfl (lv_at hl 0 rfl) ?_
  refine lv_iconst (v := 0) hx hb dX2_clear_6 (by decide) ?_
  refine va_put (D := (dC, dI)) (ci := 2) (v := .int 0) (ty := .int) (C := RX2) (T := TX2) (N := 15) hx hb hts uinX2 tyX2 tyX2_ok nmX2 hown hK hP hD hS 0 rfl rfl 1 (by decide) (hts _ wd_1_86) (fun _ h9 => h9) rfl (by decide +kernel) rfl rfl (Nat.le_of_ble_eq_true rfl) dX2_clear_7 (fun H locs hP hD hS => ?_)
  have hP : va_P (dC, dI) vwCl [(h0, .inr (2, [.int 0, .int 0, .int 0, .int 0, .int 0, .int 0, .ref a_first, .ref a_now, .ref a_lawPlace, .ref a_lawOther, .ref a_lawEach, .ref a_lawFrom, .ref a_foes, .ref a_suitTable, .ref a_acts])), (a_foes, .inl (cyI, 7, .inl (fun _ => 0))), (a_suitTable, .inl (cyI, 49, .inl (fun _ => 0)))] H := hP
  have hD : va_D A [(h0, .inr (2, [.int 0, .int 0, .int 0, .int 0, .int 0, .int 0, .ref a_first, .ref a_now, .ref a_lawPlace, .ref a_lawOther, .ref a_lawEach, .ref a_lawFrom, .ref a_foes, .ref a_suitTable, .ref a_acts])), (a_foes, .inl (cyI, 7, .inl (fun _ => 0))), (a_suitTable, .inl (cyI, 49, .inl (fun _ => 0)))] := hD
  refine lv_aload_n hx hb dX2_clear_10 rfl (lv_at hl 0 rfl) ?_
  refine lv_iconst (v := 0) hx hb dX2_clear_11 (by decide) ?_
  refine va_put (D := (dC, dI)) (ci := 2) (v := .int 0) (ty := .int) (C := RX2) (T := TX2) (N := 15) hx hb hts uinX2 tyX2 tyX2_ok nmX2 hown hK hP hD hS 0 rfl rfl 2 (by decide) (hts _ wd_1_89) (fun _ h9 => h9) rfl (by decide +kernel) rfl rfl (Nat.le_of_ble_eq_true rfl) dX2_clear_12 (fun H locs hP hD hS => ?_)
  have hP : va_P (dC, dI) vwCl [(h0, .inr (2, [.int 0, .int 0, .int 0, .int 0, .int 0, .int 0, .ref a_first, .ref a_now, .ref a_lawPlace, .ref a_lawOther, .ref a_lawEach, .ref a_lawFrom, .ref a_foes, .ref a_suitTable, .ref a_acts])), (a_foes, .inl (cyI, 7, .inl (fun _ => 0))), (a_suitTable, .inl (cyI, 49, .inl (fun _ => 0)))] H := hP
  have hD : va_D A [(h0, .inr (2, [.int 0, .int 0, .int 0, .int 0, .int 0, .int 0, .ref a_first, .ref a_now, .ref a_lawPlace, .ref a_lawOther, .ref a_lawEach, .ref a_lawFrom, .ref a_foes, .ref a_suitTable, .ref a_acts])), (a_foes, .inl (cyI, 7, .inl (fun _ => 0))), (a_suitTable, .inl (cyI, 49, .inl (fun _ => 0)))] := hD
  refine lv_aload_n hx hb dX2_clear_15 rfl (lv_at hl 0 rfl) ?_
  refine lv_iconst (v := 0) hx hb dX2_clear_16 (by decide) ?_
  refine va_put (D := (dC, dI)) (ci := 2) (v := .int 0) (ty := .int) (C := RX2) (T := TX2) (N := 15) hx hb hts uinX2 tyX2 tyX2_ok nmX2 hown hK hP hD hS 0 rfl rfl 3 (by decide) (hts _ wd_1_92) (fun _ h9 => h9) rfl (by decide +kernel) rfl rfl (Nat.le_of_ble_eq_true rfl) dX2_clear_17 (fun H locs hP hD hS => ?_)
  have hP : va_P (dC, dI) vwCl [(h0, .inr (2, [.int 0, .int 0, .int 0, .int 0, .int 0, .int 0, .ref a_first, .ref a_now, .ref a_lawPlace, .ref a_lawOther, .ref a_lawEach, .ref a_lawFrom, .ref a_foes, .ref a_suitTable, .ref a_acts])), (a_foes, .inl (cyI, 7, .inl (fun _ => 0))), (a_suitTable, .inl (cyI, 49, .inl (fun _ => 0)))] H := hP
  have hD : va_D A [(h0, .inr (2, [.int 0, .int 0, .int 0, .int 0, .int 0, .int 0, .ref a_first, .ref a_now, .ref a_lawPlace, .ref a_lawOther, .ref a_lawEach, .ref a_lawFrom, .ref a_foes, .ref a_suitTable, .ref a_acts])), (a_foes, .inl (cyI, 7, .inl (fun _ => 0))), (a_suitTable, .inl (cyI, 49, .inl (fun _ => 0)))] := hD
  refine lv_aload_n hx hb dX2_clear_20 rfl (lv_at hl 0 rfl) ?_
  refine lv_iconst (v := 0) hx hb dX2_clear_21 (by decide) ?_
  refine va_put (D := (dC, dI)) (ci := 2) (v := .int 0) (ty := .int) (C := RX2) (T := TX2) (N := 15) hx hb hts uinX2 tyX2 tyX2_ok nmX2 hown hK hP hD hS 0 rfl rfl 4 (by decide) (hts _ wd_1_95) (fun _ h9 => h9) rfl (by decide +kernel) rfl rfl (Nat.le_of_ble_eq_true rfl) dX2_clear_22 (fun H locs hP hD hS => ?_)
  have hP : va_P (dC, dI) vwCl [(h0, .inr (2, [.int 0, .int 0, .int 0, .int 0, .int 0, .int 0, .ref a_first, .ref a_now, .ref a_lawPlace, .ref a_lawOther, .ref a_lawEach, .ref a_lawFrom, .ref a_foes, .ref a_suitTable, .ref a_acts])), (a_foes, .inl (cyI, 7, .inl (fun _ => 0))), (a_suitTable, .inl (cyI, 49, .inl (fun _ => 0)))] H := hP
  have hD : va_D A [(h0, .inr (2, [.int 0, .int 0, .int 0, .int 0, .int 0, .int 0, .ref a_first, .ref a_now, .ref a_lawPlace, .ref a_lawOther, .ref a_lawEach, .ref a_lawFrom, .ref a_foes, .ref a_suitTable, .ref a_acts])), (a_foes, .inl (cyI, 7, .inl (fun _ => 0))), (a_suitTable, .inl (cyI, 49, .inl (fun _ => 0)))] := hD
  refine lv_aload_n hx hb dX2_clear_25 rfl (lv_at hl 0 rfl) ?_
  refine lv_iconst (v := 0) hx hb dX2_clear_26 (by decide) ?_
  refine va_put (D := (dC, dI)) (ci := 2) (v := .int 0) (ty := .int) (C := RX2) (T := TX2) (N := 15) hx hb hts uinX2 tyX2 tyX2_ok nmX2 hown hK hP hD hS 0 rfl rfl 5 (by decide) (hts _ wd_1_97) (fun _ h9 => h9) rfl (by decide +kernel) rfl rfl (Nat.le_of_ble_eq_true rfl) dX2_clear_27 (fun H locs hP hD hS => ?_)
  have hP : va_P (dC, dI) vwCl [(h0, .inr (2, [.int 0, .int 0, .int 0, .int 0, .int 0, .int 0, .ref a_first, .ref a_now, .ref a_lawPlace, .ref a_lawOther, .ref a_lawEach, .ref a_lawFrom, .ref a_foes, .ref a_suitTable, .ref a_acts])), (a_foes, .inl (cyI, 7, .inl (fun _ => 0))), (a_suitTable, .inl (cyI, 49, .inl (fun _ => 0)))] H := hP
  have hD : va_D A [(h0, .inr (2, [.int 0, .int 0, .int 0, .int 0, .int 0, .int 0, .ref a_first, .ref a_now, .ref a_lawPlace, .ref a_lawOther, .ref a_lawEach, .ref a_lawFrom, .ref a_foes, .ref a_suitTable, .ref a_acts])), (a_foes, .inl (cyI, 7, .inl (fun _ => 0))), (a_suitTable, .inl (cyI, 49, .inl (fun _ => 0)))] := hD
  refine lv_aload_n hx hb dX2_clear_30 rfl (lv_at hl 0 rfl) ?_
  refine va_get (D := (dC, dI)) (ci := 2) (v := .ref a_foes) (C := RX2) (T := TX2) (N := 15) hx hb hts uinX2 hown hK hP 0 rfl rfl 12 (by decide) (hts _ wd_1_119) (fun _ h9 => h9) rfl dX2_clear_31 ?_
  refine lv_iconst (v := 0) hx hb dX2_clear_34 (by decide) ?_
  have hPc := hP.sub (ws' := [(a_foes, .inl (cyI, 7, .inl (fun _ => 0)))]) [1] rfl
  have hKc := hK.sub (tys' := [(cyI, .int), (cyB, .byte), (cyJ, .long), (cyZ, .boolean), (cyH, .object RX2), (cyN, .array .long)]) [0, 1, 2, 3, 4, 5] rfl
  have hDc := hD.sub (ws' := [(a_foes, .inl (cyI, 7, .inl (fun _ => 0)))]) [1] (by decide) rfl
  have hFc := va_free (wc := [(a_foes, .inl (cyI, 7, .inl (fun _ => 0)))]) hD hS hA [1] rfl
  refine va_callv (va_runS (As := [.ref a_foes, .int 0]) (rest := []) ⟨hx, hb, hml, hown, hts⟩ (c_fill7 l dC dI cyI cyB cyJ cyZ cyH cyN H.size a_foes (fun _ => 0) 0) (va_cwS 2 hts (gdS wd_2_139 wd_2_140 wd_1_12 wd_2_141) rfl rfl rfl (by decide +kernel) ⟨Nat.le_of_ble_eq_true rfl, Nat.le_of_ble_eq_true rfl⟩) ⟨fun a U g mk q => by obtain ⟨q0, q1, qP, qK, qD⟩ := q; exact ⟨q0, q1, qP, va_K.moved (u := U) (U := U.calling g mk a) (Vm.Alike.refl U.vm) qK, qD⟩, fun U hU hW => ⟨rfl, by rw [hU], by rw [hU]; exact hPc, va_K.moved hW.alike hKc, hDc.weaken (fun _ _ _ _ => trivial)⟩⟩ rfl rfl hl.1 rfl (lv_room (Nat.le_of_ble_eq_true rfl)) dX2_clear_35 ⟨Nat.le_of_ble_eq_true rfl, Nat.le_of_ble_eq_true rfl⟩) hS (fun q _ h => hFc q h) hFc (fun  u t H1 locs ht hvm hw hB hz1 hk1 hS => ?_)
  obtain ⟨g_1, hP1, hD1⟩ := hB
  rw [ht] at hP1
  obtain ⟨hP, hD⟩ := va_join (wr := [(h0, .inr (2, [.int 0, .int 0, .int 0, .int 0, .int 0, .int 0, .ref a_first, .ref a_now, .ref a_lawPlace, .ref a_lawOther, .ref a_lawEach, .ref a_lawFrom, .ref a_foes, .ref a_suitTable, .ref a_acts])), (a_suitTable, .inl (cyI, 49, .inl (fun _ => 0)))]) (w1 := [(a_foes, .inl (cyI, 7, .inl g_1))]) hP hD [1] [0, 2] rfl rfl (by decide) (by decide) hk1 hFc hP1 hD1
  generalize H1 = H at hP hS ⊢
  have hP : va_P (dC, dI) vwCl [(h0, .inr (2, [.int 0, .int 0, .int 0, .int 0, .int 0, .int 0, .ref a_first, .ref a_now, .ref a_lawPlace, .ref a_lawOther, .ref a_lawEach, .ref a_lawFrom, .ref a_foes, .ref a_suitTable, .ref a_acts])), (a_suitTable, .inl (cyI, 49, .inl (fun _ => 0))), (a_foes, .inl (cyI, 7, .inl g_1))] H := hP
  have hD : va_D A [(h0, .inr (2, [.int 0, .int 0, .int 0, .int 0, .int 0, .int 0, .ref a_first, .ref a_now, .ref a_lawPlace, .ref a_lawOther, .ref a_lawEach, .ref a_lawFrom, .ref a_foes, .ref a_suitTable, .ref a_acts])), (a_suitTable, .inl (cyI, 49, .inl (fun _ => 0))), (a_foes, .inl (cyI, 7, .inl g_1))] := hD
  refine lv_aload_n hx hb dX2_clear_38 rfl (lv_at hl 0 rfl) ?_
  refine va_get (D := (dC, dI)) (ci := 2) (v := .ref a_suitTable) (C := RX2) (T := TX2) (N := 15) hx hb hts uinX2 hown hK hP 0 rfl rfl 13 (by decide) (hts _ wd_1_122) (fun _ h9 => h9) rfl dX2_clear_39 ?_
  refine lv_iconst (v := 0) hx hb dX2_clear_42 (by decide) ?_
  have hPc := hP.sub (ws' := [(a_suitTable, .inl (cyI, 49, .inl (fun _ => 0)))]) [1] rfl
  have hKc := hK.sub (tys' := [(cyI, .int), (cyB, .byte), (cyJ, .long), (cyZ, .boolean), (cyH, .object RX2), (cyN, .array .long)]) [0, 1, 2, 3, 4, 5] rfl
  have hDc := hD.sub (ws' := [(a_suitTable, .inl (cyI, 49, .inl (fun _ => 0)))]) [1] (by decide) rfl
  have hFc := va_free (wc := [(a_suitTable, .inl (cyI, 49, .inl (fun _ => 0)))]) hD hS hA [1] rfl
  refine va_callv (va_runS (As := [.ref a_suitTable, .int 0]) (rest := []) ⟨hx, hb, hml, hown, hts⟩ (c_fill49 l dC dI cyI cyB cyJ cyZ cyH cyN H.size a_suitTable (fun _ => 0) 0) (va_cwS 2 hts (gdS wd_2_139 wd_2_140 wd_1_12 wd_2_141) rfl rfl rfl (by decide +kernel) ⟨Nat.le_of_ble_eq_true rfl, Nat.le_of_ble_eq_true rfl⟩) ⟨fun a U g mk q => by obtain ⟨q0, q1, qP, qK, qD⟩ := q; exact ⟨q0, q1, qP, va_K.moved (u := U) (U := U.calling g mk a) (Vm.Alike.refl U.vm) qK, qD⟩, fun U hU hW => ⟨rfl, by rw [hU], by rw [hU]; exact hPc, va_K.moved hW.alike hKc, hDc.weaken (fun _ _ _ _ => trivial)⟩⟩ rfl rfl hl.1 rfl (lv_room (Nat.le_of_ble_eq_true rfl)) dX2_clear_43 ⟨Nat.le_of_ble_eq_true rfl, Nat.le_of_ble_eq_true rfl⟩) hS (fun q _ h => hFc q h) hFc (fun  u t H1 locs ht hvm hw hB hz1 hk1 hS => ?_)
  obtain ⟨g_2, hP1, hD1⟩ := hB
  rw [ht] at hP1
  obtain ⟨hP, hD⟩ := va_join (wr := [(h0, .inr (2, [.int 0, .int 0, .int 0, .int 0, .int 0, .int 0, .ref a_first, .ref a_now, .ref a_lawPlace, .ref a_lawOther, .ref a_lawEach, .ref a_lawFrom, .ref a_foes, .ref a_suitTable, .ref a_acts])), (a_foes, .inl (cyI, 7, .inl g_1))]) (w1 := [(a_suitTable, .inl (cyI, 49, .inl g_2))]) hP hD [1] [0, 2] rfl rfl (by decide) (by decide) hk1 hFc hP1 hD1
  generalize H1 = H at hP hS ⊢
  have hP : va_P (dC, dI) vwCl [(h0, .inr (2, [.int 0, .int 0, .int 0, .int 0, .int 0, .int 0, .ref a_first, .ref a_now, .ref a_lawPlace, .ref a_lawOther, .ref a_lawEach, .ref a_lawFrom, .ref a_foes, .ref a_suitTable, .ref a_acts])), (a_foes, .inl (cyI, 7, .inl g_1)), (a_suitTable, .inl (cyI, 49, .inl g_2))] H := hP
  have hD : va_D A [(h0, .inr (2, [.int 0, .int 0, .int 0, .int 0, .int 0, .int 0, .ref a_first, .ref a_now, .ref a_lawPlace, .ref a_lawOther, .ref a_lawEach, .ref a_lawFrom, .ref a_foes, .ref a_suitTable, .ref a_acts])), (a_foes, .inl (cyI, 7, .inl g_1)), (a_suitTable, .inl (cyI, 49, .inl g_2))] := hD
  have hP9 := hP.sub (ws' := [(h0, .inr (2, [.int 0, .int 0, .int 0, .int 0, .int 0, .int 0, .ref a_first, .ref a_now, .ref a_lawPlace, .ref a_lawOther, .ref a_lawEach, .ref a_lawFrom, .ref a_foes, .ref a_suitTable, .ref a_acts])), (a_foes, .inl (cyI, 7, .inl g_1)), (a_suitTable, .inl (cyI, 49, .inl g_2))]) [0, 1, 2] rfl
  have hD9 := hD.sub (ws' := [(h0, .inr (2, [.int 0, .int 0, .int 0, .int 0, .int 0, .int 0, .ref a_first, .ref a_now, .ref a_lawPlace, .ref a_lawOther, .ref a_lawEach, .ref a_lawFrom, .ref a_foes, .ref a_suitTable, .ref a_acts])), (a_foes, .inl (cyI, 7, .inl g_1)), (a_suitTable, .inl (cyI, 49, .inl g_2))]) [0, 1, 2] (by decide) rfl
  exact W.vret hx hb hr (fun t ht hW => ⟨⟨(), rfl, trivial, ⟨g_1, g_2, by rw [ht]; exact hP9, hD9⟩⟩, hS.F ht⟩) hS.2.2 dX2_clear_46

/- X10_readInto -/
set_option maxHeartbeats 4000000 in
set_option maxRecDepth 100000 in
theorem c_readInto (l : Launch) (dC : Nat → ClassId) (dI : Nat → Nat → Nat) (cyI cyB cyJ cyZ cyH cyN : ClassId) (sz : Nat) (t0 b0 h0 a_first a_now a_lawPlace a_lawOther a_lawEach a_lawFrom a_foes a_suitTable a_acts : Nat) : Met l yX10_readInto (wk yX10_readInto cX10_readInto 3 none) ({ frames := 3, cells := 0, slots := 0, locals := 103 }) (va_Pc [.ref t0, .ref h0] (fun U => U.heap.size = sz ∧ va_P (dC, dI) vwCl [(t0, .inr (9, [.ref b0, .int 0, .int 0, .int (-1), .int 0, .int 0, .int 0, .int 0, .int 0, .int 0])), (h0, .inr (2, [.int 0, .int 0, .int 0, .int 0, .int 0, .int 0, .ref a_first, .ref a_now, .ref a_lawPlace, .ref a_lawOther, .ref a_lawEach, .ref a_lawFrom, .ref a_foes, .ref a_suitTable, .ref a_acts])), (a_foes, .inl (cyI, 7, .inl (fun _ => 0))), (a_suitTable, .inl (cyI, 49, .inl (fun _ => 0)))] U.heap ∧ va_K (dC, dI) vwCl [(cyI, .int), (cyB, .byte), (cyJ, .long), (cyZ, .boolean), (cyH, .object RX2), (cyN, .array .long)] U ∧ va_D (fun _ => True) [(t0, .inr (9, [.ref b0, .int 0, .int 0, .int (-1), .int 0, .int 0, .int 0, .int 0, .int 0, .int 0])), (h0, .inr (2, [.int 0, .int 0, .int 0, .int 0, .int 0, .int 0, .ref a_first, .ref a_now, .ref a_lawPlace, .ref a_lawOther, .ref a_lawEach, .ref a_lawFrom, .ref a_foes, .ref a_suitTable, .ref a_acts])), (a_foes, .inl (cyI, 7, .inl (fun _ => 0))), (a_suitTable, .inl (cyI, 49, .inl (fun _ => 0)))])) (va_Qv (fun _ : Unit => True) (fun (_ : Unit) (t : State) => ∃ g0 : Nat → Int32, ∃ g1 : Nat → Int32, va_P (dC, dI) vwCl [(t0, .inr (9, [.ref b0, .int 0, .int 0, .int (-1), .int 0, .int 0, .int 0, .int 0, .int 0, .int 0])), (h0, .inr (2, [.int 0, .int 0, .int 2, .int 0, .int 0, .int 0, .ref a_first, .ref a_now, .ref a_lawPlace, .ref a_lawOther, .ref a_lawEach, .ref a_lawFrom, .ref a_foes, .ref a_suitTable, .ref a_acts])), (a_foes, .inl (cyI, 7, .inl g0)), (a_suitTable, .inl (cyI, 49, .inl g1))] t.heap ∧ va_D (va_A [(t0, .inr (9, [.ref b0, .int 0, .int 0, .int (-1), .int 0, .int 0, .int 0, .int 0, .int 0, .int 0])), (h0, .inr (2, [.int 0, .int 0, .int 0, .int 0, .int 0, .int 0, .ref a_first, .ref a_now, .ref a_lawPlace, .ref a_lawOther, .ref a_lawEach, .ref a_lawFrom, .ref a_foes, .ref a_suitTable, .ref a_acts])), (a_foes, .inl (cyI, 7, .inl (fun _ => 0))), (a_suitTable, .inl (cyI, 49, .inl (fun _ => 0)))] sz) [(t0, .inr (9, [.ref b0, .int 0, .int 0, .int (-1), .int 0, .int 0, .int 0, .int 0, .int 0, .int 0])), (h0, .inr (2, [.int 0, .int 0, .int 2, .int 0, .int 0, .int 0, .ref a_first, .ref a_now, .ref a_lawPlace, .ref a_lawOther, .ref a_lawEach, .ref a_lawFrom, .ref a_foes, .ref a_suitTable, .ref a_acts])), (a_foes, .inl (cyI, 7, .inl g0)), (a_suitTable, .inl (cyI, 49, .inl g1))]) (va_A [(t0, .inr (9, [.ref b0, .int 0, .int 0, .int (-1), .int 0, .int 0, .int 0, .int 0, .int 0, .int 0])), (h0, .inr (2, [.int 0, .int 0, .int 0, .int 0, .int 0, .int 0, .ref a_first, .ref a_now, .ref a_lawPlace, .ref a_lawOther, .ref a_lawEach, .ref a_lawFrom, .ref a_foes, .ref a_suitTable, .ref a_acts])), (a_foes, .inl (cyI, 7, .inl (fun _ => 0))), (a_suitTable, .inl (cyI, 49, .inl (fun _ => 0)))] sz)) 0 0 (va_A [(t0, .inr (9, [.ref b0, .int 0, .int 0, .int (-1), .int 0, .int 0, .int 0, .int 0, .int 0, .int 0])), (h0, .inr (2, [.int 0, .int 0, .int 0, .int 0, .int 0, .int 0, .ref a_first, .ref a_now, .ref a_lawPlace, .ref a_lawOther, .ref a_lawEach, .ref a_lawFrom, .ref a_foes, .ref a_suitTable, .ref a_acts])), (a_foes, .inl (cyI, 7, .inl (fun _ => 0))), (a_suitTable, .inl (cyI, 49, .inl (fun _ => 0)))] sz) := by
  refine Met.ofW (cc := cX10_readInto) (maxL := 3) (ret := none) (by decide) rfl ?_
  intro p e s m args below meth c s₁ B hml hv
  obtain ⟨rfl, hsz, hP, hK, hD0⟩ := hv
  have hx := B.exec
  have hb := B.bytes
  have hr := B.returns
  have hts : ∀ w ∈ uU, w.before ([.ref t0, .ref h0] : List Value).toArray s = true := fun w h => atoms_spec (ws := wk yX10_readInto cX10_readInto 3 none) B.pre w (List.mem_cons_of_mem _ h)
  have hown : s.vm.findClass RX10 = some m.cls := findClass_of_methodNamed B.named
  have hlocks := B.notSynchronized
  subst hsz
  have hD := hD0.self (sz := s.heap.size)
  generalize hAe : va_A [(t0, .inr (9, [.ref b0, .int 0, .int 0, .int (-1), .int 0, .int 0, .int 0, .int 0, .int 0, .int 0])), (h0, .inr (2, [.int 0, .int 0, .int 0, .int 0, .int 0, .int 0, .ref a_first, .ref a_now, .ref a_lawPlace, .ref a_lawOther, .ref a_lawEach, .ref a_lawFrom, .ref a_foes, .ref a_suitTable, .ref a_acts])), (a_foes, .inl (cyI, 7, .inl (fun _ => 0))), (a_suitTable, .inl (cyI, 49, .inl (fun _ => 0)))] s.heap.size = A at hD ⊢
  have hA : ∀ q : Nat, s.heap.size ≤ q → A q := fun q h => by rw [← hAe]; exact Or.inr h
  have hS : va_S A s.heap s.heap [] := va_S.rf
  have hP : va_P (dC, dI) vwCl [(t0, .inr (9, [.ref b0, .int 0, .int 0, .int (-1), .int 0, .int 0, .int 0, .int 0, .int 0, .int 0])), (h0, .inr (2, [.int 0, .int 0, .int 0, .int 0, .int 0, .int 0, .ref a_first, .ref a_now, .ref a_lawPlace, .ref a_lawOther, .ref a_lawEach, .ref a_lawFrom, .ref a_foes, .ref a_suitTable, .ref a_acts])), (a_foes, .inl (cyI, 7, .inl (fun _ => 0))), (a_suitTable, .inl (cyI, 49, .inl (fun _ => 0)))] s.heap := hP
  have hl := lv_entry ([.ref t0, .ref h0]) (n := 3) (Nat.le_of_ble_eq_true rfl)
  rw [lg_entry_eq]
  generalize (lg_sl ([.ref t0, .ref h0]) ++ List.replicate (3 - (lg_sl ([.ref t0, .ref h0])).length) Slot.unset).toArray = ls at hl ⊢
  have hl : lv_has ls 3 [(0, .ref t0), (1, .ref h0)] := hl
  obtain ⟨H, hHe⟩ : ∃ H, H = s.heap := ⟨_, rfl⟩
  have hP : va_P (dC, dI) vwCl [(t0, .inr (9, [.ref b0, .int 0, .int 0, .int (-1), .int 0, .int 0, .int 0, .int 0, .int 0, .int 0])), (h0, .inr (2, [.int 0, .int 0, .int 0, .int 0, .int 0, .int 0, .ref a_first, .ref a_now, .ref a_lawPlace, .ref a_lawOther, .ref a_lawEach, .ref a_lawFrom, .ref a_foes, .ref a_suitTable, .ref a_acts])), (a_foes, .inl (cyI, 7, .inl (fun _ => 0))), (a_suitTable, .inl (cyI, 49, .inl (fun _ => 0)))] H := by rw [hHe]; exact hP
  have hS : va_S A s.heap H [] := by rw [hHe]; exact hS
  refine cv_heap hHe ?_
  refine lv_aload_n hx hb dX10_readInto_0 rfl (lv_at hl 0 rfl) ?_
  refine lv_iconst (v := 0) hx hb dX10_readInto_1 (by decide) ?_
  refine va_put (D := (dC, dI)) (ci := 9) (v := .int 0) (ty := .int) (C := RX10) (T := TX10) (N := 10) hx hb hts uinX10 tyX10 tyX10_ok nmX10 hown hK hP hD hS 0 rfl rfl 2 (by decide) (hts _ wd_1_39) (fun _ h9 => h9) rfl (by decide +kernel) rfl rfl (Nat.le_of_ble_eq_true rfl) dX10_readInto_2 (fun H locs hP hD hS => ?_)
  have hP : va_P (dC, dI) vwCl [(t0, .inr (9, [.ref b0, .int 0, .int 0, .int (-1), .int 0, .int 0, .int 0, .int 0, .int 0, .int 0])), (h0, .inr (2, [.int 0, .int 0, .int 0, .int 0, .int 0, .int 0, .ref a_first, .ref a_now, .ref a_lawPlace, .ref a_lawOther, .ref a_lawEach, .ref a_lawFrom, .ref a_foes, .ref a_suitTable, .ref a_acts])), (a_foes, .inl (cyI, 7, .inl (fun _ => 0))), (a_suitTable, .inl (cyI, 49, .inl (fun _ => 0)))] H := hP
  have hD : va_D A [(t0, .inr (9, [.ref b0, .int 0, .int 0, .int (-1), .int 0, .int 0, .int 0, .int 0, .int 0, .int 0])), (h0, .inr (2, [.int 0, .int 0, .int 0, .int 0, .int 0, .int 0, .ref a_first, .ref a_now, .ref a_lawPlace, .ref a_lawOther, .ref a_lawEach, .ref a_lawFrom, .ref a_foes, .ref a_suitTable, .ref a_acts])), (a_foes, .inl (cyI, 7, .inl (fun _ => 0))), (a_suitTable, .inl (cyI, 49, .inl (fun _ => 0)))] := hD
  refine lv_aload_n hx hb dX10_readInto_5 rfl (lv_at hl 0 rfl) ?_
  refine lv_iconst (v := (-1)) hx hb dX10_readInto_6 (by decide) ?_
  refine va_put (D := (dC, dI)) (ci := 9) (v := .int (-1)) (ty := .int) (C := RX10) (T := TX10) (N := 10) hx hb hts uinX10 tyX10 tyX10_ok nmX10 hown hK hP hD hS 0 rfl rfl 3 (by decide) (hts _ wd_1_41) (fun _ h9 => h9) rfl (by decide +kernel) rfl rfl (Nat.le_of_ble_eq_true rfl) dX10_readInto_7 (fun H locs hP hD hS => ?_)
  have hP : va_P (dC, dI) vwCl [(t0, .inr (9, [.ref b0, .int 0, .int 0, .int (-1), .int 0, .int 0, .int 0, .int 0, .int 0, .int 0])), (h0, .inr (2, [.int 0, .int 0, .int 0, .int 0, .int 0, .int 0, .ref a_first, .ref a_now, .ref a_lawPlace, .ref a_lawOther, .ref a_lawEach, .ref a_lawFrom, .ref a_foes, .ref a_suitTable, .ref a_acts])), (a_foes, .inl (cyI, 7, .inl (fun _ => 0))), (a_suitTable, .inl (cyI, 49, .inl (fun _ => 0)))] H := hP
  have hD : va_D A [(t0, .inr (9, [.ref b0, .int 0, .int 0, .int (-1), .int 0, .int 0, .int 0, .int 0, .int 0, .int 0])), (h0, .inr (2, [.int 0, .int 0, .int 0, .int 0, .int 0, .int 0, .ref a_first, .ref a_now, .ref a_lawPlace, .ref a_lawOther, .ref a_lawEach, .ref a_lawFrom, .ref a_foes, .ref a_suitTable, .ref a_acts])), (a_foes, .inl (cyI, 7, .inl (fun _ => 0))), (a_suitTable, .inl (cyI, 49, .inl (fun _ => 0)))] := hD
  refine lv_aload_n hx hb dX10_readInto_10 rfl (lv_at hl 0 rfl) ?_
  refine lv_iconst (v := 0) hx hb dX10_readInto_11 (by decide) ?_
  refine va_put (D := (dC, dI)) (ci := 9) (v := .int 0) (ty := .int) (C := RX10) (T := TX10) (N := 10) hx hb hts uinX10 tyX10 tyX10_ok nmX10 hown hK hP hD hS 0 rfl rfl 4 (by decide) (hts _ wd_1_43) (fun _ h9 => h9) rfl (by decide +kernel) rfl rfl (Nat.le_of_ble_eq_true rfl) dX10_readInto_12 (fun H locs hP hD hS => ?_)
  have hP : va_P (dC, dI) vwCl [(t0, .inr (9, [.ref b0, .int 0, .int 0, .int (-1), .int 0, .int 0, .int 0, .int 0, .int 0, .int 0])), (h0, .inr (2, [.int 0, .int 0, .int 0, .int 0, .int 0, .int 0, .ref a_first, .ref a_now, .ref a_lawPlace, .ref a_lawOther, .ref a_lawEach, .ref a_lawFrom, .ref a_foes, .ref a_suitTable, .ref a_acts])), (a_foes, .inl (cyI, 7, .inl (fun _ => 0))), (a_suitTable, .inl (cyI, 49, .inl (fun _ => 0)))] H := hP
  have hD : va_D A [(t0, .inr (9, [.ref b0, .int 0, .int 0, .int (-1), .int 0, .int 0, .int 0, .int 0, .int 0, .int 0])), (h0, .inr (2, [.int 0, .int 0, .int 0, .int 0, .int 0, .int 0, .ref a_first, .ref a_now, .ref a_lawPlace, .ref a_lawOther, .ref a_lawEach, .ref a_lawFrom, .ref a_foes, .ref a_suitTable, .ref a_acts])), (a_foes, .inl (cyI, 7, .inl (fun _ => 0))), (a_suitTable, .inl (cyI, 49, .inl (fun _ => 0)))] := hD
  refine lv_aload_n hx hb dX10_readInto_15 rfl (lv_at hl 1 rfl) ?_
  have hPc := hP.sub (ws' := [(h0, .inr (2, [.int 0, .int 0, .int 0, .int 0, .int 0, .int 0, .ref a_first, .ref a_now, .ref a_lawPlace, .ref a_lawOther, .ref a_lawEach, .ref a_lawFrom, .ref a_foes, .ref a_suitTable, .ref a_acts])), (a_foes, .inl (cyI, 7, .inl (fun _ => 0))), (a_suitTable, .inl (cyI, 49, .inl (fun _ => 0)))]) [1, 2, 3] rfl
  have hKc := hK.sub (tys' := [(cyI, .int), (cyB, .byte), (cyJ, .long), (cyZ, .boolean), (cyH, .object RX2), (cyN, .array .long)]) [0, 1, 2, 3, 4, 5] rfl
  have hDc := hD.sub (ws' := [(h0, .inr (2, [.int 0, .int 0, .int 0, .int 0, .int 0, .int 0, .ref a_first, .ref a_now, .ref a_lawPlace, .ref a_lawOther, .ref a_lawEach, .ref a_lawFrom, .ref a_foes, .ref a_suitTable, .ref a_acts])), (a_foes, .inl (cyI, 7, .inl (fun _ => 0))), (a_suitTable, .inl (cyI, 49, .inl (fun _ => 0)))]) [1, 2, 3] (by decide) rfl
  have hFc := va_free (wc := [(h0, .inr (2, [.int 0, .int 0, .int 0, .int 0, .int 0, .int 0, .ref a_first, .ref a_now, .ref a_lawPlace, .ref a_lawOther, .ref a_lawEach, .ref a_lawFrom, .ref a_foes, .ref a_suitTable, .ref a_acts])), (a_foes, .inl (cyI, 7, .inl (fun _ => 0))), (a_suitTable, .inl (cyI, 49, .inl (fun _ => 0)))]) hD hS hA [1, 2, 3] rfl
  refine va_callv (va_runV (As := []) (rest := []) ⟨hx, hb, hml, hown, hts⟩ (c_clear l dC dI cyI cyB cyJ cyZ cyH cyN H.size h0 a_first a_now a_lawPlace a_lawOther a_lawEach a_lawFrom a_foes a_suitTable a_acts) (cwV 0 hts (gdV wd_2_135 wd_2_136 wd_2_137 wd_1_3 wd_2_138) rfl rfl rfl (by decide +kernel) ⟨Nat.le_of_ble_eq_true rfl, Nat.le_of_ble_eq_true rfl⟩) ⟨fun a U g mk q => by obtain ⟨q0, q1, qP, qK, qD⟩ := q; exact ⟨q0, q1, qP, va_K.moved (u := U) (U := U.calling g mk a) (Vm.Alike.refl U.vm) qK, qD⟩, va_recv hKc hPc (ci := 2) (q0 := 0) rfl rfl, fun U hU hW => ⟨rfl, by rw [hU], by rw [hU]; exact hPc, va_K.moved hW.alike hKc, hDc.weaken (fun _ _ _ _ => trivial)⟩⟩ rfl rfl hl.1 rfl (lv_room (Nat.le_of_ble_eq_true rfl)) dX10_readInto_16 ⟨Nat.le_of_ble_eq_true rfl, Nat.le_of_ble_eq_true rfl⟩) hS (fun q _ h => hFc q h) hFc (fun  u t H1 locs ht hvm hw hB hz1 hk1 hS => ?_)
  obtain ⟨g0_1, g1_2, hP1, hD1⟩ := hB
  rw [ht] at hP1
  obtain ⟨hP, hD⟩ := va_join (wr := [(t0, .inr (9, [.ref b0, .int 0, .int 0, .int (-1), .int 0, .int 0, .int 0, .int 0, .int 0, .int 0]))]) (w1 := [(h0, .inr (2, [.int 0, .int 0, .int 0, .int 0, .int 0, .int 0, .ref a_first, .ref a_now, .ref a_lawPlace, .ref a_lawOther, .ref a_lawEach, .ref a_lawFrom, .ref a_foes, .ref a_suitTable, .ref a_acts])), (a_foes, .inl (cyI, 7, .inl g0_1)), (a_suitTable, .inl (cyI, 49, .inl g1_2))]) hP hD [1, 2, 3] [0] rfl rfl (by decide) (by decide) hk1 hFc hP1 hD1
  generalize H1 = H at hP hS ⊢
  have hP : va_P (dC, dI) vwCl [(t0, .inr (9, [.ref b0, .int 0, .int 0, .int (-1), .int 0, .int 0, .int 0, .int 0, .int 0, .int 0])), (h0, .inr (2, [.int 0, .int 0, .int 0, .int 0, .int 0, .int 0, .ref a_first, .ref a_now, .ref a_lawPlace, .ref a_lawOther, .ref a_lawEach, .ref a_lawFrom, .ref a_foes, .ref a_suitTable, .ref a_acts])), (a_foes, .inl (cyI, 7, .inl g0_1)), (a_suitTable, .inl (cyI, 49, .inl g1_2))] H := hP
  have hD : va_D A [(t0, .inr (9, [.ref b0, .int 0, .int 0, .int (-1), .int 0, .int 0, .int 0, .int 0, .int 0, .int 0])), (h0, .inr (2, [.int 0, .int 0, .int 0, .int 0, .int 0, .int 0, .ref a_first, .ref a_now, .ref a_lawPlace, .ref a_lawOther, .ref a_lawEach, .ref a_lawFrom, .ref a_foes, .ref a_suitTable, .ref a_acts])), (a_foes, .inl (cyI, 7, .inl g0_1)), (a_suitTable, .inl (cyI, 49, .inl g1_2))] := hD
  refine lv_aload_n hx hb dX10_readInto_19 rfl (lv_at hl 0 rfl) ?_
  have hPc := hP.sub (ws' := [(t0, .inr (9, [.ref b0, .int 0, .int 0, .int (-1), .int 0, .int 0, .int 0, .int 0, .int 0, .int 0]))]) [0] rfl
  have hKc := hK.sub (tys' := [(cyI, .int), (cyB, .byte), (cyJ, .long), (cyZ, .boolean), (cyH, .object RX2), (cyN, .array .long)]) [0, 1, 2, 3, 4, 5] rfl
  have hDc := hD.sub (ws' := [(t0, .inr (9, [.ref b0, .int 0, .int 0, .int (-1), .int 0, .int 0, .int 0, .int 0, .int 0, .int 0]))]) [0] (by decide) rfl
  have hFc := va_free (wc := [(t0, .inr (9, [.ref b0, .int 0, .int 0, .int (-1), .int 0, .int 0, .int 0, .int 0, .int 0, .int 0]))]) hD hS hA [0] rfl
  refine va_callv (va_runV (As := []) (rest := []) ⟨hx, hb, hml, hown, hts⟩ (c_readToken l dC dI cyI cyB cyJ cyZ cyH cyN H.size t0 b0) (cwV 0 hts (gdV wd_2_142 wd_2_144 wd_s1_0 wd_1_2 wd_2_145) rfl rfl rfl (by decide +kernel) ⟨Nat.le_of_ble_eq_true rfl, Nat.le_of_ble_eq_true rfl⟩) ⟨fun a U g mk q => by obtain ⟨q0, q1, qP, qK, qD⟩ := q; exact ⟨q0, q1, qP, va_K.moved (u := U) (U := U.calling g mk a) (Vm.Alike.refl U.vm) qK, qD⟩, va_recv hKc hPc (ci := 9) (q0 := 0) rfl rfl, fun U hU hW => ⟨rfl, by rw [hU], by rw [hU]; exact hPc, va_K.moved hW.alike hKc, hDc.weaken (fun _ _ _ _ => trivial)⟩⟩ rfl rfl hl.1 rfl (lv_room (Nat.le_of_ble_eq_true rfl)) dX10_readInto_20 ⟨Nat.le_of_ble_eq_true rfl, Nat.le_of_ble_eq_true rfl⟩) hS (fun q _ h => hFc q h) hFc (fun  u t H1 locs ht hvm hw hB hz1 hk1 hS => ?_)
  obtain ⟨hP1, hD1⟩ := hB
  rw [ht] at hP1
  obtain ⟨hP, hD⟩ := va_join (wr := [(h0, .inr (2, [.int 0, .int 0, .int 0, .int 0, .int 0, .int 0, .ref a_first, .ref a_now, .ref a_lawPlace, .ref a_lawOther, .ref a_lawEach, .ref a_lawFrom, .ref a_foes, .ref a_suitTable, .ref a_acts])), (a_foes, .inl (cyI, 7, .inl g0_1)), (a_suitTable, .inl (cyI, 49, .inl g1_2))]) (w1 := [(t0, .inr (9, [.ref b0, .int 0, .int 0, .int (-1), .int 0, .int 0, .int 0, .int 0, .int 0, .int 0]))]) hP hD [0] [1, 2, 3] rfl rfl (by decide) (by decide) hk1 hFc hP1 hD1
  generalize H1 = H at hP hS ⊢
  have hP : va_P (dC, dI) vwCl [(h0, .inr (2, [.int 0, .int 0, .int 0, .int 0, .int 0, .int 0, .ref a_first, .ref a_now, .ref a_lawPlace, .ref a_lawOther, .ref a_lawEach, .ref a_lawFrom, .ref a_foes, .ref a_suitTable, .ref a_acts])), (a_foes, .inl (cyI, 7, .inl g0_1)), (a_suitTable, .inl (cyI, 49, .inl g1_2)), (t0, .inr (9, [.ref b0, .int 0, .int 0, .int (-1), .int 0, .int 0, .int 0, .int 0, .int 0, .int 0]))] H := hP
  have hD : va_D A [(h0, .inr (2, [.int 0, .int 0, .int 0, .int 0, .int 0, .int 0, .ref a_first, .ref a_now, .ref a_lawPlace, .ref a_lawOther, .ref a_lawEach, .ref a_lawFrom, .ref a_foes, .ref a_suitTable, .ref a_acts])), (a_foes, .inl (cyI, 7, .inl g0_1)), (a_suitTable, .inl (cyI, 49, .inl g1_2)), (t0, .inr (9, [.ref b0, .int 0, .int 0, .int (-1), .int 0, .int 0, .int 0, .int 0, .int 0, .int 0]))] := hD
  refine lv_iconst (v := 0) hx hb dX10_readInto_23 (by decide) ?_
  refine lv_istore_n (lv' := [(2, .int 0), (0, .ref t0), (1, .ref h0)]) hx hb dX10_readInto_24 rfl hl (by decide) rfl (fun ls hl => ?_)
  refine lv_iload_n hx hb dX10_readInto_25 rfl (lv_at hl 0 rfl) ?_
  refine lv_sipush (v := 800) hx hb dX10_readInto_26 (by decide) ?_
  refine lv_icmp_gt (tgt := 57) hx hb dX10_readInto_29 (by decide) (fun c_3 => absurd c_3 (by decide)) (fun _ => ?_)
  refine lv_aload_n hx hb dX10_readInto_32 rfl (lv_at hl 1 rfl) ?_
  refine va_get (D := (dC, dI)) (ci := 9) (v := .int 0) (C := RX10) (T := TX10) (N := 10) hx hb hts uinX10 hown hK hP 3 rfl rfl 5 (by decide) (hts _ wd_1_44) (fun _ h9 => h9) rfl dX10_readInto_33 ?_
  refine lv_if_eq (tgt := 57) hx hb dX10_readInto_36 (by decide) (fun _ => ?_) (fun c_4 => absurd c_4 (by decide))
  refine lv_aload_n hx hb dX10_readInto_57 rfl (lv_at hl 2 rfl) ?_
  refine va_get (D := (dC, dI)) (ci := 2) (v := .int 0) (C := RX2) (T := TX2) (N := 15) hx hb hts uinX2 hown hK hP 0 rfl rfl 2 (by decide) (hts _ wd_1_91) (fun _ h9 => h9) rfl dX10_readInto_58 ?_
  refine lv_if_ne (tgt := 69) hx hb dX10_readInto_61 (by decide) (fun c_5 => absurd c_5 (by decide)) (fun _ => ?_)
  refine lv_aload_n hx hb dX10_readInto_64 rfl (lv_at hl 2 rfl) ?_
  refine lv_iconst (v := 2) hx hb dX10_readInto_65 (by decide) ?_
  refine va_put (D := (dC, dI)) (ci := 2) (v := .int 2) (ty := .int) (C := RX2) (T := TX2) (N := 15) hx hb hts uinX2 tyX2 tyX2_ok nmX2 hown hK hP hD hS 0 rfl rfl 2 (by decide) (hts _ wd_1_91) (fun _ h9 => h9) rfl (by decide +kernel) rfl rfl (Nat.le_of_ble_eq_true rfl) dX10_readInto_66 (fun H locs hP hD hS => ?_)
  have hP : va_P (dC, dI) vwCl [(h0, .inr (2, [.int 0, .int 0, .int 2, .int 0, .int 0, .int 0, .ref a_first, .ref a_now, .ref a_lawPlace, .ref a_lawOther, .ref a_lawEach, .ref a_lawFrom, .ref a_foes, .ref a_suitTable, .ref a_acts])), (a_foes, .inl (cyI, 7, .inl g0_1)), (a_suitTable, .inl (cyI, 49, .inl g1_2)), (t0, .inr (9, [.ref b0, .int 0, .int 0, .int (-1), .int 0, .int 0, .int 0, .int 0, .int 0, .int 0]))] H := hP
  have hD : va_D A [(h0, .inr (2, [.int 0, .int 0, .int 2, .int 0, .int 0, .int 0, .ref a_first, .ref a_now, .ref a_lawPlace, .ref a_lawOther, .ref a_lawEach, .ref a_lawFrom, .ref a_foes, .ref a_suitTable, .ref a_acts])), (a_foes, .inl (cyI, 7, .inl g0_1)), (a_suitTable, .inl (cyI, 49, .inl g1_2)), (t0, .inr (9, [.ref b0, .int 0, .int 0, .int (-1), .int 0, .int 0, .int 0, .int 0, .int 0, .int 0]))] := hD
  have hP9 := hP.sub (ws' := [(t0, .inr (9, [.ref b0, .int 0, .int 0, .int (-1), .int 0, .int 0, .int 0, .int 0, .int 0, .int 0])), (h0, .inr (2, [.int 0, .int 0, .int 2, .int 0, .int 0, .int 0, .ref a_first, .ref a_now, .ref a_lawPlace, .ref a_lawOther, .ref a_lawEach, .ref a_lawFrom, .ref a_foes, .ref a_suitTable, .ref a_acts])), (a_foes, .inl (cyI, 7, .inl g0_1)), (a_suitTable, .inl (cyI, 49, .inl g1_2))]) [3, 0, 1, 2] rfl
  have hD9 := hD.sub (ws' := [(t0, .inr (9, [.ref b0, .int 0, .int 0, .int (-1), .int 0, .int 0, .int 0, .int 0, .int 0, .int 0])), (h0, .inr (2, [.int 0, .int 0, .int 2, .int 0, .int 0, .int 0, .ref a_first, .ref a_now, .ref a_lawPlace, .ref a_lawOther, .ref a_lawEach, .ref a_lawFrom, .ref a_foes, .ref a_suitTable, .ref a_acts])), (a_foes, .inl (cyI, 7, .inl g0_1)), (a_suitTable, .inl (cyI, 49, .inl g1_2))]) [3, 0, 1, 2] (by decide) rfl
  exact W.vret hx hb hr (fun t ht hW => ⟨⟨(), rfl, trivial, ⟨g0_1, g1_2, by rw [ht]; exact hP9, hD9⟩⟩, hS.F ht⟩) hS.2.2 dX10_readInto_69

/- X2_become -/
set_option maxHeartbeats 4000000 in
set_option maxRecDepth 100000 in
theorem c_become (l : Launch) (dC : Nat → ClassId) (dI : Nat → Nat → Nat) (cyI cyB cyJ cyZ cyH cyN : ClassId) (sz : Nat) (h0 a_first a_now a_lawPlace a_lawOther a_lawEach a_lawFrom a_foes a_suitTable a_acts h1 b_first b_now b_lawPlace b_lawOther b_lawEach b_lawFrom b_foes b_suitTable b_acts : Nat) (j0 j1 j2 j3 j4 j5 i0 i1 i2 i3 i4 i5 : Int32) (fa0 fa1 fa2 fa3 fa4 fa5 fa6 fa7 fa8 fb0 fb1 fb2 fb3 fb4 fb5 fb6 fb7 fb8 : Nat → Int32) : Met l yX2_become (wk yX2_become cX2_become 2 none) ({ frames := 1, cells := 0, slots := 0, locals := 60 }) (va_Pc [.ref h0, .ref h1] (fun U => U.heap.size = sz ∧ va_P (dC, dI) vwCl [(h0, .inr (2, [.int j0, .int j1, .int j2, .int j3, .int j4, .int j5, .ref a_first, .ref a_now, .ref a_lawPlace, .ref a_lawOther, .ref a_lawEach, .ref a_lawFrom, .ref a_foes, .ref a_suitTable, .ref a_acts])), (h1, .inr (2, [.int i0, .int i1, .int i2, .int i3, .int i4, .int i5, .ref b_first, .ref b_now, .ref b_lawPlace, .ref b_lawOther, .ref b_lawEach, .ref b_lawFrom, .ref b_foes, .ref b_suitTable, .ref b_acts])), (a_first, .inl (cyI, 7, .inl fa0)), (a_now, .inl (cyI, 7, .inl fa1)), (a_lawPlace, .inl (cyI, 6, .inl fa2)), (a_lawOther, .inl (cyI, 6, .inl fa3)), (a_lawEach, .inl (cyI, 6, .inl fa4)), (a_lawFrom, .inl (cyI, 6, .inl fa5)), (a_foes, .inl (cyI, 7, .inl fa6)), (a_suitTable, .inl (cyI, 49, .inl fa7)), (a_acts, .inl (cyI, 40, .inl fa8)), (b_first, .inl (cyI, 7, .inl fb0)), (b_now, .inl (cyI, 7, .inl fb1)), (b_lawPlace, .inl (cyI, 6, .inl fb2)), (b_lawOther, .inl (cyI, 6, .inl fb3)), (b_lawEach, .inl (cyI, 6, .inl fb4)), (b_lawFrom, .inl (cyI, 6, .inl fb5)), (b_foes, .inl (cyI, 7, .inl fb6)), (b_suitTable, .inl (cyI, 49, .inl fb7)), (b_acts, .inl (cyI, 40, .inl fb8))] U.heap ∧ va_K (dC, dI) vwCl [(cyI, .int), (cyB, .byte), (cyJ, .long), (cyZ, .boolean), (cyH, .object RX2), (cyN, .array .long)] U ∧ va_D (fun _ => True) [(h0, .inr (2, [.int j0, .int j1, .int j2, .int j3, .int j4, .int j5, .ref a_first, .ref a_now, .ref a_lawPlace, .ref a_lawOther, .ref a_lawEach, .ref a_lawFrom, .ref a_foes, .ref a_suitTable, .ref a_acts])), (h1, .inr (2, [.int i0, .int i1, .int i2, .int i3, .int i4, .int i5, .ref b_first, .ref b_now, .ref b_lawPlace, .ref b_lawOther, .ref b_lawEach, .ref b_lawFrom, .ref b_foes, .ref b_suitTable, .ref b_acts])), (a_first, .inl (cyI, 7, .inl fa0)), (a_now, .inl (cyI, 7, .inl fa1)), (a_lawPlace, .inl (cyI, 6, .inl fa2)), (a_lawOther, .inl (cyI, 6, .inl fa3)), (a_lawEach, .inl (cyI, 6, .inl fa4)), (a_lawFrom, .inl (cyI, 6, .inl fa5)), (a_foes, .inl (cyI, 7, .inl fa6)), (a_suitTable, .inl (cyI, 49, .inl fa7)), (a_acts, .inl (cyI, 40, .inl fa8)), (b_first, .inl (cyI, 7, .inl fb0)), (b_now, .inl (cyI, 7, .inl fb1)), (b_lawPlace, .inl (cyI, 6, .inl fb2)), (b_lawOther, .inl (cyI, 6, .inl fb3)), (b_lawEach, .inl (cyI, 6, .inl fb4)), (b_lawFrom, .inl (cyI, 6, .inl fb5)), (b_foes, .inl (cyI, 7, .inl fb6)), (b_suitTable, .inl (cyI, 49, .inl fb7)), (b_acts, .inl (cyI, 40, .inl fb8))])) (va_Qv (fun _ : Unit => True) (fun (_ : Unit) (t : State) => va_P (dC, dI) vwCl [(h0, .inr (2, [.int i0, .int i1, .int i2, .int i3, .int i4, .int i5, .ref a_first, .ref a_now, .ref a_lawPlace, .ref a_lawOther, .ref a_lawEach, .ref a_lawFrom, .ref a_foes, .ref a_suitTable, .ref a_acts]))] t.heap ∧ va_D (va_A [(h0, .inr (2, [.int j0, .int j1, .int j2, .int j3, .int j4, .int j5, .ref a_first, .ref a_now, .ref a_lawPlace, .ref a_lawOther, .ref a_lawEach, .ref a_lawFrom, .ref a_foes, .ref a_suitTable, .ref a_acts])), (h1, .inr (2, [.int i0, .int i1, .int i2, .int i3, .int i4, .int i5, .ref b_first, .ref b_now, .ref b_lawPlace, .ref b_lawOther, .ref b_lawEach, .ref b_lawFrom, .ref b_foes, .ref b_suitTable, .ref b_acts])), (a_first, .inl (cyI, 7, .inl fa0)), (a_now, .inl (cyI, 7, .inl fa1)), (a_lawPlace, .inl (cyI, 6, .inl fa2)), (a_lawOther, .inl (cyI, 6, .inl fa3)), (a_lawEach, .inl (cyI, 6, .inl fa4)), (a_lawFrom, .inl (cyI, 6, .inl fa5)), (a_foes, .inl (cyI, 7, .inl fa6)), (a_suitTable, .inl (cyI, 49, .inl fa7)), (a_acts, .inl (cyI, 40, .inl fa8)), (b_first, .inl (cyI, 7, .inl fb0)), (b_now, .inl (cyI, 7, .inl fb1)), (b_lawPlace, .inl (cyI, 6, .inl fb2)), (b_lawOther, .inl (cyI, 6, .inl fb3)), (b_lawEach, .inl (cyI, 6, .inl fb4)), (b_lawFrom, .inl (cyI, 6, .inl fb5)), (b_foes, .inl (cyI, 7, .inl fb6)), (b_suitTable, .inl (cyI, 49, .inl fb7)), (b_acts, .inl (cyI, 40, .inl fb8))] sz) [(h0, .inr (2, [.int i0, .int i1, .int i2, .int i3, .int i4, .int i5, .ref a_first, .ref a_now, .ref a_lawPlace, .ref a_lawOther, .ref a_lawEach, .ref a_lawFrom, .ref a_foes, .ref a_suitTable, .ref a_acts]))]) (va_A [(h0, .inr (2, [.int j0, .int j1, .int j2, .int j3, .int j4, .int j5, .ref a_first, .ref a_now, .ref a_lawPlace, .ref a_lawOther, .ref a_lawEach, .ref a_lawFrom, .ref a_foes, .ref a_suitTable, .ref a_acts])), (h1, .inr (2, [.int i0, .int i1, .int i2, .int i3, .int i4, .int i5, .ref b_first, .ref b_now, .ref b_lawPlace, .ref b_lawOther, .ref b_lawEach, .ref b_lawFrom, .ref b_foes, .ref b_suitTable, .ref b_acts])), (a_first, .inl (cyI, 7, .inl fa0)), (a_now, .inl (cyI, 7, .inl fa1)), (a_lawPlace, .inl (cyI, 6, .inl fa2)), (a_lawOther, .inl (cyI, 6, .inl fa3)), (a_lawEach, .inl (cyI, 6, .inl fa4)), (a_lawFrom, .inl (cyI, 6, .inl fa5)), (a_foes, .inl (cyI, 7, .inl fa6)), (a_suitTable, .inl (cyI, 49, .inl fa7)), (a_acts, .inl (cyI, 40, .inl fa8)), (b_first, .inl (cyI, 7, .inl fb0)), (b_now, .inl (cyI, 7, .inl fb1)), (b_lawPlace, .inl (cyI, 6, .inl fb2)), (b_lawOther, .inl (cyI, 6, .inl fb3)), (b_lawEach, .inl (cyI, 6, .inl fb4)), (b_lawFrom, .inl (cyI, 6, .inl fb5)), (b_foes, .inl (cyI, 7, .inl fb6)), (b_suitTable, .inl (cyI, 49, .inl fb7)), (b_acts, .inl (cyI, 40, .inl fb8))] sz)) 0 0 (va_A [(h0, .inr (2, [.int j0, .int j1, .int j2, .int j3, .int j4, .int j5, .ref a_first, .ref a_now, .ref a_lawPlace, .ref a_lawOther, .ref a_lawEach, .ref a_lawFrom, .ref a_foes, .ref a_suitTable, .ref a_acts])), (h1, .inr (2, [.int i0, .int i1, .int i2, .int i3, .int i4, .int i5, .ref b_first, .ref b_now, .ref b_lawPlace, .ref b_lawOther, .ref b_lawEach, .ref b_lawFrom, .ref b_foes, .ref b_suitTable, .ref b_acts])), (a_first, .inl (cyI, 7, .inl fa0)), (a_now, .inl (cyI, 7, .inl fa1)), (a_lawPlace, .inl (cyI, 6, .inl fa2)), (a_lawOther, .inl (cyI, 6, .inl fa3)), (a_lawEach, .inl (cyI, 6, .inl fa4)), (a_lawFrom, .inl (cyI, 6, .inl fa5)), (a_foes, .inl (cyI, 7, .inl fa6)), (a_suitTable, .inl (cyI, 49, .inl fa7)), (a_acts, .inl (cyI, 40, .inl fa8)), (b_first, .inl (cyI, 7, .inl fb0)), (b_now, .inl (cyI, 7, .inl fb1)), (b_lawPlace, .inl (cyI, 6, .inl fb2)), (b_lawOther, .inl (cyI, 6, .inl fb3)), (b_lawEach, .inl (cyI, 6, .inl fb4)), (b_lawFrom, .inl (cyI, 6, .inl fb5)), (b_foes, .inl (cyI, 7, .inl fb6)), (b_suitTable, .inl (cyI, 49, .inl fb7)), (b_acts, .inl (cyI, 40, .inl fb8))] sz) := by
  refine Met.ofW (cc := cX2_become) (maxL := 2) (ret := none) (by decide) rfl ?_
  intro p e s m args below meth c s₁ B hml hv
  obtain ⟨rfl, hsz, hP, hK, hD0⟩ := hv
  have hx := B.exec
  have hb := B.bytes
  have hr := B.returns
  have hts : ∀ w ∈ uU, w.before ([.ref h0, .ref h1] : List Value).toArray s = true := fun w h => atoms_spec (ws := wk yX2_become cX2_become 2 none) B.pre w (List.mem_cons_of_mem _ h)
  have hown : s.vm.findClass RX2 = some m.cls := findClass_of_methodNamed B.named
  have hlocks := B.notSynchronized
  subst hsz
  have hD := hD0.self (sz := s.heap.size)
  generalize hAe : va_A [(h0, .inr (2, [.int j0, .int j1, .int j2, .int j3, .int j4, .int j5, .ref a_first, .ref a_now, .ref a_lawPlace, .ref a_lawOther, .ref a_lawEach, .ref a_lawFrom, .ref a_foes, .ref a_suitTable, .ref a_acts])), (h1, .inr (2, [.int i0, .int i1, .int i2, .int i3, .int i4, .int i5, .ref b_first, .ref b_now, .ref b_lawPlace, .ref b_lawOther, .ref b_lawEach, .ref b_lawFrom, .ref b_foes, .ref b_suitTable, .ref b_acts])), (a_first, .inl (cyI, 7, .inl fa0)), (a_now, .inl (cyI, 7, .inl fa1)), (a_lawPlace, .inl (cyI, 6, .inl fa2)), (a_lawOther, .inl (cyI, 6, .inl fa3)), (a_lawEach, .inl (cyI, 6, .inl fa4)), (a_lawFrom, .inl (cyI, 6, .inl fa5)), (a_foes, .inl (cyI, 7, .inl fa6)), (a_suitTable, .inl (cyI, 49, .inl fa7)), (a_acts, .inl (cyI, 40, .inl fa8)), (b_first, .inl (cyI, 7, .inl fb0)), (b_now, .inl (cyI, 7, .inl fb1)), (b_lawPlace, .inl (cyI, 6, .inl fb2)), (b_lawOther, .inl (cyI, 6, .inl fb3)), (b_lawEach, .inl (cyI, 6, .inl fb4)), (b_lawFrom, .inl (cyI, 6, .inl fb5)), (b_foes, .inl (cyI, 7, .inl fb6)), (b_suitTable, .inl (cyI, 49, .inl fb7)), (b_acts, .inl (cyI, 40, .inl fb8))] s.heap.size = A at hD ⊢
  have hA : ∀ q : Nat, s.heap.size ≤ q → A q := fun q h => by rw [← hAe]; exact Or.inr h
  have hS : va_S A s.heap s.heap [] := va_S.rf
  have hP : va_P (dC, dI) vwCl [(h0, .inr (2, [.int j0, .int j1, .int j2, .int j3, .int j4, .int j5, .ref a_first, .ref a_now, .ref a_lawPlace, .ref a_lawOther, .ref a_lawEach, .ref a_lawFrom, .ref a_foes, .ref a_suitTable, .ref a_acts])), (h1, .inr (2, [.int i0, .int i1, .int i2, .int i3, .int i4, .int i5, .ref b_first, .ref b_now, .ref b_lawPlace, .ref b_lawOther, .ref b_lawEach, .ref b_lawFrom, .ref b_foes, .ref b_suitTable, .ref b_acts])), (a_first, .inl (cyI, 7, .inl fa0)), (a_now, .inl (cyI, 7, .inl fa1)), (a_lawPlace, .inl (cyI, 6, .inl fa2)), (a_lawOther, .inl (cyI, 6, .inl fa3)), (a_lawEach, .inl (cyI, 6, .inl fa4)), (a_lawFrom, .inl (cyI, 6, .inl fa5)), (a_foes, .inl (cyI, 7, .inl fa6)), (a_suitTable, .inl (cyI, 49, .inl fa7)), (a_acts, .inl (cyI, 40, .inl fa8)), (b_first, .inl (cyI, 7, .inl fb0)), (b_now, .inl (cyI, 7, .inl fb1)), (b_lawPlace, .inl (cyI, 6, .inl fb2)), (b_lawOther, .inl (cyI, 6, .inl fb3)), (b_lawEach, .inl (cyI, 6, .inl fb4)), (b_lawFrom, .inl (cyI, 6, .inl fb5)), (b_foes, .inl (cyI, 7, .inl fb6)), (b_suitTable, .inl (cyI, 49, .inl fb7)), (b_acts, .inl (cyI, 40, .inl fb8))] s.heap := hP
  have hl := lv_entry ([.ref h0, .ref h1]) (n := 2) (Nat.le_of_ble_eq_true rfl)
  rw [lg_entry_eq]
  generalize (lg_sl ([.ref h0, .ref h1]) ++ List.replicate (2 - (lg_sl ([.ref h0, .ref h1])).length) Slot.unset).toArray = ls at hl ⊢
  have hl : lv_has ls 2 [(0, .ref h0), (1, .ref h1)] := hl
  obtain ⟨H, hHe⟩ : ∃ H, H = s.heap := ⟨_, rfl⟩
  have hP : va_P (dC, dI) vwCl [(h0, .inr (2, [.int j0, .int j1, .int j2, .int j3, .int j4, .int j5, .ref a_first, .ref a_now, .ref a_lawPlace, .ref a_lawOther, .ref a_lawEach, .ref a_lawFrom, .ref a_foes, .ref a_suitTable, .ref a_acts])), (h1, .inr (2, [.int i0, .int i1, .int i2, .int i3, .int i4, .int i5, .ref b_first, .ref b_now, .ref b_lawPlace, .ref b_lawOther, .ref b_lawEach, .ref b_lawFrom, .ref b_foes, .ref b_suitTable, .ref b_acts])), (a_first, .inl (cyI, 7, .inl fa0)), (a_now, .inl (cyI, 7, .inl fa1)), (a_lawPlace, .inl (cyI, 6, .inl fa2)), (a_lawOther, .inl (cyI, 6, .inl fa3)), (a_lawEach, .inl (cyI, 6, .inl fa4)), (a_lawFrom, .inl (cyI, 6, .inl fa5)), (a_foes, .inl (cyI, 7, .inl fa6)), (a_suitTable, .inl (cyI, 49, .inl fa7)), (a_acts, .inl (cyI, 40, .inl fa8)), (b_first, .inl (cyI, 7, .inl fb0)), (b_now, .inl (cyI, 7, .inl fb1)), (b_lawPlace, .inl (cyI, 6, .inl fb2)), (b_lawOther, .inl (cyI, 6, .inl fb3)), (b_lawEach, .inl (cyI, 6, .inl fb4)), (b_lawFrom, .inl (cyI, 6, .inl fb5)), (b_foes, .inl (cyI, 7, .inl fb6)), (b_suitTable, .inl (cyI, 49, .inl fb7)), (b_acts, .inl (cyI, 40, .inl fb8))] H := by rw [hHe]; exact hP
  have hS : va_S A s.heap H [] := by rw [hHe]; exact hS
  refine cv_heap hHe ?_
  refine lv_aload_n hx hb dX2_become_0 rfl (lv_at hl 0 rfl) ?_
  refine lv_aload_n hx hb dX2_become_1 rfl (lv_at hl 1 rfl) ?_
  refine va_get (D := (dC, dI)) (ci := 2) (v := .int i0) (C := RX2) (T := TX2) (N := 15) hx hb hts uinX2 hown hK hP 1 rfl rfl 0 (by decide) (hts _ wd_1_77) (fun _ h9 => h9) rfl dX2_become_2 ?_
  refine va_put (D := (dC, dI)) (ci := 2) (v := .int i0) (ty := .int) (C := RX2) (T := TX2) (N := 15) hx hb hts uinX2 tyX2 tyX2_ok nmX2 hown hK hP hD hS 0 rfl rfl 0 (by decide) (hts _ wd_1_77) (fun _ h9 => h9) rfl (by decide +kernel) rfl rfl (Nat.le_of_ble_eq_true rfl) dX2_become_5 (fun H locs hP hD hS => ?_)
  have hP : va_P (dC, dI) vwCl [(h0, .inr (2, [.int i0, .int j1, .int j2, .int j3, .int j4, .int j5, .ref a_first, .ref a_now, .ref a_lawPlace, .ref a_lawOther, .ref a_lawEach, .ref a_lawFrom, .ref a_foes, .ref a_suitTable, .ref a_acts])), (h1, .inr (2, [.int i0, .int i1, .int i2, .int i3, .int i4, .int i5, .ref b_first, .ref b_now, .ref b_lawPlace, .ref b_lawOther, .ref b_lawEach, .ref b_lawFrom, .ref b_foes, .ref b_suitTable, .ref b_acts])), (a_first, .inl (cyI, 7, .inl fa0)), (a_now, .inl (cyI, 7, .inl fa1)), (a_lawPlace, .inl (cyI, 6, .inl fa2)), (a_lawOther, .inl (cyI, 6, .inl fa3)), (a_lawEach, .inl (cyI, 6, .inl fa4)), (a_lawFrom, .inl (cyI, 6, .inl fa5)), (a_foes, .inl (cyI, 7, .inl fa6)), (a_suitTable, .inl (cyI, 49, .inl fa7)), (a_acts, .inl (cyI, 40, .inl fa8)), (b_first, .inl (cyI, 7, .inl fb0)), (b_now, .inl (cyI, 7, .inl fb1)), (b_lawPlace, .inl (cyI, 6, .inl fb2)), (b_lawOther, .inl (cyI, 6, .inl fb3)), (b_lawEach, .inl (cyI, 6, .inl fb4)), (b_lawFrom, .inl (cyI, 6, .inl fb5)), (b_foes, .inl (cyI, 7, .inl fb6)), (b_suitTable, .inl (cyI, 49, .inl fb7)), (b_acts, .inl (cyI, 40, .inl fb8))] H := hP
  have hD : va_D A [(h0, .inr (2, [.int i0, .int j1, .int j2, .int j3, .int j4, .int j5, .ref a_first, .ref a_now, .ref a_lawPlace, .ref a_lawOther, .ref a_lawEach, .ref a_lawFrom, .ref a_foes, .ref a_suitTable, .ref a_acts])), (h1, .inr (2, [.int i0, .int i1, .int i2, .int i3, .int i4, .int i5, .ref b_first, .ref b_now, .ref b_lawPlace, .ref b_lawOther, .ref b_lawEach, .ref b_lawFrom, .ref b_foes, .ref b_suitTable, .ref b_acts])), (a_first, .inl (cyI, 7, .inl fa0)), (a_now, .inl (cyI, 7, .inl fa1)), (a_lawPlace, .inl (cyI, 6, .inl fa2)), (a_lawOther, .inl (cyI, 6, .inl fa3)), (a_lawEach, .inl (cyI, 6, .inl fa4)), (a_lawFrom, .inl (cyI, 6, .inl fa5)), (a_foes, .inl (cyI, 7, .inl fa6)), (a_suitTable, .inl (cyI, 49, .inl fa7)), (a_acts, .inl (cyI, 40, .inl fa8)), (b_first, .inl (cyI, 7, .inl fb0)), (b_now, .inl (cyI, 7, .inl fb1)), (b_lawPlace, .inl (cyI, 6, .inl fb2)), (b_lawOther, .inl (cyI, 6, .inl fb3)), (b_lawEach, .inl (cyI, 6, .inl fb4)), (b_lawFrom, .inl (cyI, 6, .inl fb5)), (b_foes, .inl (cyI, 7, .inl fb6)), (b_suitTable, .inl (cyI, 49, .inl fb7)), (b_acts, .inl (cyI, 40, .inl fb8))] := hD
  refine lv_aload_n hx hb dX2_become_8 rfl (lv_at hl 0 rfl) ?_
  refine lv_aload_n hx hb dX2_become_9 rfl (lv_at hl 1 rfl) ?_
  refine va_get (D := (dC, dI)) (ci := 2) (v := .int i1) (C := RX2) (T := TX2) (N := 15) hx hb hts uinX2 hown hK hP 1 rfl rfl 1 (by decide) (hts _ wd_1_86) (fun _ h9 => h9) rfl dX2_become_10 ?_
  refine va_put (D := (dC, dI)) (ci := 2) (v := .int i1) (ty := .int) (C := RX2) (T := TX2) (N := 15) hx hb hts uinX2 tyX2 tyX2_ok nmX2 hown hK hP hD hS 0 rfl rfl 1 (by decide) (hts _ wd_1_86) (fun _ h9 => h9) rfl (by decide +kernel) rfl rfl (Nat.le_of_ble_eq_true rfl) dX2_become_13 (fun H locs hP hD hS => ?_)
  have hP : va_P (dC, dI) vwCl [(h0, .inr (2, [.int i0, .int i1, .int j2, .int j3, .int j4, .int j5, .ref a_first, .ref a_now, .ref a_lawPlace, .ref a_lawOther, .ref a_lawEach, .ref a_lawFrom, .ref a_foes, .ref a_suitTable, .ref a_acts])), (h1, .inr (2, [.int i0, .int i1, .int i2, .int i3, .int i4, .int i5, .ref b_first, .ref b_now, .ref b_lawPlace, .ref b_lawOther, .ref b_lawEach, .ref b_lawFrom, .ref b_foes, .ref b_suitTable, .ref b_acts])), (a_first, .inl (cyI, 7, .inl fa0)), (a_now, .inl (cyI, 7, .inl fa1)), (a_lawPlace, .inl (cyI, 6, .inl fa2)), (a_lawOther, .inl (cyI, 6, .inl fa3)), (a_lawEach, .inl (cyI, 6, .inl fa4)), (a_lawFrom, .inl (cyI, 6, .inl fa5)), (a_foes, .inl (cyI, 7, .inl fa6)), (a_suitTable, .inl (cyI, 49, .inl fa7)), (a_acts, .inl (cyI, 40, .inl fa8)), (b_first, .inl (cyI, 7, .inl fb0)), (b_now, .inl (cyI, 7, .inl fb1)), (b_lawPlace, .inl (cyI, 6, .inl fb2)), (b_lawOther, .inl (cyI, 6, .inl fb3)), (b_lawEach, .inl (cyI, 6, .inl fb4)), (b_lawFrom, .inl (cyI, 6, .inl fb5)), (b_foes, .inl (cyI, 7, .inl fb6)), (b_suitTable, .inl (cyI, 49, .inl fb7)), (b_acts, .inl (cyI, 40, .inl fb8))] H := hP
  have hD : va_D A [(h0, .inr (2, [.int i0, .int i1, .int j2, .int j3, .int j4, .int j5, .ref a_first, .ref a_now, .ref a_lawPlace, .ref a_lawOther, .ref a_lawEach, .ref a_lawFrom, .ref a_foes, .ref a_suitTable, .ref a_acts])), (h1, .inr (2, [.int i0, .int i1, .int i2, .int i3, .int i4, .int i5, .ref b_first, .ref b_now, .ref b_lawPlace, .ref b_lawOther, .ref b_lawEach, .ref b_lawFrom, .ref b_foes, .ref b_suitTable, .ref b_acts])), (a_first, .inl (cyI, 7, .inl fa0)), (a_now, .inl (cyI, 7, .inl fa1)), (a_lawPlace, .inl (cyI, 6, .inl fa2)), (a_lawOther, .inl (cyI, 6, .inl fa3)), (a_lawEach, .inl (cyI, 6, .inl fa4)), (a_lawFrom, .inl (cyI, 6, .inl fa5)), (a_foes, .inl (cyI, 7, .inl fa6)), (a_suitTable, .inl (cyI, 49, .inl fa7)), (a_acts, .inl (cyI, 40, .inl fa8)), (b_first, .inl (cyI, 7, .inl fb0)), (b_now, .inl (cyI, 7, .inl fb1)), (b_lawPlace, .inl (cyI, 6, .inl fb2)), (b_lawOther, .inl (cyI, 6, .inl fb3)), (b_lawEach, .inl (cyI, 6, .inl fb4)), (b_lawFrom, .inl (cyI, 6, .inl fb5)), (b_foes, .inl (cyI, 7, .inl fb6)), (b_suitTable, .inl (cyI, 49, .inl fb7)), (b_acts, .inl (cyI, 40, .inl fb8))] := hD
  refine lv_aload_n hx hb dX2_become_16 rfl (lv_at hl 0 rfl) ?_
  refine lv_aload_n hx hb dX2_become_17 rfl (lv_at hl 1 rfl) ?_
  refine va_get (D := (dC, dI)) (ci := 2) (v := .int i2) (C := RX2) (T := TX2) (N := 15) hx hb hts uinX2 hown hK hP 1 rfl rfl 2 (by decide) (hts _ wd_1_89) (fun _ h9 => h9) rfl dX2_become_18 ?_
  refine va_put (D := (dC, dI)) (ci := 2) (v := .int i2) (ty := .int) (C := RX2) (T := TX2) (N := 15) hx hb hts uinX2 tyX2 tyX2_ok nmX2 hown hK hP hD hS 0 rfl rfl 2 (by decide) (hts _ wd_1_89) (fun _ h9 => h9) rfl (by decide +kernel) rfl rfl (Nat.le_of_ble_eq_true rfl) dX2_become_21 (fun H locs hP hD hS => ?_)
  have hP : va_P (dC, dI) vwCl [(h0, .inr (2, [.int i0, .int i1, .int i2, .int j3, .int j4, .int j5, .ref a_first, .ref a_now, .ref a_lawPlace, .ref a_lawOther, .ref a_lawEach, .ref a_lawFrom, .ref a_foes, .ref a_suitTable, .ref a_acts])), (h1, .inr (2, [.int i0, .int i1, .int i2, .int i3, .int i4, .int i5, .ref b_first, .ref b_now, .ref b_lawPlace, .ref b_lawOther, .ref b_lawEach, .ref b_lawFrom, .ref b_foes, .ref b_suitTable, .ref b_acts])), (a_first, .inl (cyI, 7, .inl fa0)), (a_now, .inl (cyI, 7, .inl fa1)), (a_lawPlace, .inl (cyI, 6, .inl fa2)), (a_lawOther, .inl (cyI, 6, .inl fa3)), (a_lawEach, .inl (cyI, 6, .inl fa4)), (a_lawFrom, .inl (cyI, 6, .inl fa5)), (a_foes, .inl (cyI, 7, .inl fa6)), (a_suitTable, .inl (cyI, 49, .inl fa7)), (a_acts, .inl (cyI, 40, .inl fa8)), (b_first, .inl (cyI, 7, .inl fb0)), (b_now, .inl (cyI, 7, .inl fb1)), (b_lawPlace, .inl (cyI, 6, .inl fb2)), (b_lawOther, .inl (cyI, 6, .inl fb3)), (b_lawEach, .inl (cyI, 6, .inl fb4)), (b_lawFrom, .inl (cyI, 6, .inl fb5)), (b_foes, .inl (cyI, 7, .inl fb6)), (b_suitTable, .inl (cyI, 49, .inl fb7)), (b_acts, .inl (cyI, 40, .inl fb8))] H := hP
  have hD : va_D A [(h0, .inr (2, [.int i0, .int i1, .int i2, .int j3, .int j4, .int j5, .ref a_first, .ref a_now, .ref a_lawPlace, .ref a_lawOther, .ref a_lawEach, .ref a_lawFrom, .ref a_foes, .ref a_suitTable, .ref a_acts])), (h1, .inr (2, [.int i0, .int i1, .int i2, .int i3, .int i4, .int i5, .ref b_first, .ref b_now, .ref b_lawPlace, .ref b_lawOther, .ref b_lawEach, .ref b_lawFrom, .ref b_foes, .ref b_suitTable, .ref b_acts])), (a_first, .inl (cyI, 7, .inl fa0)), (a_now, .inl (cyI, 7, .inl fa1)), (a_lawPlace, .inl (cyI, 6, .inl fa2)), (a_lawOther, .inl (cyI, 6, .inl fa3)), (a_lawEach, .inl (cyI, 6, .inl fa4)), (a_lawFrom, .inl (cyI, 6, .inl fa5)), (a_foes, .inl (cyI, 7, .inl fa6)), (a_suitTable, .inl (cyI, 49, .inl fa7)), (a_acts, .inl (cyI, 40, .inl fa8)), (b_first, .inl (cyI, 7, .inl fb0)), (b_now, .inl (cyI, 7, .inl fb1)), (b_lawPlace, .inl (cyI, 6, .inl fb2)), (b_lawOther, .inl (cyI, 6, .inl fb3)), (b_lawEach, .inl (cyI, 6, .inl fb4)), (b_lawFrom, .inl (cyI, 6, .inl fb5)), (b_foes, .inl (cyI, 7, .inl fb6)), (b_suitTable, .inl (cyI, 49, .inl fb7)), (b_acts, .inl (cyI, 40, .inl fb8))] := hD
  refine lv_aload_n hx hb dX2_become_24 rfl (lv_at hl 0 rfl) ?_
  refine lv_aload_n hx hb dX2_become_25 rfl (lv_at hl 1 rfl) ?_
  refine va_get (D := (dC, dI)) (ci := 2) (v := .int i3) (C := RX2) (T := TX2) (N := 15) hx hb hts uinX2 hown hK hP 1 rfl rfl 3 (by decide) (hts _ wd_1_92) (fun _ h9 => h9) rfl dX2_become_26 ?_
  refine va_put (D := (dC, dI)) (ci := 2) (v := .int i3) (ty := .int) (C := RX2) (T := TX2) (N := 15) hx hb hts uinX2 tyX2 tyX2_ok nmX2 hown hK hP hD hS 0 rfl rfl 3 (by decide) (hts _ wd_1_92) (fun _ h9 => h9) rfl (by decide +kernel) rfl rfl (Nat.le_of_ble_eq_true rfl) dX2_become_29 (fun H locs hP hD hS => ?_)
  have hP : va_P (dC, dI) vwCl [(h0, .inr (2, [.int i0, .int i1, .int i2, .int i3, .int j4, .int j5, .ref a_first, .ref a_now, .ref a_lawPlace, .ref a_lawOther, .ref a_lawEach, .ref a_lawFrom, .ref a_foes, .ref a_suitTable, .ref a_acts])), (h1, .inr (2, [.int i0, .int i1, .int i2, .int i3, .int i4, .int i5, .ref b_first, .ref b_now, .ref b_lawPlace, .ref b_lawOther, .ref b_lawEach, .ref b_lawFrom, .ref b_foes, .ref b_suitTable, .ref b_acts])), (a_first, .inl (cyI, 7, .inl fa0)), (a_now, .inl (cyI, 7, .inl fa1)), (a_lawPlace, .inl (cyI, 6, .inl fa2)), (a_lawOther, .inl (cyI, 6, .inl fa3)), (a_lawEach, .inl (cyI, 6, .inl fa4)), (a_lawFrom, .inl (cyI, 6, .inl fa5)), (a_foes, .inl (cyI, 7, .inl fa6)), (a_suitTable, .inl (cyI, 49, .inl fa7)), (a_acts, .inl (cyI, 40, .inl fa8)), (b_first, .inl (cyI, 7, .inl fb0)), (b_now, .inl (cyI, 7, .inl fb1)), (b_lawPlace, .inl (cyI, 6, .inl fb2)), (b_lawOther, .inl (cyI, 6, .inl fb3)), (b_lawEach, .inl (cyI, 6, .inl fb4)), (b_lawFrom, .inl (cyI, 6, .inl fb5)), (b_foes, .inl (cyI, 7, .inl fb6)), (b_suitTable, .inl (cyI, 49, .inl fb7)), (b_acts, .inl (cyI, 40, .inl fb8))] H := hP
  have hD : va_D A [(h0, .inr (2, [.int i0, .int i1, .int i2, .int i3, .int j4, .int j5, .ref a_first, .ref a_now, .ref a_lawPlace, .ref a_lawOther, .ref a_lawEach, .ref a_lawFrom, .ref a_foes, .ref a_suitTable, .ref a_acts])), (h1, .inr (2, [.int i0, .int i1, .int i2, .int i3, .int i4, .int i5, .ref b_first, .ref b_now, .ref b_lawPlace, .ref b_lawOther, .ref b_lawEach, .ref b_lawFrom, .ref b_foes, .ref b_suitTable, .ref b_acts])), (a_first, .inl (cyI, 7, .inl fa0)), (a_now, .inl (cyI, 7, .inl fa1)), (a_lawPlace, .inl (cyI, 6, .inl fa2)), (a_lawOther, .inl (cyI, 6, .inl fa3)), (a_lawEach, .inl (cyI, 6, .inl fa4)), (a_lawFrom, .inl (cyI, 6, .inl fa5)), (a_foes, .inl (cyI, 7, .inl fa6)), (a_suitTable, .inl (cyI, 49, .inl fa7)), (a_acts, .inl (cyI, 40, .inl fa8)), (b_first, .inl (cyI, 7, .inl fb0)), (b_now, .inl (cyI, 7, .inl fb1)), (b_lawPlace, .inl (cyI, 6, .inl fb2)), (b_lawOther, .inl (cyI, 6, .inl fb3)), (b_lawEach, .inl (cyI, 6, .inl fb4)), (b_lawFrom, .inl (cyI, 6, .inl fb5)), (b_foes, .inl (cyI, 7, .inl fb6)), (b_suitTable, .inl (cyI, 49, .inl fb7)), (b_acts, .inl (cyI, 40, .inl fb8))] := hD
  refine lv_aload_n hx hb dX2_become_32 rfl (lv_at hl 0 rfl) ?_
  refine lv_aload_n hx hb dX2_become_33 rfl (lv_at hl 1 rfl) ?_
  refine va_get (D := (dC, dI)) (ci := 2) (v := .int i4) (C := RX2) (T := TX2) (N := 15) hx hb hts uinX2 hown hK hP 1 rfl rfl 4 (by decide) (hts _ wd_1_95) (fun _ h9 => h9) rfl dX2_become_34 ?_
  refine va_put (D := (dC, dI)) (ci := 2) (v := .int i4) (ty := .int) (C := RX2) (T := TX2) (N := 15) hx hb hts uinX2 tyX2 tyX2_ok nmX2 hown hK hP hD hS 0 rfl rfl 4 (by decide) (hts _ wd_1_95) (fun _ h9 => h9) rfl (by decide +kernel) rfl rfl (Nat.le_of_ble_eq_true rfl) dX2_become_37 (fun H locs hP hD hS => ?_)
  have hP : va_P (dC, dI) vwCl [(h0, .inr (2, [.int i0, .int i1, .int i2, .int i3, .int i4, .int j5, .ref a_first, .ref a_now, .ref a_lawPlace, .ref a_lawOther, .ref a_lawEach, .ref a_lawFrom, .ref a_foes, .ref a_suitTable, .ref a_acts])), (h1, .inr (2, [.int i0, .int i1, .int i2, .int i3, .int i4, .int i5, .ref b_first, .ref b_now, .ref b_lawPlace, .ref b_lawOther, .ref b_lawEach, .ref b_lawFrom, .ref b_foes, .ref b_suitTable, .ref b_acts])), (a_first, .inl (cyI, 7, .inl fa0)), (a_now, .inl (cyI, 7, .inl fa1)), (a_lawPlace, .inl (cyI, 6, .inl fa2)), (a_lawOther, .inl (cyI, 6, .inl fa3)), (a_lawEach, .inl (cyI, 6, .inl fa4)), (a_lawFrom, .inl (cyI, 6, .inl fa5)), (a_foes, .inl (cyI, 7, .inl fa6)), (a_suitTable, .inl (cyI, 49, .inl fa7)), (a_acts, .inl (cyI, 40, .inl fa8)), (b_first, .inl (cyI, 7, .inl fb0)), (b_now, .inl (cyI, 7, .inl fb1)), (b_lawPlace, .inl (cyI, 6, .inl fb2)), (b_lawOther, .inl (cyI, 6, .inl fb3)), (b_lawEach, .inl (cyI, 6, .inl fb4)), (b_lawFrom, .inl (cyI, 6, .inl fb5)), (b_foes, .inl (cyI, 7, .inl fb6)), (b_suitTable, .inl (cyI, 49, .inl fb7)), (b_acts, .inl (cyI, 40, .inl fb8))] H := hP
  have hD : va_D A [(h0, .inr (2, [.int i0, .int i1, .int i2, .int i3, .int i4, .int j5, .ref a_first, .ref a_now, .ref a_lawPlace, .ref a_lawOther, .ref a_lawEach, .ref a_lawFrom, .ref a_foes, .ref a_suitTable, .ref a_acts])), (h1, .inr (2, [.int i0, .int i1, .int i2, .int i3, .int i4, .int i5, .ref b_first, .ref b_now, .ref b_lawPlace, .ref b_lawOther, .ref b_lawEach, .ref b_lawFrom, .ref b_foes, .ref b_suitTable, .ref b_acts])), (a_first, .inl (cyI, 7, .inl fa0)), (a_now, .inl (cyI, 7, .inl fa1)), (a_lawPlace, .inl (cyI, 6, .inl fa2)), (a_lawOther, .inl (cyI, 6, .inl fa3)), (a_lawEach, .inl (cyI, 6, .inl fa4)), (a_lawFrom, .inl (cyI, 6, .inl fa5)), (a_foes, .inl (cyI, 7, .inl fa6)), (a_suitTable, .inl (cyI, 49, .inl fa7)), (a_acts, .inl (cyI, 40, .inl fa8)), (b_first, .inl (cyI, 7, .inl fb0)), (b_now, .inl (cyI, 7, .inl fb1)), (b_lawPlace, .inl (cyI, 6, .inl fb2)), (b_lawOther, .inl (cyI, 6, .inl fb3)), (b_lawEach, .inl (cyI, 6, .inl fb4)), (b_lawFrom, .inl (cyI, 6, .inl fb5)), (b_foes, .inl (cyI, 7, .inl fb6)), (b_suitTable, .inl (cyI, 49, .inl fb7)), (b_acts, .inl (cyI, 40, .inl fb8))] := hD
  refine lv_aload_n hx hb dX2_become_40 rfl (lv_at hl 0 rfl) ?_
  refine lv_aload_n hx hb dX2_become_41 rfl (lv_at hl 1 rfl) ?_
  refine va_get (D := (dC, dI)) (ci := 2) (v := .int i5) (C := RX2) (T := TX2) (N := 15) hx hb hts uinX2 hown hK hP 1 rfl rfl 5 (by decide) (hts _ wd_1_97) (fun _ h9 => h9) rfl dX2_become_42 ?_
  refine va_put (D := (dC, dI)) (ci := 2) (v := .int i5) (ty := .int) (C := RX2) (T := TX2) (N := 15) hx hb hts uinX2 tyX2 tyX2_ok nmX2 hown hK hP hD hS 0 rfl rfl 5 (by decide) (hts _ wd_1_97) (fun _ h9 => h9) rfl (by decide +kernel) rfl rfl (Nat.le_of_ble_eq_true rfl) dX2_become_45 (fun H locs hP hD hS => ?_)
  have hP : va_P (dC, dI) vwCl [(h0, .inr (2, [.int i0, .int i1, .int i2, .int i3, .int i4, .int i5, .ref a_first, .ref a_now, .ref a_lawPlace, .ref a_lawOther, .ref a_lawEach, .ref a_lawFrom, .ref a_foes, .ref a_suitTable, .ref a_acts])), (h1, .inr (2, [.int i0, .int i1, .int i2, .int i3, .int i4, .int i5, .ref b_first, .ref b_now, .ref b_lawPlace, .ref b_lawOther, .ref b_lawEach, .ref b_lawFrom, .ref b_foes, .ref b_suitTable, .ref b_acts])), (a_first, .inl (cyI, 7, .inl fa0)), (a_now, .inl (cyI, 7, .inl fa1)), (a_lawPlace, .inl (cyI, 6, .inl fa2)), (a_lawOther, .inl (cyI, 6, .inl fa3)), (a_lawEach, .inl (cyI, 6, .inl fa4)), (a_lawFrom, .inl (cyI, 6, .inl fa5)), (a_foes, .inl (cyI, 7, .inl fa6)), (a_suitTable, .inl (cyI, 49, .inl fa7)), (a_acts, .inl (cyI, 40, .inl fa8)), (b_first, .inl (cyI, 7, .inl fb0)), (b_now, .inl (cyI, 7, .inl fb1)), (b_lawPlace, .inl (cyI, 6, .inl fb2)), (b_lawOther, .inl (cyI, 6, .inl fb3)), (b_lawEach, .inl (cyI, 6, .inl fb4)), (b_lawFrom, .inl (cyI, 6, .inl fb5)), (b_foes, .inl (cyI, 7, .inl fb6)), (b_suitTable, .inl (cyI, 49, .inl fb7)), (b_acts, .inl (cyI, 40, .inl fb8))] H := hP
  have hD : va_D A [(h0, .inr (2, [.int i0, .int i1, .int i2, .int i3, .int i4, .int i5, .ref a_first, .ref a_now, .ref a_lawPlace, .ref a_lawOther, .ref a_lawEach, .ref a_lawFrom, .ref a_foes, .ref a_suitTable, .ref a_acts])), (h1, .inr (2, [.int i0, .int i1, .int i2, .int i3, .int i4, .int i5, .ref b_first, .ref b_now, .ref b_lawPlace, .ref b_lawOther, .ref b_lawEach, .ref b_lawFrom, .ref b_foes, .ref b_suitTable, .ref b_acts])), (a_first, .inl (cyI, 7, .inl fa0)), (a_now, .inl (cyI, 7, .inl fa1)), (a_lawPlace, .inl (cyI, 6, .inl fa2)), (a_lawOther, .inl (cyI, 6, .inl fa3)), (a_lawEach, .inl (cyI, 6, .inl fa4)), (a_lawFrom, .inl (cyI, 6, .inl fa5)), (a_foes, .inl (cyI, 7, .inl fa6)), (a_suitTable, .inl (cyI, 49, .inl fa7)), (a_acts, .inl (cyI, 40, .inl fa8)), (b_first, .inl (cyI, 7, .inl fb0)), (b_now, .inl (cyI, 7, .inl fb1)), (b_lawPlace, .inl (cyI, 6, .inl fb2)), (b_lawOther, .inl (cyI, 6, .inl fb3)), (b_lawEach, .inl (cyI, 6, .inl fb4)), (b_lawFrom, .inl (cyI, 6, .inl fb5)), (b_foes, .inl (cyI, 7, .inl fb6)), (b_suitTable, .inl (cyI, 49, .inl fb7)), (b_acts, .inl (cyI, 40, .inl fb8))] := hD
  refine lv_aload_n hx hb dX2_become_48 rfl (lv_at hl 1 rfl) ?_
  refine va_get (D := (dC, dI)) (ci := 2) (v := .ref b_first) (C := RX2) (T := TX2) (N := 15) hx hb hts uinX2 hown hK hP 1 rfl rfl 6 (by decide) (hts _ wd_1_100) (fun _ h9 => h9) rfl dX2_become_49 ?_
  refine lv_iconst (v := 0) hx hb dX2_become_52 (by decide) ?_
  refine lv_aload_n hx hb dX2_become_53 rfl (lv_at hl 0 rfl) ?_
  refine va_get (D := (dC, dI)) (ci := 2) (v := .ref a_first) (C := RX2) (T := TX2) (N := 15) hx hb hts uinX2 hown hK hP 0 rfl rfl 6 (by decide) (hts _ wd_1_100) (fun _ h9 => h9) rfl dX2_become_54 ?_
  refine lv_iconst (v := 0) hx hb dX2_become_57 (by decide) ?_
  refine lv_bipush (v := 7) hx hb dX2_become_58 (by decide) ?_
  refine va_copyi (ty := .int) hx hb (by rw [hml]; exact hl.1.symm) hown (hts _ wd_3_41) (hts _ wd_3_43) (hts _ wd_3_42) (hts _ wd_1_18) hK hP hD hS 11 2 0 0 rfl rfl rfl rfl rfl (by decide) (by decide) (by decide) (by decide) (by decide) (fun _ _ => rfl) (Nat.le_of_ble_eq_true rfl) (Nat.le_of_ble_eq_true rfl) dX2_become_60 (fun H locs hP hD hS => ?_)
  obtain ⟨f_1, ef_1⟩ : ∃ z9 : Nat → Int32, z9 = va_cpy fb0 fa0 (0 : Int32).toNatClampNeg (0 : Int32).toNatClampNeg (7 : Int32).toNatClampNeg := ⟨_, rfl⟩
  rw [← ef_1] at hP hD
  have hP : va_P (dC, dI) vwCl [(h0, .inr (2, [.int i0, .int i1, .int i2, .int i3, .int i4, .int i5, .ref a_first, .ref a_now, .ref a_lawPlace, .ref a_lawOther, .ref a_lawEach, .ref a_lawFrom, .ref a_foes, .ref a_suitTable, .ref a_acts])), (h1, .inr (2, [.int i0, .int i1, .int i2, .int i3, .int i4, .int i5, .ref b_first, .ref b_now, .ref b_lawPlace, .ref b_lawOther, .ref b_lawEach, .ref b_lawFrom, .ref b_foes, .ref b_suitTable, .ref b_acts])), (a_first, .inl (cyI, 7, .inl f_1)), (a_now, .inl (cyI, 7, .inl fa1)), (a_lawPlace, .inl (cyI, 6, .inl fa2)), (a_lawOther, .inl (cyI, 6, .inl fa3)), (a_lawEach, .inl (cyI, 6, .inl fa4)), (a_lawFrom, .inl (cyI, 6, .inl fa5)), (a_foes, .inl (cyI, 7, .inl fa6)), (a_suitTable, .inl (cyI, 49, .inl fa7)), (a_acts, .inl (cyI, 40, .inl fa8)), (b_first, .inl (cyI, 7, .inl fb0)), (b_now, .inl (cyI, 7, .inl fb1)), (b_lawPlace, .inl (cyI, 6, .inl fb2)), (b_lawOther, .inl (cyI, 6, .inl fb3)), (b_lawEach, .inl (cyI, 6, .inl fb4)), (b_lawFrom, .inl (cyI, 6, .inl fb5)), (b_foes, .inl (cyI, 7, .inl fb6)), (b_suitTable, .inl (cyI, 49, .inl fb7)), (b_acts, .inl (cyI, 40, .inl fb8))] H := hP
  have hD : va_D A [(h0, .inr (2, [.int i0, .int i1, .int i2, .int i3, .int i4, .int i5, .ref a_first, .ref a_now, .ref a_lawPlace, .ref a_lawOther, .ref a_lawEach, .ref a_lawFrom, .ref a_foes, .ref a_suitTable, .ref a_acts])), (h1, .inr (2, [.int i0, .int i1, .int i2, .int i3, .int i4, .int i5, .ref b_first, .ref b_now, .ref b_lawPlace, .ref b_lawOther, .ref b_lawEach, .ref b_lawFrom, .ref b_foes, .ref b_suitTable, .ref b_acts])), (a_first, .inl (cyI, 7, .inl f_1)), (a_now, .inl (cyI, 7, .inl fa1)), (a_lawPlace, .inl (cyI, 6, .inl fa2)), (a_lawOther, .inl (cyI, 6, .inl fa3)), (a_lawEach, .inl (cyI, 6, .inl fa4)), (a_lawFrom, .inl (cyI, 6, .inl fa5)), (a_foes, .inl (cyI, 7, .inl fa6)), (a_suitTable, .inl (cyI, 49, .inl fa7)), (a_acts, .inl (cyI, 40, .inl fa8)), (b_first, .inl (cyI, 7, .inl fb0)), (b_now, .inl (cyI, 7, .inl fb1)), (b_lawPlace, .inl (cyI, 6, .inl fb2)), (b_lawOther, .inl (cyI, 6, .inl fb3)), (b_lawEach, .inl (cyI, 6, .inl fb4)), (b_lawFrom, .inl (cyI, 6, .inl fb5)), (b_foes, .inl (cyI, 7, .inl fb6)), (b_suitTable, .inl (cyI, 49, .inl fb7)), (b_acts, .inl (cyI, 40, .inl fb8))] := hD
  refine lv_aload_n hx hb dX2_become_63 rfl (lv_at hl 1 rfl) ?_
  refine va_get (D := (dC, dI)) (ci := 2) (v := .ref b_now) (C := RX2) (T := TX2) (N := 15) hx hb hts uinX2 hown hK hP 1 rfl rfl 7 (by decide) (hts _ wd_1_102) (fun _ h9 => h9) rfl dX2_become_64 ?_
  refine lv_iconst (v := 0) hx hb dX2_become_67 (by decide) ?_
  refine lv_aload_n hx hb dX2_become_68 rfl (lv_at hl 0 rfl) ?_
  refine va_get (D := (dC, dI)) (ci := 2) (v := .ref a_now) (C := RX2) (T := TX2) (N := 15) hx hb hts uinX2 hown hK hP 0 rfl rfl 7 (by decide) (hts _ wd_1_102) (fun _ h9 => h9) rfl dX2_become_69 ?_
  refine lv_iconst (v := 0) hx hb dX2_become_72 (by decide) ?_
  refine lv_bipush (v := 7) hx hb dX2_become_73 (by decide) ?_
  refine va_copyi (ty := .int) hx hb (by rw [hml]; exact hl.1.symm) hown (hts _ wd_3_41) (hts _ wd_3_43) (hts _ wd_3_42) (hts _ wd_1_18) hK hP hD hS 12 3 0 0 rfl rfl rfl rfl rfl (by decide) (by decide) (by decide) (by decide) (by decide) (fun _ _ => rfl) (Nat.le_of_ble_eq_true rfl) (Nat.le_of_ble_eq_true rfl) dX2_become_75 (fun H locs hP hD hS => ?_)
  obtain ⟨f_2, ef_2⟩ : ∃ z9 : Nat → Int32, z9 = va_cpy fb1 fa1 (0 : Int32).toNatClampNeg (0 : Int32).toNatClampNeg (7 : Int32).toNatClampNeg := ⟨_, rfl⟩
  rw [← ef_2] at hP hD
  have hP : va_P (dC, dI) vwCl [(h0, .inr (2, [.int i0, .int i1, .int i2, .int i3, .int i4, .int i5, .ref a_first, .ref a_now, .ref a_lawPlace, .ref a_lawOther, .ref a_lawEach, .ref a_lawFrom, .ref a_foes, .ref a_suitTable, .ref a_acts])), (h1, .inr (2, [.int i0, .int i1, .int i2, .int i3, .int i4, .int i5, .ref b_first, .ref b_now, .ref b_lawPlace, .ref b_lawOther, .ref b_lawEach, .ref b_lawFrom, .ref b_foes, .ref b_suitTable, .ref b_acts])), (a_first, .inl (cyI, 7, .inl f_1)), (a_now, .inl (cyI, 7, .inl f_2)), (a_lawPlace, .inl (cyI, 6, .inl fa2)), (a_lawOther, .inl (cyI, 6, .inl fa3)), (a_lawEach, .inl (cyI, 6, .inl fa4)), (a_lawFrom, .inl (cyI, 6, .inl fa5)), (a_foes, .inl (cyI, 7, .inl fa6)), (a_suitTable, .inl (cyI, 49, .inl fa7)), (a_acts, .inl (cyI, 40, .inl fa8)), (b_first, .inl (cyI, 7, .inl fb0)), (b_now, .inl (cyI, 7, .inl fb1)), (b_lawPlace, .inl (cyI, 6, .inl fb2)), (b_lawOther, .inl (cyI, 6, .inl fb3)), (b_lawEach, .inl (cyI, 6, .inl fb4)), (b_lawFrom, .inl (cyI, 6, .inl fb5)), (b_foes, .inl (cyI, 7, .inl fb6)), (b_suitTable, .inl (cyI, 49, .inl fb7)), (b_acts, .inl (cyI, 40, .inl fb8))] H := hP
  have hD : va_D A [(h0, .inr (2, [.int i0, .int i1, .int i2, .int i3, .int i4, .int i5, .ref a_first, .ref a_now, .ref a_lawPlace, .ref a_lawOther, .ref a_lawEach, .ref a_lawFrom, .ref a_foes, .ref a_suitTable, .ref a_acts])), (h1, .inr (2, [.int i0, .int i1, .int i2, .int i3, .int i4, .int i5, .ref b_first, .ref b_now, .ref b_lawPlace, .ref b_lawOther, .ref b_lawEach, .ref b_lawFrom, .ref b_foes, .ref b_suitTable, .ref b_acts])), (a_first, .inl (cyI, 7, .inl f_1)), (a_now, .inl (cyI, 7, .inl f_2)), (a_lawPlace, .inl (cyI, 6, .inl fa2)), (a_lawOther, .inl (cyI, 6, .inl fa3)), (a_lawEach, .inl (cyI, 6, .inl fa4)), (a_lawFrom, .inl (cyI, 6, .inl fa5)), (a_foes, .inl (cyI, 7, .inl fa6)), (a_suitTable, .inl (cyI, 49, .inl fa7)), (a_acts, .inl (cyI, 40, .inl fa8)), (b_first, .inl (cyI, 7, .inl fb0)), (b_now, .inl (cyI, 7, .inl fb1)), (b_lawPlace, .inl (cyI, 6, .inl fb2)), (b_lawOther, .inl (cyI, 6, .inl fb3)), (b_lawEach, .inl (cyI, 6, .inl fb4)), (b_lawFrom, .inl (cyI, 6, .inl fb5)), (b_foes, .inl (cyI, 7, .inl fb6)), (b_suitTable, .inl (cyI, 49, .inl fb7)), (b_acts, .inl (cyI, 40, .inl fb8))] := hD
  refine lv_aload_n hx hb dX2_become_78 rfl (lv_at hl 1 rfl) ?_
  refine va_get (D := (dC, dI)) (ci := 2) (v := .ref b_lawPlace) (C := RX2) (T := TX2) (N := 15) hx hb hts uinX2 hown hK hP 1 rfl rfl 8 (by decide) (hts _ wd_1_107) (fun _ h9 => h9) rfl dX2_become_79 ?_
  refine lv_iconst (v := 0) hx hb dX2_become_82 (by decide) ?_
  refine lv_aload_n hx hb dX2_become_83 rfl (lv_at hl 0 rfl) ?_
  refine va_get (D := (dC, dI)) (ci := 2) (v := .ref a_lawPlace) (C := RX2) (T := TX2) (N := 15) hx hb hts uinX2 hown hK hP 0 rfl rfl 8 (by decide) (hts _ wd_1_107) (fun _ h9 => h9) rfl dX2_become_84 ?_
  refine lv_iconst (v := 0) hx hb dX2_become_87 (by decide) ?_
  refine lv_bipush (v := 6) hx hb dX2_become_88 (by decide) ?_
  refine va_copyi (ty := .int) hx hb (by rw [hml]; exact hl.1.symm) hown (hts _ wd_3_41) (hts _ wd_3_43) (hts _ wd_3_42) (hts _ wd_1_18) hK hP hD hS 13 4 0 0 rfl rfl rfl rfl rfl (by decide) (by decide) (by decide) (by decide) (by decide) (fun _ _ => rfl) (Nat.le_of_ble_eq_true rfl) (Nat.le_of_ble_eq_true rfl) dX2_become_90 (fun H locs hP hD hS => ?_)
  obtain ⟨f_3, ef_3⟩ : ∃ z9 : Nat → Int32, z9 = va_cpy fb2 fa2 (0 : Int32).toNatClampNeg (0 : Int32).toNatClampNeg (6 : Int32).toNatClampNeg := ⟨_, rfl⟩
  rw [← ef_3] at hP hD
  have hP : va_P (dC, dI) vwCl [(h0, .inr (2, [.int i0, .int i1, .int i2, .int i3, .int i4, .int i5, .ref a_first, .ref a_now, .ref a_lawPlace, .ref a_lawOther, .ref a_lawEach, .ref a_lawFrom, .ref a_foes, .ref a_suitTable, .ref a_acts])), (h1, .inr (2, [.int i0, .int i1, .int i2, .int i3, .int i4, .int i5, .ref b_first, .ref b_now, .ref b_lawPlace, .ref b_lawOther, .ref b_lawEach, .ref b_lawFrom, .ref b_foes, .ref b_suitTable, .ref b_acts])), (a_first, .inl (cyI, 7, .inl f_1)), (a_now, .inl (cyI, 7, .inl f_2)), (a_lawPlace, .inl (cyI, 6, .inl f_3)), (a_lawOther, .inl (cyI, 6, .inl fa3)), (a_lawEach, .inl (cyI, 6, .inl fa4)), (a_lawFrom, .inl (cyI, 6, .inl fa5)), (a_foes, .inl (cyI, 7, .inl fa6)), (a_suitTable, .inl (cyI, 49, .inl fa7)), (a_acts, .inl (cyI, 40, .inl fa8)), (b_first, .inl (cyI, 7, .inl fb0)), (b_now, .inl (cyI, 7, .inl fb1)), (b_lawPlace, .inl (cyI, 6, .inl fb2)), (b_lawOther, .inl (cyI, 6, .inl fb3)), (b_lawEach, .inl (cyI, 6, .inl fb4)), (b_lawFrom, .inl (cyI, 6, .inl fb5)), (b_foes, .inl (cyI, 7, .inl fb6)), (b_suitTable, .inl (cyI, 49, .inl fb7)), (b_acts, .inl (cyI, 40, .inl fb8))] H := hP
  have hD : va_D A [(h0, .inr (2, [.int i0, .int i1, .int i2, .int i3, .int i4, .int i5, .ref a_first, .ref a_now, .ref a_lawPlace, .ref a_lawOther, .ref a_lawEach, .ref a_lawFrom, .ref a_foes, .ref a_suitTable, .ref a_acts])), (h1, .inr (2, [.int i0, .int i1, .int i2, .int i3, .int i4, .int i5, .ref b_first, .ref b_now, .ref b_lawPlace, .ref b_lawOther, .ref b_lawEach, .ref b_lawFrom, .ref b_foes, .ref b_suitTable, .ref b_acts])), (a_first, .inl (cyI, 7, .inl f_1)), (a_now, .inl (cyI, 7, .inl f_2)), (a_lawPlace, .inl (cyI, 6, .inl f_3)), (a_lawOther, .inl (cyI, 6, .inl fa3)), (a_lawEach, .inl (cyI, 6, .inl fa4)), (a_lawFrom, .inl (cyI, 6, .inl fa5)), (a_foes, .inl (cyI, 7, .inl fa6)), (a_suitTable, .inl (cyI, 49, .inl fa7)), (a_acts, .inl (cyI, 40, .inl fa8)), (b_first, .inl (cyI, 7, .inl fb0)), (b_now, .inl (cyI, 7, .inl fb1)), (b_lawPlace, .inl (cyI, 6, .inl fb2)), (b_lawOther, .inl (cyI, 6, .inl fb3)), (b_lawEach, .inl (cyI, 6, .inl fb4)), (b_lawFrom, .inl (cyI, 6, .inl fb5)), (b_foes, .inl (cyI, 7, .inl fb6)), (b_suitTable, .inl (cyI, 49, .inl fb7)), (b_acts, .inl (cyI, 40, .inl fb8))] := hD
  refine lv_aload_n hx hb dX2_become_93 rfl (lv_at hl 1 rfl) ?_
  refine va_get (D := (dC, dI)) (ci := 2) (v := .ref b_lawOther) (C := RX2) (T := TX2) (N := 15) hx hb hts uinX2 hown hK hP 1 rfl rfl 9 (by decide) (hts _ wd_1_110) (fun _ h9 => h9) rfl dX2_become_94 ?_
  refine lv_iconst (v := 0) hx hb dX2_become_97 (by decide) ?_
  refine lv_aload_n hx hb dX2_become_98 rfl (lv_at hl 0 rfl) ?_
  refine va_get (D := (dC, dI)) (ci := 2) (v := .ref a_lawOther) (C := RX2) (T := TX2) (N := 15) hx hb hts uinX2 hown hK hP 0 rfl rfl 9 (by decide) (hts _ wd_1_110) (fun _ h9 => h9) rfl dX2_become_99 ?_
  refine lv_iconst (v := 0) hx hb dX2_become_102 (by decide) ?_
  refine lv_bipush (v := 6) hx hb dX2_become_103 (by decide) ?_
  refine va_copyi (ty := .int) hx hb (by rw [hml]; exact hl.1.symm) hown (hts _ wd_3_41) (hts _ wd_3_43) (hts _ wd_3_42) (hts _ wd_1_18) hK hP hD hS 14 5 0 0 rfl rfl rfl rfl rfl (by decide) (by decide) (by decide) (by decide) (by decide) (fun _ _ => rfl) (Nat.le_of_ble_eq_true rfl) (Nat.le_of_ble_eq_true rfl) dX2_become_105 (fun H locs hP hD hS => ?_)
  obtain ⟨f_4, ef_4⟩ : ∃ z9 : Nat → Int32, z9 = va_cpy fb3 fa3 (0 : Int32).toNatClampNeg (0 : Int32).toNatClampNeg (6 : Int32).toNatClampNeg := ⟨_, rfl⟩
  rw [← ef_4] at hP hD
  have hP : va_P (dC, dI) vwCl [(h0, .inr (2, [.int i0, .int i1, .int i2, .int i3, .int i4, .int i5, .ref a_first, .ref a_now, .ref a_lawPlace, .ref a_lawOther, .ref a_lawEach, .ref a_lawFrom, .ref a_foes, .ref a_suitTable, .ref a_acts])), (h1, .inr (2, [.int i0, .int i1, .int i2, .int i3, .int i4, .int i5, .ref b_first, .ref b_now, .ref b_lawPlace, .ref b_lawOther, .ref b_lawEach, .ref b_lawFrom, .ref b_foes, .ref b_suitTable, .ref b_acts])), (a_first, .inl (cyI, 7, .inl f_1)), (a_now, .inl (cyI, 7, .inl f_2)), (a_lawPlace, .inl (cyI, 6, .inl f_3)), (a_lawOther, .inl (cyI, 6, .inl f_4)), (a_lawEach, .inl (cyI, 6, .inl fa4)), (a_lawFrom, .inl (cyI, 6, .inl fa5)), (a_foes, .inl (cyI, 7, .inl fa6)), (a_suitTable, .inl (cyI, 49, .inl fa7)), (a_acts, .inl (cyI, 40, .inl fa8)), (b_first, .inl (cyI, 7, .inl fb0)), (b_now, .inl (cyI, 7, .inl fb1)), (b_lawPlace, .inl (cyI, 6, .inl fb2)), (b_lawOther, .inl (cyI, 6, .inl fb3)), (b_lawEach, .inl (cyI, 6, .inl fb4)), (b_lawFrom, .inl (cyI, 6, .inl fb5)), (b_foes, .inl (cyI, 7, .inl fb6)), (b_suitTable, .inl (cyI, 49, .inl fb7)), (b_acts, .inl (cyI, 40, .inl fb8))] H := hP
  have hD : va_D A [(h0, .inr (2, [.int i0, .int i1, .int i2, .int i3, .int i4, .int i5, .ref a_first, .ref a_now, .ref a_lawPlace, .ref a_lawOther, .ref a_lawEach, .ref a_lawFrom, .ref a_foes, .ref a_suitTable, .ref a_acts])), (h1, .inr (2, [.int i0, .int i1, .int i2, .int i3, .int i4, .int i5, .ref b_first, .ref b_now, .ref b_lawPlace, .ref b_lawOther, .ref b_lawEach, .ref b_lawFrom, .ref b_foes, .ref b_suitTable, .ref b_acts])), (a_first, .inl (cyI, 7, .inl f_1)), (a_now, .inl (cyI, 7, .inl f_2)), (a_lawPlace, .inl (cyI, 6, .inl f_3)), (a_lawOther, .inl (cyI, 6, .inl f_4)), (a_lawEach, .inl (cyI, 6, .inl fa4)), (a_lawFrom, .inl (cyI, 6, .inl fa5)), (a_foes, .inl (cyI, 7, .inl fa6)), (a_suitTable, .inl (cyI, 49, .inl fa7)), (a_acts, .inl (cyI, 40, .inl fa8)), (b_first, .inl (cyI, 7, .inl fb0)), (b_now, .inl (cyI, 7, .inl fb1)), (b_lawPlace, .inl (cyI, 6, .inl fb2)), (b_lawOther, .inl (cyI, 6, .inl fb3)), (b_lawEach, .inl (cyI, 6, .inl fb4)), (b_lawFrom, .inl (cyI, 6, .inl fb5)), (b_foes, .inl (cyI, 7, .inl fb6)), (b_suitTable, .inl (cyI, 49, .inl fb7)), (b_acts, .inl (cyI, 40, .inl fb8))] := hD
  refine lv_aload_n hx hb dX2_become_108 rfl (lv_at hl 1 rfl) ?_
  refine va_get (D := (dC, dI)) (ci := 2) (v := .ref b_lawEach) (C := RX2) (T := TX2) (N := 15) hx hb hts uinX2 hown hK hP 1 rfl rfl 10 (by decide) (hts _ wd_1_113) (fun _ h9 => h9) rfl dX2_become_109 ?_
  refine lv_iconst (v := 0) hx hb dX2_become_112 (by decide) ?_
  refine lv_aload_n hx hb dX2_become_113 rfl (lv_at hl 0 rfl) ?_
  refine va_get (D := (dC, dI)) (ci := 2) (v := .ref a_lawEach) (C := RX2) (T := TX2) (N := 15) hx hb hts uinX2 hown hK hP 0 rfl rfl 10 (by decide) (hts _ wd_1_113) (fun _ h9 => h9) rfl dX2_become_114 ?_
  refine lv_iconst (v := 0) hx hb dX2_become_117 (by decide) ?_
  refine lv_bipush (v := 6) hx hb dX2_become_118 (by decide) ?_
  refine va_copyi (ty := .int) hx hb (by rw [hml]; exact hl.1.symm) hown (hts _ wd_3_41) (hts _ wd_3_43) (hts _ wd_3_42) (hts _ wd_1_18) hK hP hD hS 15 6 0 0 rfl rfl rfl rfl rfl (by decide) (by decide) (by decide) (by decide) (by decide) (fun _ _ => rfl) (Nat.le_of_ble_eq_true rfl) (Nat.le_of_ble_eq_true rfl) dX2_become_120 (fun H locs hP hD hS => ?_)
  obtain ⟨f_5, ef_5⟩ : ∃ z9 : Nat → Int32, z9 = va_cpy fb4 fa4 (0 : Int32).toNatClampNeg (0 : Int32).toNatClampNeg (6 : Int32).toNatClampNeg := ⟨_, rfl⟩
  rw [← ef_5] at hP hD
  have hP : va_P (dC, dI) vwCl [(h0, .inr (2, [.int i0, .int i1, .int i2, .int i3, .int i4, .int i5, .ref a_first, .ref a_now, .ref a_lawPlace, .ref a_lawOther, .ref a_lawEach, .ref a_lawFrom, .ref a_foes, .ref a_suitTable, .ref a_acts])), (h1, .inr (2, [.int i0, .int i1, .int i2, .int i3, .int i4, .int i5, .ref b_first, .ref b_now, .ref b_lawPlace, .ref b_lawOther, .ref b_lawEach, .ref b_lawFrom, .ref b_foes, .ref b_suitTable, .ref b_acts])), (a_first, .inl (cyI, 7, .inl f_1)), (a_now, .inl (cyI, 7, .inl f_2)), (a_lawPlace, .inl (cyI, 6, .inl f_3)), (a_lawOther, .inl (cyI, 6, .inl f_4)), (a_lawEach, .inl (cyI, 6, .inl f_5)), (a_lawFrom, .inl (cyI, 6, .inl fa5)), (a_foes, .inl (cyI, 7, .inl fa6)), (a_suitTable, .inl (cyI, 49, .inl fa7)), (a_acts, .inl (cyI, 40, .inl fa8)), (b_first, .inl (cyI, 7, .inl fb0)), (b_now, .inl (cyI, 7, .inl fb1)), (b_lawPlace, .inl (cyI, 6, .inl fb2)), (b_lawOther, .inl (cyI, 6, .inl fb3)), (b_lawEach, .inl (cyI, 6, .inl fb4)), (b_lawFrom, .inl (cyI, 6, .inl fb5)), (b_foes, .inl (cyI, 7, .inl fb6)), (b_suitTable, .inl (cyI, 49, .inl fb7)), (b_acts, .inl (cyI, 40, .inl fb8))] H := hP
  have hD : va_D A [(h0, .inr (2, [.int i0, .int i1, .int i2, .int i3, .int i4, .int i5, .ref a_first, .ref a_now, .ref a_lawPlace, .ref a_lawOther, .ref a_lawEach, .ref a_lawFrom, .ref a_foes, .ref a_suitTable, .ref a_acts])), (h1, .inr (2, [.int i0, .int i1, .int i2, .int i3, .int i4, .int i5, .ref b_first, .ref b_now, .ref b_lawPlace, .ref b_lawOther, .ref b_lawEach, .ref b_lawFrom, .ref b_foes, .ref b_suitTable, .ref b_acts])), (a_first, .inl (cyI, 7, .inl f_1)), (a_now, .inl (cyI, 7, .inl f_2)), (a_lawPlace, .inl (cyI, 6, .inl f_3)), (a_lawOther, .inl (cyI, 6, .inl f_4)), (a_lawEach, .inl (cyI, 6, .inl f_5)), (a_lawFrom, .inl (cyI, 6, .inl fa5)), (a_foes, .inl (cyI, 7, .inl fa6)), (a_suitTable, .inl (cyI, 49, .inl fa7)), (a_acts, .inl (cyI, 40, .inl fa8)), (b_first, .inl (cyI, 7, .inl fb0)), (b_now, .inl (cyI, 7, .inl fb1)), (b_lawPlace, .inl (cyI, 6, .inl fb2)), (b_lawOther, .inl (cyI, 6, .inl fb3)), (b_lawEach, .inl (cyI, 6, .inl fb4)), (b_lawFrom, .inl (cyI, 6, .inl fb5)), (b_foes, .inl (cyI, 7, .inl fb6)), (b_suitTable, .inl (cyI, 49, .inl fb7)), (b_acts, .inl (cyI, 40, .inl fb8))] := hD
  refine lv_aload_n hx hb dX2_become_123 rfl (lv_at hl 1 rfl) ?_
  refine va_get (D := (dC, dI)) (ci := 2) (v := .ref b_lawFrom) (C := RX2) (T := TX2) (N := 15) hx hb hts uinX2 hown hK hP 1 rfl rfl 11 (by decide) (hts _ wd_1_116) (fun _ h9 => h9) rfl dX2_become_124 ?_
  refine lv_iconst (v := 0) hx hb dX2_become_127 (by decide) ?_
  refine lv_aload_n hx hb dX2_become_128 rfl (lv_at hl 0 rfl) ?_
  refine va_get (D := (dC, dI)) (ci := 2) (v := .ref a_lawFrom) (C := RX2) (T := TX2) (N := 15) hx hb hts uinX2 hown hK hP 0 rfl rfl 11 (by decide) (hts _ wd_1_116) (fun _ h9 => h9) rfl dX2_become_129 ?_
  refine lv_iconst (v := 0) hx hb dX2_become_132 (by decide) ?_
  refine lv_bipush (v := 6) hx hb dX2_become_133 (by decide) ?_
  refine va_copyi (ty := .int) hx hb (by rw [hml]; exact hl.1.symm) hown (hts _ wd_3_41) (hts _ wd_3_43) (hts _ wd_3_42) (hts _ wd_1_18) hK hP hD hS 16 7 0 0 rfl rfl rfl rfl rfl (by decide) (by decide) (by decide) (by decide) (by decide) (fun _ _ => rfl) (Nat.le_of_ble_eq_true rfl) (Nat.le_of_ble_eq_true rfl) dX2_become_135 (fun H locs hP hD hS => ?_)
  obtain ⟨f_6, ef_6⟩ : ∃ z9 : Nat → Int32, z9 = va_cpy fb5 fa5 (0 : Int32).toNatClampNeg (0 : Int32).toNatClampNeg (6 : Int32).toNatClampNeg := ⟨_, rfl⟩
  rw [← ef_6] at hP hD
  have hP : va_P (dC, dI) vwCl [(h0, .inr (2, [.int i0, .int i1, .int i2, .int i3, .int i4, .int i5, .ref a_first, .ref a_now, .ref a_lawPlace, .ref a_lawOther, .ref a_lawEach, .ref a_lawFrom, .ref a_foes, .ref a_suitTable, .ref a_acts])), (h1, .inr (2, [.int i0, .int i1, .int i2, .int i3, .int i4, .int i5, .ref b_first, .ref b_now, .ref b_lawPlace, .ref b_lawOther, .ref b_lawEach, .ref b_lawFrom, .ref b_foes, .ref b_suitTable, .ref b_acts])), (a_first, .inl (cyI, 7, .inl f_1)), (a_now, .inl (cyI, 7, .inl f_2)), (a_lawPlace, .inl (cyI, 6, .inl f_3)), (a_lawOther, .inl (cyI, 6, .inl f_4)), (a_lawEach, .inl (cyI, 6, .inl f_5)), (a_lawFrom, .inl (cyI, 6, .inl f_6)), (a_foes, .inl (cyI, 7, .inl fa6)), (a_suitTable, .inl (cyI, 49, .inl fa7)), (a_acts, .inl (cyI, 40, .inl fa8)), (b_first, .inl (cyI, 7, .inl fb0)), (b_now, .inl (cyI, 7, .inl fb1)), (b_lawPlace, .inl (cyI, 6, .inl fb2)), (b_lawOther, .inl (cyI, 6, .inl fb3)), (b_lawEach, .inl (cyI, 6, .inl fb4)), (b_lawFrom, .inl (cyI, 6, .inl fb5)), (b_foes, .inl (cyI, 7, .inl fb6)), (b_suitTable, .inl (cyI, 49, .inl fb7)), (b_acts, .inl (cyI, 40, .inl fb8))] H := hP
  have hD : va_D A [(h0, .inr (2, [.int i0, .int i1, .int i2, .int i3, .int i4, .int i5, .ref a_first, .ref a_now, .ref a_lawPlace, .ref a_lawOther, .ref a_lawEach, .ref a_lawFrom, .ref a_foes, .ref a_suitTable, .ref a_acts])), (h1, .inr (2, [.int i0, .int i1, .int i2, .int i3, .int i4, .int i5, .ref b_first, .ref b_now, .ref b_lawPlace, .ref b_lawOther, .ref b_lawEach, .ref b_lawFrom, .ref b_foes, .ref b_suitTable, .ref b_acts])), (a_first, .inl (cyI, 7, .inl f_1)), (a_now, .inl (cyI, 7, .inl f_2)), (a_lawPlace, .inl (cyI, 6, .inl f_3)), (a_lawOther, .inl (cyI, 6, .inl f_4)), (a_lawEach, .inl (cyI, 6, .inl f_5)), (a_lawFrom, .inl (cyI, 6, .inl f_6)), (a_foes, .inl (cyI, 7, .inl fa6)), (a_suitTable, .inl (cyI, 49, .inl fa7)), (a_acts, .inl (cyI, 40, .inl fa8)), (b_first, .inl (cyI, 7, .inl fb0)), (b_now, .inl (cyI, 7, .inl fb1)), (b_lawPlace, .inl (cyI, 6, .inl fb2)), (b_lawOther, .inl (cyI, 6, .inl fb3)), (b_lawEach, .inl (cyI, 6, .inl fb4)), (b_lawFrom, .inl (cyI, 6, .inl fb5)), (b_foes, .inl (cyI, 7, .inl fb6)), (b_suitTable, .inl (cyI, 49, .inl fb7)), (b_acts, .inl (cyI, 40, .inl fb8))] := hD
  refine lv_aload_n hx hb dX2_become_138 rfl (lv_at hl 1 rfl) ?_
  refine va_get (D := (dC, dI)) (ci := 2) (v := .ref b_foes) (C := RX2) (T := TX2) (N := 15) hx hb hts uinX2 hown hK hP 1 rfl rfl 12 (by decide) (hts _ wd_1_119) (fun _ h9 => h9) rfl dX2_become_139 ?_
  refine lv_iconst (v := 0) hx hb dX2_become_142 (by decide) ?_
  refine lv_aload_n hx hb dX2_become_143 rfl (lv_at hl 0 rfl) ?_
  refine va_get (D := (dC, dI)) (ci := 2) (v := .ref a_foes) (C := RX2) (T := TX2) (N := 15) hx hb hts uinX2 hown hK hP 0 rfl rfl 12 (by decide) (hts _ wd_1_119) (fun _ h9 => h9) rfl dX2_become_144 ?_
  refine lv_iconst (v := 0) hx hb dX2_become_147 (by decide) ?_
  refine lv_bipush (v := 7) hx hb dX2_become_148 (by decide) ?_
  refine va_copyi (ty := .int) hx hb (by rw [hml]; exact hl.1.symm) hown (hts _ wd_3_41) (hts _ wd_3_43) (hts _ wd_3_42) (hts _ wd_1_18) hK hP hD hS 17 8 0 0 rfl rfl rfl rfl rfl (by decide) (by decide) (by decide) (by decide) (by decide) (fun _ _ => rfl) (Nat.le_of_ble_eq_true rfl) (Nat.le_of_ble_eq_true rfl) dX2_become_150 (fun H locs hP hD hS => ?_)
  obtain ⟨f_7, ef_7⟩ : ∃ z9 : Nat → Int32, z9 = va_cpy fb6 fa6 (0 : Int32).toNatClampNeg (0 : Int32).toNatClampNeg (7 : Int32).toNatClampNeg := ⟨_, rfl⟩
  rw [← ef_7] at hP hD
  have hP : va_P (dC, dI) vwCl [(h0, .inr (2, [.int i0, .int i1, .int i2, .int i3, .int i4, .int i5, .ref a_first, .ref a_now, .ref a_lawPlace, .ref a_lawOther, .ref a_lawEach, .ref a_lawFrom, .ref a_foes, .ref a_suitTable, .ref a_acts])), (h1, .inr (2, [.int i0, .int i1, .int i2, .int i3, .int i4, .int i5, .ref b_first, .ref b_now, .ref b_lawPlace, .ref b_lawOther, .ref b_lawEach, .ref b_lawFrom, .ref b_foes, .ref b_suitTable, .ref b_acts])), (a_first, .inl (cyI, 7, .inl f_1)), (a_now, .inl (cyI, 7, .inl f_2)), (a_lawPlace, .inl (cyI, 6, .inl f_3)), (a_lawOther, .inl (cyI, 6, .inl f_4)), (a_lawEach, .inl (cyI, 6, .inl f_5)), (a_lawFrom, .inl (cyI, 6, .inl f_6)), (a_foes, .inl (cyI, 7, .inl f_7)), (a_suitTable, .inl (cyI, 49, .inl fa7)), (a_acts, .inl (cyI, 40, .inl fa8)), (b_first, .inl (cyI, 7, .inl fb0)), (b_now, .inl (cyI, 7, .inl fb1)), (b_lawPlace, .inl (cyI, 6, .inl fb2)), (b_lawOther, .inl (cyI, 6, .inl fb3)), (b_lawEach, .inl (cyI, 6, .inl fb4)), (b_lawFrom, .inl (cyI, 6, .inl fb5)), (b_foes, .inl (cyI, 7, .inl fb6)), (b_suitTable, .inl (cyI, 49, .inl fb7)), (b_acts, .inl (cyI, 40, .inl fb8))] H := hP
  have hD : va_D A [(h0, .inr (2, [.int i0, .int i1, .int i2, .int i3, .int i4, .int i5, .ref a_first, .ref a_now, .ref a_lawPlace, .ref a_lawOther, .ref a_lawEach, .ref a_lawFrom, .ref a_foes, .ref a_suitTable, .ref a_acts])), (h1, .inr (2, [.int i0, .int i1, .int i2, .int i3, .int i4, .int i5, .ref b_first, .ref b_now, .ref b_lawPlace, .ref b_lawOther, .ref b_lawEach, .ref b_lawFrom, .ref b_foes, .ref b_suitTable, .ref b_acts])), (a_first, .inl (cyI, 7, .inl f_1)), (a_now, .inl (cyI, 7, .inl f_2)), (a_lawPlace, .inl (cyI, 6, .inl f_3)), (a_lawOther, .inl (cyI, 6, .inl f_4)), (a_lawEach, .inl (cyI, 6, .inl f_5)), (a_lawFrom, .inl (cyI, 6, .inl f_6)), (a_foes, .inl (cyI, 7, .inl f_7)), (a_suitTable, .inl (cyI, 49, .inl fa7)), (a_acts, .inl (cyI, 40, .inl fa8)), (b_first, .inl (cyI, 7, .inl fb0)), (b_now, .inl (cyI, 7, .inl fb1)), (b_lawPlace, .inl (cyI, 6, .inl fb2)), (b_lawOther, .inl (cyI, 6, .inl fb3)), (b_lawEach, .inl (cyI, 6, .inl fb4)), (b_lawFrom, .inl (cyI, 6, .inl fb5)), (b_foes, .inl (cyI, 7, .inl fb6)), (b_suitTable, .inl (cyI, 49, .inl fb7)), (b_acts, .inl (cyI, 40, .inl fb8))] := hD
  refine lv_aload_n hx hb dX2_become_153 rfl (lv_at hl 1 rfl) ?_
  refine va_get (D := (dC, dI)) (ci := 2) (v := .ref b_suitTable) (C := RX2) (T := TX2) (N := 15) hx hb hts uinX2 hown hK hP 1 rfl rfl 13 (by decide) (hts _ wd_1_122) (fun _ h9 => h9) rfl dX2_become_154 ?_
  refine lv_iconst (v := 0) hx hb dX2_become_157 (by decide) ?_
  refine lv_aload_n hx hb dX2_become_158 rfl (lv_at hl 0 rfl) ?_
  refine va_get (D := (dC, dI)) (ci := 2) (v := .ref a_suitTable) (C := RX2) (T := TX2) (N := 15) hx hb hts uinX2 hown hK hP 0 rfl rfl 13 (by decide) (hts _ wd_1_122) (fun _ h9 => h9) rfl dX2_become_159 ?_
  refine lv_iconst (v := 0) hx hb dX2_become_162 (by decide) ?_
  refine lv_bipush (v := 49) hx hb dX2_become_163 (by decide) ?_
  refine va_copyi (ty := .int) hx hb (by rw [hml]; exact hl.1.symm) hown (hts _ wd_3_41) (hts _ wd_3_43) (hts _ wd_3_42) (hts _ wd_1_18) hK hP hD hS 18 9 0 0 rfl rfl rfl rfl rfl (by decide) (by decide) (by decide) (by decide) (by decide) (fun _ _ => rfl) (Nat.le_of_ble_eq_true rfl) (Nat.le_of_ble_eq_true rfl) dX2_become_165 (fun H locs hP hD hS => ?_)
  obtain ⟨f_8, ef_8⟩ : ∃ z9 : Nat → Int32, z9 = va_cpy fb7 fa7 (0 : Int32).toNatClampNeg (0 : Int32).toNatClampNeg (49 : Int32).toNatClampNeg := ⟨_, rfl⟩
  rw [← ef_8] at hP hD
  have hP : va_P (dC, dI) vwCl [(h0, .inr (2, [.int i0, .int i1, .int i2, .int i3, .int i4, .int i5, .ref a_first, .ref a_now, .ref a_lawPlace, .ref a_lawOther, .ref a_lawEach, .ref a_lawFrom, .ref a_foes, .ref a_suitTable, .ref a_acts])), (h1, .inr (2, [.int i0, .int i1, .int i2, .int i3, .int i4, .int i5, .ref b_first, .ref b_now, .ref b_lawPlace, .ref b_lawOther, .ref b_lawEach, .ref b_lawFrom, .ref b_foes, .ref b_suitTable, .ref b_acts])), (a_first, .inl (cyI, 7, .inl f_1)), (a_now, .inl (cyI, 7, .inl f_2)), (a_lawPlace, .inl (cyI, 6, .inl f_3)), (a_lawOther, .inl (cyI, 6, .inl f_4)), (a_lawEach, .inl (cyI, 6, .inl f_5)), (a_lawFrom, .inl (cyI, 6, .inl f_6)), (a_foes, .inl (cyI, 7, .inl f_7)), (a_suitTable, .inl (cyI, 49, .inl f_8)), (a_acts, .inl (cyI, 40, .inl fa8)), (b_first, .inl (cyI, 7, .inl fb0)), (b_now, .inl (cyI, 7, .inl fb1)), (b_lawPlace, .inl (cyI, 6, .inl fb2)), (b_lawOther, .inl (cyI, 6, .inl fb3)), (b_lawEach, .inl (cyI, 6, .inl fb4)), (b_lawFrom, .inl (cyI, 6, .inl fb5)), (b_foes, .inl (cyI, 7, .inl fb6)), (b_suitTable, .inl (cyI, 49, .inl fb7)), (b_acts, .inl (cyI, 40, .inl fb8))] H := hP
  have hD : va_D A [(h0, .inr (2, [.int i0, .int i1, .int i2, .int i3, .int i4, .int i5, .ref a_first, .ref a_now, .ref a_lawPlace, .ref a_lawOther, .ref a_lawEach, .ref a_lawFrom, .ref a_foes, .ref a_suitTable, .ref a_acts])), (h1, .inr (2, [.int i0, .int i1, .int i2, .int i3, .int i4, .int i5, .ref b_first, .ref b_now, .ref b_lawPlace, .ref b_lawOther, .ref b_lawEach, .ref b_lawFrom, .ref b_foes, .ref b_suitTable, .ref b_acts])), (a_first, .inl (cyI, 7, .inl f_1)), (a_now, .inl (cyI, 7, .inl f_2)), (a_lawPlace, .inl (cyI, 6, .inl f_3)), (a_lawOther, .inl (cyI, 6, .inl f_4)), (a_lawEach, .inl (cyI, 6, .inl f_5)), (a_lawFrom, .inl (cyI, 6, .inl f_6)), (a_foes, .inl (cyI, 7, .inl f_7)), (a_suitTable, .inl (cyI, 49, .inl f_8)), (a_acts, .inl (cyI, 40, .inl fa8)), (b_first, .inl (cyI, 7, .inl fb0)), (b_now, .inl (cyI, 7, .inl fb1)), (b_lawPlace, .inl (cyI, 6, .inl fb2)), (b_lawOther, .inl (cyI, 6, .inl fb3)), (b_lawEach, .inl (cyI, 6, .inl fb4)), (b_lawFrom, .inl (cyI, 6, .inl fb5)), (b_foes, .inl (cyI, 7, .inl fb6)), (b_suitTable, .inl (cyI, 49, .inl fb7)), (b_acts, .inl (cyI, 40, .inl fb8))] := hD
  refine lv_aload_n hx hb dX2_become_168 rfl (lv_at hl 1 rfl) ?_
  refine va_get (D := (dC, dI)) (ci := 2) (v := .ref b_acts) (C := RX2) (T := TX2) (N := 15) hx hb hts uinX2 hown hK hP 1 rfl rfl 14 (by decide) (hts _ wd_1_123) (fun _ h9 => h9) rfl dX2_become_169 ?_
  refine lv_iconst (v := 0) hx hb dX2_become_172 (by decide) ?_
  refine lv_aload_n hx hb dX2_become_173 rfl (lv_at hl 0 rfl) ?_
  refine va_get (D := (dC, dI)) (ci := 2) (v := .ref a_acts) (C := RX2) (T := TX2) (N := 15) hx hb hts uinX2 hown hK hP 0 rfl rfl 14 (by decide) (hts _ wd_1_123) (fun _ h9 => h9) rfl dX2_become_174 ?_
  refine lv_iconst (v := 0) hx hb dX2_become_177 (by decide) ?_
  refine lv_bipush (v := 40) hx hb dX2_become_178 (by decide) ?_
  refine va_copyi (ty := .int) hx hb (by rw [hml]; exact hl.1.symm) hown (hts _ wd_3_41) (hts _ wd_3_43) (hts _ wd_3_42) (hts _ wd_1_18) hK hP hD hS 19 10 0 0 rfl rfl rfl rfl rfl (by decide) (by decide) (by decide) (by decide) (by decide) (fun _ _ => rfl) (Nat.le_of_ble_eq_true rfl) (Nat.le_of_ble_eq_true rfl) dX2_become_180 (fun H locs hP hD hS => ?_)
  obtain ⟨f_9, ef_9⟩ : ∃ z9 : Nat → Int32, z9 = va_cpy fb8 fa8 (0 : Int32).toNatClampNeg (0 : Int32).toNatClampNeg (40 : Int32).toNatClampNeg := ⟨_, rfl⟩
  rw [← ef_9] at hP hD
  have hP : va_P (dC, dI) vwCl [(h0, .inr (2, [.int i0, .int i1, .int i2, .int i3, .int i4, .int i5, .ref a_first, .ref a_now, .ref a_lawPlace, .ref a_lawOther, .ref a_lawEach, .ref a_lawFrom, .ref a_foes, .ref a_suitTable, .ref a_acts])), (h1, .inr (2, [.int i0, .int i1, .int i2, .int i3, .int i4, .int i5, .ref b_first, .ref b_now, .ref b_lawPlace, .ref b_lawOther, .ref b_lawEach, .ref b_lawFrom, .ref b_foes, .ref b_suitTable, .ref b_acts])), (a_first, .inl (cyI, 7, .inl f_1)), (a_now, .inl (cyI, 7, .inl f_2)), (a_lawPlace, .inl (cyI, 6, .inl f_3)), (a_lawOther, .inl (cyI, 6, .inl f_4)), (a_lawEach, .inl (cyI, 6, .inl f_5)), (a_lawFrom, .inl (cyI, 6, .inl f_6)), (a_foes, .inl (cyI, 7, .inl f_7)), (a_suitTable, .inl (cyI, 49, .inl f_8)), (a_acts, .inl (cyI, 40, .inl f_9)), (b_first, .inl (cyI, 7, .inl fb0)), (b_now, .inl (cyI, 7, .inl fb1)), (b_lawPlace, .inl (cyI, 6, .inl fb2)), (b_lawOther, .inl (cyI, 6, .inl fb3)), (b_lawEach, .inl (cyI, 6, .inl fb4)), (b_lawFrom, .inl (cyI, 6, .inl fb5)), (b_foes, .inl (cyI, 7, .inl fb6)), (b_suitTable, .inl (cyI, 49, .inl fb7)), (b_acts, .inl (cyI, 40, .inl fb8))] H := hP
  have hD : va_D A [(h0, .inr (2, [.int i0, .int i1, .int i2, .int i3, .int i4, .int i5, .ref a_first, .ref a_now, .ref a_lawPlace, .ref a_lawOther, .ref a_lawEach, .ref a_lawFrom, .ref a_foes, .ref a_suitTable, .ref a_acts])), (h1, .inr (2, [.int i0, .int i1, .int i2, .int i3, .int i4, .int i5, .ref b_first, .ref b_now, .ref b_lawPlace, .ref b_lawOther, .ref b_lawEach, .ref b_lawFrom, .ref b_foes, .ref b_suitTable, .ref b_acts])), (a_first, .inl (cyI, 7, .inl f_1)), (a_now, .inl (cyI, 7, .inl f_2)), (a_lawPlace, .inl (cyI, 6, .inl f_3)), (a_lawOther, .inl (cyI, 6, .inl f_4)), (a_lawEach, .inl (cyI, 6, .inl f_5)), (a_lawFrom, .inl (cyI, 6, .inl f_6)), (a_foes, .inl (cyI, 7, .inl f_7)), (a_suitTable, .inl (cyI, 49, .inl f_8)), (a_acts, .inl (cyI, 40, .inl f_9)), (b_first, .inl (cyI, 7, .inl fb0)), (b_now, .inl (cyI, 7, .inl fb1)), (b_lawPlace, .inl (cyI, 6, .inl fb2)), (b_lawOther, .inl (cyI, 6, .inl fb3)), (b_lawEach, .inl (cyI, 6, .inl fb4)), (b_lawFrom, .inl (cyI, 6, .inl fb5)), (b_foes, .inl (cyI, 7, .inl fb6)), (b_suitTable, .inl (cyI, 49, .inl fb7)), (b_acts, .inl (cyI, 40, .inl fb8))] := hD
  have hP9 := hP.sub (ws' := [(h0, .inr (2, [.int i0, .int i1, .int i2, .int i3, .int i4, .int i5, .ref a_first, .ref a_now, .ref a_lawPlace, .ref a_lawOther, .ref a_lawEach, .ref a_lawFrom, .ref a_foes, .ref a_suitTable, .ref a_acts]))]) [0] rfl
  have hD9 := hD.sub (ws' := [(h0, .inr (2, [.int i0, .int i1, .int i2, .int i3, .int i4, .int i5, .ref a_first, .ref a_now, .ref a_lawPlace, .ref a_lawOther, .ref a_lawEach, .ref a_lawFrom, .ref a_foes, .ref a_suitTable, .ref a_acts]))]) [0] (by decide) rfl
  exact W.vret hx hb hr (fun t ht hW => ⟨⟨(), rfl, trivial, ⟨by rw [ht]; exact hP9, hD9⟩⟩, hS.F ht⟩) hS.2.2 dX2_become_183

/- X11_hall -/
set_option maxHeartbeats 4000000 in
set_option maxRecDepth 100000 in
theorem c_hall (l : Launch) (dC : Nat → ClassId) (dI : Nat → Nat → Nat) (cyI cyB cyJ cyZ cyH cyN : ClassId) (sz : Nat) (x xTape xHall xDraft xImages xKept xSlots xCourse xSight xParting xSuiting xGame xLots xTold xTried tBytes a_first a_now a_lawPlace a_lawOther a_lawEach a_lawFrom a_foes a_suitTable a_acts b_first b_now b_lawPlace b_lawOther b_lawEach b_lawFrom b_foes b_suitTable b_acts : Nat) : Met l yX11_hall (wk yX11_hall cX11_hall 1 (some .int)) ({ frames := 4, cells := 0, slots := 0, locals := 125 }) (va_Pc [.ref x] (fun U => U.heap.size = sz ∧ va_P (dC, dI) vwCl [(x, .inr (10, [.ref xTape, .ref xHall, .ref xDraft, .ref xImages, .ref xKept, .ref xSlots, .ref xCourse, .ref xSight, .ref xParting, .ref xSuiting, .ref xGame, .ref xLots, .ref xTold, .ref xTried, .null])), (xTape, .inr (9, [.ref tBytes, .int 0, .int 0, .int (-1), .int 0, .int 0, .int 0, .int 0, .int 0, .int 0])), (xHall, .inr (2, [.int 0, .int 0, .int 0, .int 0, .int 0, .int 0, .ref a_first, .ref a_now, .ref a_lawPlace, .ref a_lawOther, .ref a_lawEach, .ref a_lawFrom, .ref a_foes, .ref a_suitTable, .ref a_acts])), (xDraft, .inr (2, [.int 0, .int 0, .int 0, .int 0, .int 0, .int 0, .ref b_first, .ref b_now, .ref b_lawPlace, .ref b_lawOther, .ref b_lawEach, .ref b_lawFrom, .ref b_foes, .ref b_suitTable, .ref b_acts])), (a_first, .inl (cyI, 7, .inl (fun _ => 0))), (a_now, .inl (cyI, 7, .inl (fun _ => 0))), (a_lawPlace, .inl (cyI, 6, .inl (fun _ => 0))), (a_lawOther, .inl (cyI, 6, .inl (fun _ => 0))), (a_lawEach, .inl (cyI, 6, .inl (fun _ => 0))), (a_lawFrom, .inl (cyI, 6, .inl (fun _ => 0))), (a_foes, .inl (cyI, 7, .inl (fun _ => 0))), (a_suitTable, .inl (cyI, 49, .inl (fun _ => 0))), (a_acts, .inl (cyI, 40, .inl (fun _ => 0))), (b_first, .inl (cyI, 7, .inl (fun _ => 0))), (b_now, .inl (cyI, 7, .inl (fun _ => 0))), (b_lawPlace, .inl (cyI, 6, .inl (fun _ => 0))), (b_lawOther, .inl (cyI, 6, .inl (fun _ => 0))), (b_lawEach, .inl (cyI, 6, .inl (fun _ => 0))), (b_lawFrom, .inl (cyI, 6, .inl (fun _ => 0))), (b_foes, .inl (cyI, 7, .inl (fun _ => 0))), (b_suitTable, .inl (cyI, 49, .inl (fun _ => 0))), (b_acts, .inl (cyI, 40, .inl (fun _ => 0)))] U.heap ∧ va_K (dC, dI) vwCl [(cyI, .int), (cyB, .byte), (cyJ, .long), (cyZ, .boolean), (cyH, .object RX2), (cyN, .array .long)] U ∧ va_D (fun _ => True) [(x, .inr (10, [.ref xTape, .ref xHall, .ref xDraft, .ref xImages, .ref xKept, .ref xSlots, .ref xCourse, .ref xSight, .ref xParting, .ref xSuiting, .ref xGame, .ref xLots, .ref xTold, .ref xTried, .null])), (xTape, .inr (9, [.ref tBytes, .int 0, .int 0, .int (-1), .int 0, .int 0, .int 0, .int 0, .int 0, .int 0])), (xHall, .inr (2, [.int 0, .int 0, .int 0, .int 0, .int 0, .int 0, .ref a_first, .ref a_now, .ref a_lawPlace, .ref a_lawOther, .ref a_lawEach, .ref a_lawFrom, .ref a_foes, .ref a_suitTable, .ref a_acts])), (xDraft, .inr (2, [.int 0, .int 0, .int 0, .int 0, .int 0, .int 0, .ref b_first, .ref b_now, .ref b_lawPlace, .ref b_lawOther, .ref b_lawEach, .ref b_lawFrom, .ref b_foes, .ref b_suitTable, .ref b_acts])), (a_first, .inl (cyI, 7, .inl (fun _ => 0))), (a_now, .inl (cyI, 7, .inl (fun _ => 0))), (a_lawPlace, .inl (cyI, 6, .inl (fun _ => 0))), (a_lawOther, .inl (cyI, 6, .inl (fun _ => 0))), (a_lawEach, .inl (cyI, 6, .inl (fun _ => 0))), (a_lawFrom, .inl (cyI, 6, .inl (fun _ => 0))), (a_foes, .inl (cyI, 7, .inl (fun _ => 0))), (a_suitTable, .inl (cyI, 49, .inl (fun _ => 0))), (a_acts, .inl (cyI, 40, .inl (fun _ => 0))), (b_first, .inl (cyI, 7, .inl (fun _ => 0))), (b_now, .inl (cyI, 7, .inl (fun _ => 0))), (b_lawPlace, .inl (cyI, 6, .inl (fun _ => 0))), (b_lawOther, .inl (cyI, 6, .inl (fun _ => 0))), (b_lawEach, .inl (cyI, 6, .inl (fun _ => 0))), (b_lawFrom, .inl (cyI, 6, .inl (fun _ => 0))), (b_foes, .inl (cyI, 7, .inl (fun _ => 0))), (b_suitTable, .inl (cyI, 49, .inl (fun _ => 0))), (b_acts, .inl (cyI, 40, .inl (fun _ => 0)))])) (va_Qi (fun (r : Int32) (_ : Unit) => r = 0) (fun (_ : Unit) (_ : State) => True) (va_A [(x, .inr (10, [.ref xTape, .ref xHall, .ref xDraft, .ref xImages, .ref xKept, .ref xSlots, .ref xCourse, .ref xSight, .ref xParting, .ref xSuiting, .ref xGame, .ref xLots, .ref xTold, .ref xTried, .null])), (xTape, .inr (9, [.ref tBytes, .int 0, .int 0, .int (-1), .int 0, .int 0, .int 0, .int 0, .int 0, .int 0])), (xHall, .inr (2, [.int 0, .int 0, .int 0, .int 0, .int 0, .int 0, .ref a_first, .ref a_now, .ref a_lawPlace, .ref a_lawOther, .ref a_lawEach, .ref a_lawFrom, .ref a_foes, .ref a_suitTable, .ref a_acts])), (xDraft, .inr (2, [.int 0, .int 0, .int 0, .int 0, .int 0, .int 0, .ref b_first, .ref b_now, .ref b_lawPlace, .ref b_lawOther, .ref b_lawEach, .ref b_lawFrom, .ref b_foes, .ref b_suitTable, .ref b_acts])), (a_first, .inl (cyI, 7, .inl (fun _ => 0))), (a_now, .inl (cyI, 7, .inl (fun _ => 0))), (a_lawPlace, .inl (cyI, 6, .inl (fun _ => 0))), (a_lawOther, .inl (cyI, 6, .inl (fun _ => 0))), (a_lawEach, .inl (cyI, 6, .inl (fun _ => 0))), (a_lawFrom, .inl (cyI, 6, .inl (fun _ => 0))), (a_foes, .inl (cyI, 7, .inl (fun _ => 0))), (a_suitTable, .inl (cyI, 49, .inl (fun _ => 0))), (a_acts, .inl (cyI, 40, .inl (fun _ => 0))), (b_first, .inl (cyI, 7, .inl (fun _ => 0))), (b_now, .inl (cyI, 7, .inl (fun _ => 0))), (b_lawPlace, .inl (cyI, 6, .inl (fun _ => 0))), (b_lawOther, .inl (cyI, 6, .inl (fun _ => 0))), (b_lawEach, .inl (cyI, 6, .inl (fun _ => 0))), (b_lawFrom, .inl (cyI, 6, .inl (fun _ => 0))), (b_foes, .inl (cyI, 7, .inl (fun _ => 0))), (b_suitTable, .inl (cyI, 49, .inl (fun _ => 0))), (b_acts, .inl (cyI, 40, .inl (fun _ => 0)))] sz)) 0 0 (va_A [(x, .inr (10, [.ref xTape, .ref xHall, .ref xDraft, .ref xImages, .ref xKept, .ref xSlots, .ref xCourse, .ref xSight, .ref xParting, .ref xSuiting, .ref xGame, .ref xLots, .ref xTold, .ref xTried, .null])), (xTape, .inr (9, [.ref tBytes, .int 0, .int 0, .int (-1), .int 0, .int 0, .int 0, .int 0, .int 0, .int 0])), (xHall, .inr (2, [.int 0, .int 0, .int 0, .int 0, .int 0, .int 0, .ref a_first, .ref a_now, .ref a_lawPlace, .ref a_lawOther, .ref a_lawEach, .ref a_lawFrom, .ref a_foes, .ref a_suitTable, .ref a_acts])), (xDraft, .inr (2, [.int 0, .int 0, .int 0, .int 0, .int 0, .int 0, .ref b_first, .ref b_now, .ref b_lawPlace, .ref b_lawOther, .ref b_lawEach, .ref b_lawFrom, .ref b_foes, .ref b_suitTable, .ref b_acts])), (a_first, .inl (cyI, 7, .inl (fun _ => 0))), (a_now, .inl (cyI, 7, .inl (fun _ => 0))), (a_lawPlace, .inl (cyI, 6, .inl (fun _ => 0))), (a_lawOther, .inl (cyI, 6, .inl (fun _ => 0))), (a_lawEach, .inl (cyI, 6, .inl (fun _ => 0))), (a_lawFrom, .inl (cyI, 6, .inl (fun _ => 0))), (a_foes, .inl (cyI, 7, .inl (fun _ => 0))), (a_suitTable, .inl (cyI, 49, .inl (fun _ => 0))), (a_acts, .inl (cyI, 40, .inl (fun _ => 0))), (b_first, .inl (cyI, 7, .inl (fun _ => 0))), (b_now, .inl (cyI, 7, .inl (fun _ => 0))), (b_lawPlace, .inl (cyI, 6, .inl (fun _ => 0))), (b_lawOther, .inl (cyI, 6, .inl (fun _ => 0))), (b_lawEach, .inl (cyI, 6, .inl (fun _ => 0))), (b_lawFrom, .inl (cyI, 6, .inl (fun _ => 0))), (b_foes, .inl (cyI, 7, .inl (fun _ => 0))), (b_suitTable, .inl (cyI, 49, .inl (fun _ => 0))), (b_acts, .inl (cyI, 40, .inl (fun _ => 0)))] sz) := by
  refine Met.ofW (cc := cX11_hall) (maxL := 1) (ret := (some .int)) (by decide) rfl ?_
  intro p e s m args below meth c s₁ B hml hv
  obtain ⟨rfl, hsz, hP, hK, hD0⟩ := hv
  have hx := B.exec
  have hb := B.bytes
  have hr := B.returns
  have hts : ∀ w ∈ uU, w.before ([.ref x] : List Value).toArray s = true := fun w h => atoms_spec (ws := wk yX11_hall cX11_hall 1 (some .int)) B.pre w (List.mem_cons_of_mem _ h)
  have hown : s.vm.findClass RX11 = some m.cls := findClass_of_methodNamed B.named
  have hlocks := B.notSynchronized
  subst hsz
  have hD := hD0.self (sz := s.heap.size)
  generalize hAe : va_A [(x, .inr (10, [.ref xTape, .ref xHall, .ref xDraft, .ref xImages, .ref xKept, .ref xSlots, .ref xCourse, .ref xSight, .ref xParting, .ref xSuiting, .ref xGame, .ref xLots, .ref xTold, .ref xTried, .null])), (xTape, .inr (9, [.ref tBytes, .int 0, .int 0, .int (-1), .int 0, .int 0, .int 0, .int 0, .int 0, .int 0])), (xHall, .inr (2, [.int 0, .int 0, .int 0, .int 0, .int 0, .int 0, .ref a_first, .ref a_now, .ref a_lawPlace, .ref a_lawOther, .ref a_lawEach, .ref a_lawFrom, .ref a_foes, .ref a_suitTable, .ref a_acts])), (xDraft, .inr (2, [.int 0, .int 0, .int 0, .int 0, .int 0, .int 0, .ref b_first, .ref b_now, .ref b_lawPlace, .ref b_lawOther, .ref b_lawEach, .ref b_lawFrom, .ref b_foes, .ref b_suitTable, .ref b_acts])), (a_first, .inl (cyI, 7, .inl (fun _ => 0))), (a_now, .inl (cyI, 7, .inl (fun _ => 0))), (a_lawPlace, .inl (cyI, 6, .inl (fun _ => 0))), (a_lawOther, .inl (cyI, 6, .inl (fun _ => 0))), (a_lawEach, .inl (cyI, 6, .inl (fun _ => 0))), (a_lawFrom, .inl (cyI, 6, .inl (fun _ => 0))), (a_foes, .inl (cyI, 7, .inl (fun _ => 0))), (a_suitTable, .inl (cyI, 49, .inl (fun _ => 0))), (a_acts, .inl (cyI, 40, .inl (fun _ => 0))), (b_first, .inl (cyI, 7, .inl (fun _ => 0))), (b_now, .inl (cyI, 7, .inl (fun _ => 0))), (b_lawPlace, .inl (cyI, 6, .inl (fun _ => 0))), (b_lawOther, .inl (cyI, 6, .inl (fun _ => 0))), (b_lawEach, .inl (cyI, 6, .inl (fun _ => 0))), (b_lawFrom, .inl (cyI, 6, .inl (fun _ => 0))), (b_foes, .inl (cyI, 7, .inl (fun _ => 0))), (b_suitTable, .inl (cyI, 49, .inl (fun _ => 0))), (b_acts, .inl (cyI, 40, .inl (fun _ => 0)))] s.heap.size = A at hD ⊢
  have hA : ∀ q : Nat, s.heap.size ≤ q → A q := fun q h => by rw [← hAe]; exact Or.inr h
  have hS : va_S A s.heap s.heap [] := va_S.rf
  have hP : va_P (dC, dI) vwCl [(x, .inr (10, [.ref xTape, .ref xHall, .ref xDraft, .ref xImages, .ref xKept, .ref xSlots, .ref xCourse, .ref xSight, .ref xParting, .ref xSuiting, .ref xGame, .ref xLots, .ref xTold, .ref xTried, .null])), (xTape, .inr (9, [.ref tBytes, .int 0, .int 0, .int (-1), .int 0, .int 0, .int 0, .int 0, .int 0, .int 0])), (xHall, .inr (2, [.int 0, .int 0, .int 0, .int 0, .int 0, .int 0, .ref a_first, .ref a_now, .ref a_lawPlace, .ref a_lawOther, .ref a_lawEach, .ref a_lawFrom, .ref a_foes, .ref a_suitTable, .ref a_acts])), (xDraft, .inr (2, [.int 0, .int 0, .int 0, .int 0, .int 0, .int 0, .ref b_first, .ref b_now, .ref b_lawPlace, .ref b_lawOther, .ref b_lawEach, .ref b_lawFrom, .ref b_foes, .ref b_suitTable, .ref b_acts])), (a_first, .inl (cyI, 7, .inl (fun _ => 0))), (a_now, .inl (cyI, 7, .inl (fun _ => 0))), (a_lawPlace, .inl (cyI, 6, .inl (fun _ => 0))), (a_lawOther, .inl (cyI, 6, .inl (fun _ => 0))), (a_lawEach, .inl (cyI, 6, .inl (fun _ => 0))), (a_lawFrom, .inl (cyI, 6, .inl (fun _ => 0))), (a_foes, .inl (cyI, 7, .inl (fun _ => 0))), (a_suitTable, .inl (cyI, 49, .inl (fun _ => 0))), (a_acts, .inl (cyI, 40, .inl (fun _ => 0))), (b_first, .inl (cyI, 7, .inl (fun _ => 0))), (b_now, .inl (cyI, 7, .inl (fun _ => 0))), (b_lawPlace, .inl (cyI, 6, .inl (fun _ => 0))), (b_lawOther, .inl (cyI, 6, .inl (fun _ => 0))), (b_lawEach, .inl (cyI, 6, .inl (fun _ => 0))), (b_lawFrom, .inl (cyI, 6, .inl (fun _ => 0))), (b_foes, .inl (cyI, 7, .inl (fun _ => 0))), (b_suitTable, .inl (cyI, 49, .inl (fun _ => 0))), (b_acts, .inl (cyI, 40, .inl (fun _ => 0)))] s.heap := hP
  have hl := lv_entry ([.ref x]) (n := 1) (Nat.le_of_ble_eq_true rfl)
  rw [lg_entry_eq]
  generalize (lg_sl ([.ref x]) ++ List.replicate (1 - (lg_sl ([.ref x])).length) Slot.unset).toArray = ls at hl ⊢
  have hl : lv_has ls 1 [(0, .ref x)] := hl
  obtain ⟨H, hHe⟩ : ∃ H, H = s.heap := ⟨_, rfl⟩
  have hP : va_P (dC, dI) vwCl [(x, .inr (10, [.ref xTape, .ref xHall, .ref xDraft, .ref xImages, .ref xKept, .ref xSlots, .ref xCourse, .ref xSight, .ref xParting, .ref xSuiting, .ref xGame, .ref xLots, .ref xTold, .ref xTried, .null])), (xTape, .inr (9, [.ref tBytes, .int 0, .int 0, .int (-1), .int 0, .int 0, .int 0, .int 0, .int 0, .int 0])), (xHall, .inr (2, [.int 0, .int 0, .int 0, .int 0, .int 0, .int 0, .ref a_first, .ref a_now, .ref a_lawPlace, .ref a_lawOther, .ref a_lawEach, .ref a_lawFrom, .ref a_foes, .ref a_suitTable, .ref a_acts])), (xDraft, .inr (2, [.int 0, .int 0, .int 0, .int 0, .int 0, .int 0, .ref b_first, .ref b_now, .ref b_lawPlace, .ref b_lawOther, .ref b_lawEach, .ref b_lawFrom, .ref b_foes, .ref b_suitTable, .ref b_acts])), (a_first, .inl (cyI, 7, .inl (fun _ => 0))), (a_now, .inl (cyI, 7, .inl (fun _ => 0))), (a_lawPlace, .inl (cyI, 6, .inl (fun _ => 0))), (a_lawOther, .inl (cyI, 6, .inl (fun _ => 0))), (a_lawEach, .inl (cyI, 6, .inl (fun _ => 0))), (a_lawFrom, .inl (cyI, 6, .inl (fun _ => 0))), (a_foes, .inl (cyI, 7, .inl (fun _ => 0))), (a_suitTable, .inl (cyI, 49, .inl (fun _ => 0))), (a_acts, .inl (cyI, 40, .inl (fun _ => 0))), (b_first, .inl (cyI, 7, .inl (fun _ => 0))), (b_now, .inl (cyI, 7, .inl (fun _ => 0))), (b_lawPlace, .inl (cyI, 6, .inl (fun _ => 0))), (b_lawOther, .inl (cyI, 6, .inl (fun _ => 0))), (b_lawEach, .inl (cyI, 6, .inl (fun _ => 0))), (b_lawFrom, .inl (cyI, 6, .inl (fun _ => 0))), (b_foes, .inl (cyI, 7, .inl (fun _ => 0))), (b_suitTable, .inl (cyI, 49, .inl (fun _ => 0))), (b_acts, .inl (cyI, 40, .inl (fun _ => 0)))] H := by rw [hHe]; exact hP
  have hS : va_S A s.heap H [] := by rw [hHe]; exact hS
  refine cv_heap hHe ?_
  refine lv_aload_n hx hb dX11_hall_0 rfl (lv_at hl 0 rfl) ?_
  refine va_get (D := (dC, dI)) (ci := 10) (v := .ref xTape) (C := RX11) (T := TX11) (N := 15) hx hb hts uinX11 hown hK hP 0 rfl rfl 0 (by decide) (hts _ wd_2_65) (fun _ h9 => h9) rfl dX11_hall_1 ?_
  refine lv_aload_n hx hb dX11_hall_4 rfl (lv_at hl 0 rfl) ?_
  refine va_get (D := (dC, dI)) (ci := 10) (v := .ref xDraft) (C := RX11) (T := TX11) (N := 15) hx hb hts uinX11 hown hK hP 0 rfl rfl 2 (by decide) (hts _ wd_2_67) (fun _ h9 => h9) rfl dX11_hall_5 ?_
  have hPc := hP.sub (ws' := [(xTape, .inr (9, [.ref tBytes, .int 0, .int 0, .int (-1), .int 0, .int 0, .int 0, .int 0, .int 0, .int 0])), (xDraft, .inr (2, [.int 0, .int 0, .int 0, .int 0, .int 0, .int 0, .ref b_first, .ref b_now, .ref b_lawPlace, .ref b_lawOther, .ref b_lawEach, .ref b_lawFrom, .ref b_foes, .ref b_suitTable, .ref b_acts])), (b_foes, .inl (cyI, 7, .inl (fun _ => 0))), (b_suitTable, .inl (cyI, 49, .inl (fun _ => 0)))]) [1, 3, 19, 20] rfl
  have hKc := hK.sub (tys' := [(cyI, .int), (cyB, .byte), (cyJ, .long), (cyZ, .boolean), (cyH, .object RX2), (cyN, .array .long)]) [0, 1, 2, 3, 4, 5] rfl
  have hDc := hD.sub (ws' := [(xTape, .inr (9, [.ref tBytes, .int 0, .int 0, .int (-1), .int 0, .int 0, .int 0, .int 0, .int 0, .int 0])), (xDraft, .inr (2, [.int 0, .int 0, .int 0, .int 0, .int 0, .int 0, .ref b_first, .ref b_now, .ref b_lawPlace, .ref b_lawOther, .ref b_lawEach, .ref b_lawFrom, .ref b_foes, .ref b_suitTable, .ref b_acts])), (b_foes, .inl (cyI, 7, .inl (fun _ => 0))), (b_suitTable, .inl (cyI, 49, .inl (fun _ => 0)))]) [1, 3, 19, 20] (by decide) rfl
  have hFc := va_free (wc := [(xTape, .inr (9, [.ref tBytes, .int 0, .int 0, .int (-1), .int 0, .int 0, .int 0, .int 0, .int 0, .int 0])), (xDraft, .inr (2, [.int 0, .int 0, .int 0, .int 0, .int 0, .int 0, .ref b_first, .ref b_now, .ref b_lawPlace, .ref b_lawOther, .ref b_lawEach, .ref b_lawFrom, .ref b_foes, .ref b_suitTable, .ref b_acts])), (b_foes, .inl (cyI, 7, .inl (fun _ => 0))), (b_suitTable, .inl (cyI, 49, .inl (fun _ => 0)))]) hD hS hA [1, 3, 19, 20] rfl
  refine va_callv (va_runV (As := [.ref xDraft]) (rest := []) ⟨hx, hb, hml, hown, hts⟩ (c_readInto l dC dI cyI cyB cyJ cyZ cyH cyN H.size xTape tBytes xDraft b_first b_now b_lawPlace b_lawOther b_lawEach b_lawFrom b_foes b_suitTable b_acts) (cwV 1 hts (gdV wd_2_131 wd_2_132 wd_2_133 wd_1_2 wd_2_134) rfl rfl rfl (by decide +kernel) ⟨Nat.le_of_ble_eq_true rfl, Nat.le_of_ble_eq_true rfl⟩) ⟨fun a U g mk q => by obtain ⟨q0, q1, qP, qK, qD⟩ := q; exact ⟨q0, q1, qP, va_K.moved (u := U) (U := U.calling g mk a) (Vm.Alike.refl U.vm) qK, qD⟩, va_recv hKc hPc (ci := 9) (q0 := 0) rfl rfl, fun U hU hW => ⟨rfl, by rw [hU], by rw [hU]; exact hPc, va_K.moved hW.alike hKc, hDc.weaken (fun _ _ _ _ => trivial)⟩⟩ rfl rfl hl.1 rfl (lv_room (Nat.le_of_ble_eq_true rfl)) dX11_hall_8 ⟨Nat.le_of_ble_eq_true rfl, Nat.le_of_ble_eq_true rfl⟩) hS (fun q _ h => hFc q h) hFc (fun  u t H1 locs ht hvm hw hB hz1 hk1 hS => ?_)
  obtain ⟨g0_1, g1_2, hP1, hD1⟩ := hB
  rw [ht] at hP1
  obtain ⟨hP, hD⟩ := va_join (wr := [(x, .inr (10, [.ref xTape, .ref xHall, .ref xDraft, .ref xImages, .ref xKept, .ref xSlots, .ref xCourse, .ref xSight, .ref xParting, .ref xSuiting, .ref xGame, .ref xLots, .ref xTold, .ref xTried, .null])), (xHall, .inr (2, [.int 0, .int 0, .int 0, .int 0, .int 0, .int 0, .ref a_first, .ref a_now, .ref a_lawPlace, .ref a_lawOther, .ref a_lawEach, .ref a_lawFrom, .ref a_foes, .ref a_suitTable, .ref a_acts])), (a_first, .inl (cyI, 7, .inl (fun _ => 0))), (a_now, .inl (cyI, 7, .inl (fun _ => 0))), (a_lawPlace, .inl (cyI, 6, .inl (fun _ => 0))), (a_lawOther, .inl (cyI, 6, .inl (fun _ => 0))), (a_lawEach, .inl (cyI, 6, .inl (fun _ => 0))), (a_lawFrom, .inl (cyI, 6, .inl (fun _ => 0))), (a_foes, .inl (cyI, 7, .inl (fun _ => 0))), (a_suitTable, .inl (cyI, 49, .inl (fun _ => 0))), (a_acts, .inl (cyI, 40, .inl (fun _ => 0))), (b_first, .inl (cyI, 7, .inl (fun _ => 0))), (b_now, .inl (cyI, 7, .inl (fun _ => 0))), (b_lawPlace, .inl (cyI, 6, .inl (fun _ => 0))), (b_lawOther, .inl (cyI, 6, .inl (fun _ => 0))), (b_lawEach, .inl (cyI, 6, .inl (fun _ => 0))), (b_lawFrom, .inl (cyI, 6, .inl (fun _ => 0))), (b_acts, .inl (cyI, 40, .inl (fun _ => 0)))]) (w1 := [(xTape, .inr (9, [.ref tBytes, .int 0, .int 0, .int (-1), .int 0, .int 0, .int 0, .int 0, .int 0, .int 0])), (xDraft, .inr (2, [.int 0, .int 0, .int 2, .int 0, .int 0, .int 0, .ref b_first, .ref b_now, .ref b_lawPlace, .ref b_lawOther, .ref b_lawEach, .ref b_lawFrom, .ref b_foes, .ref b_suitTable, .ref b_acts])), (b_foes, .inl (cyI, 7, .inl g0_1)), (b_suitTable, .inl (cyI, 49, .inl g1_2))]) hP hD [1, 3, 19, 20] [0, 2, 4, 5, 6, 7, 8, 9, 10, 11, 12, 13, 14, 15, 16, 17, 18, 21] rfl rfl (by decide) (by decide) hk1 hFc hP1 hD1
  generalize H1 = H at hP hS ⊢
  have hP : va_P (dC, dI) vwCl [(x, .inr (10, [.ref xTape, .ref xHall, .ref xDraft, .ref xImages, .ref xKept, .ref xSlots, .ref xCourse, .ref xSight, .ref xParting, .ref xSuiting, .ref xGame, .ref xLots, .ref xTold, .ref xTried, .null])), (xHall, .inr (2, [.int 0, .int 0, .int 0, .int 0, .int 0, .int 0, .ref a_first, .ref a_now, .ref a_lawPlace, .ref a_lawOther, .ref a_lawEach, .ref a_lawFrom, .ref a_foes, .ref a_suitTable, .ref a_acts])), (a_first, .inl (cyI, 7, .inl (fun _ => 0))), (a_now, .inl (cyI, 7, .inl (fun _ => 0))), (a_lawPlace, .inl (cyI, 6, .inl (fun _ => 0))), (a_lawOther, .inl (cyI, 6, .inl (fun _ => 0))), (a_lawEach, .inl (cyI, 6, .inl (fun _ => 0))), (a_lawFrom, .inl (cyI, 6, .inl (fun _ => 0))), (a_foes, .inl (cyI, 7, .inl (fun _ => 0))), (a_suitTable, .inl (cyI, 49, .inl (fun _ => 0))), (a_acts, .inl (cyI, 40, .inl (fun _ => 0))), (b_first, .inl (cyI, 7, .inl (fun _ => 0))), (b_now, .inl (cyI, 7, .inl (fun _ => 0))), (b_lawPlace, .inl (cyI, 6, .inl (fun _ => 0))), (b_lawOther, .inl (cyI, 6, .inl (fun _ => 0))), (b_lawEach, .inl (cyI, 6, .inl (fun _ => 0))), (b_lawFrom, .inl (cyI, 6, .inl (fun _ => 0))), (b_acts, .inl (cyI, 40, .inl (fun _ => 0))), (xTape, .inr (9, [.ref tBytes, .int 0, .int 0, .int (-1), .int 0, .int 0, .int 0, .int 0, .int 0, .int 0])), (xDraft, .inr (2, [.int 0, .int 0, .int 2, .int 0, .int 0, .int 0, .ref b_first, .ref b_now, .ref b_lawPlace, .ref b_lawOther, .ref b_lawEach, .ref b_lawFrom, .ref b_foes, .ref b_suitTable, .ref b_acts])), (b_foes, .inl (cyI, 7, .inl g0_1)), (b_suitTable, .inl (cyI, 49, .inl g1_2))] H := hP
  have hD : va_D A [(x, .inr (10, [.ref xTape, .ref xHall, .ref xDraft, .ref xImages, .ref xKept, .ref xSlots, .ref xCourse, .ref xSight, .ref xParting, .ref xSuiting, .ref xGame, .ref xLots, .ref xTold, .ref xTried, .null])), (xHall, .inr (2, [.int 0, .int 0, .int 0, .int 0, .int 0, .int 0, .ref a_first, .ref a_now, .ref a_lawPlace, .ref a_lawOther, .ref a_lawEach, .ref a_lawFrom, .ref a_foes, .ref a_suitTable, .ref a_acts])), (a_first, .inl (cyI, 7, .inl (fun _ => 0))), (a_now, .inl (cyI, 7, .inl (fun _ => 0))), (a_lawPlace, .inl (cyI, 6, .inl (fun _ => 0))), (a_lawOther, .inl (cyI, 6, .inl (fun _ => 0))), (a_lawEach, .inl (cyI, 6, .inl (fun _ => 0))), (a_lawFrom, .inl (cyI, 6, .inl (fun _ => 0))), (a_foes, .inl (cyI, 7, .inl (fun _ => 0))), (a_suitTable, .inl (cyI, 49, .inl (fun _ => 0))), (a_acts, .inl (cyI, 40, .inl (fun _ => 0))), (b_first, .inl (cyI, 7, .inl (fun _ => 0))), (b_now, .inl (cyI, 7, .inl (fun _ => 0))), (b_lawPlace, .inl (cyI, 6, .inl (fun _ => 0))), (b_lawOther, .inl (cyI, 6, .inl (fun _ => 0))), (b_lawEach, .inl (cyI, 6, .inl (fun _ => 0))), (b_lawFrom, .inl (cyI, 6, .inl (fun _ => 0))), (b_acts, .inl (cyI, 40, .inl (fun _ => 0))), (xTape, .inr (9, [.ref tBytes, .int 0, .int 0, .int (-1), .int 0, .int 0, .int 0, .int 0, .int 0, .int 0])), (xDraft, .inr (2, [.int 0, .int 0, .int 2, .int 0, .int 0, .int 0, .ref b_first, .ref b_now, .ref b_lawPlace, .ref b_lawOther, .ref b_lawEach, .ref b_lawFrom, .ref b_foes, .ref b_suitTable, .ref b_acts])), (b_foes, .inl (cyI, 7, .inl g0_1)), (b_suitTable, .inl (cyI, 49, .inl g1_2))] := hD
  refine lv_aload_n hx hb dX11_hall_11 rfl (lv_at hl 0 rfl) ?_
  refine va_get (D := (dC, dI)) (ci := 10) (v := .ref xTape) (C := RX11) (T := TX11) (N := 15) hx hb hts uinX11 hown hK hP 0 rfl rfl 0 (by decide) (hts _ wd_2_65) (fun _ h9 => h9) rfl dX11_hall_12 ?_
  refine va_get (D := (dC, dI)) (ci := 9) (v := .int 0) (C := RX10) (T := TX10) (N := 10) hx hb hts uinX10 hown hK hP 18 rfl rfl 2 (by decide) (hts _ wd_1_40) (fun _ h9 => h9) rfl dX11_hall_15 ?_
  refine lv_if_eq (tgt := 24) hx hb dX11_hall_18 (by decide) (fun _ => ?_) (fun c_3 => absurd c_3 (by decide))
  refine lv_aload_n hx hb dX11_hall_24 rfl (lv_at hl 0 rfl) ?_
  refine va_get (D := (dC, dI)) (ci := 10) (v := .ref xTape) (C := RX11) (T := TX11) (N := 15) hx hb hts uinX11 hown hK hP 0 rfl rfl 0 (by decide) (hts _ wd_2_65) (fun _ h9 => h9) rfl dX11_hall_25 ?_
  refine lv_iconst (v := 0) hx hb dX11_hall_28 (by decide) ?_
  refine va_put (D := (dC, dI)) (ci := 9) (v := .int 0) (ty := .int) (C := RX10) (T := TX10) (N := 10) hx hb hts uinX10 tyX10 tyX10_ok nmX10 hown hK hP hD hS 18 rfl rfl 1 (by decide) (hts _ wd_1_38) (fun _ h9 => h9) rfl (by decide +kernel) rfl rfl (Nat.le_of_ble_eq_true rfl) dX11_hall_29 (fun H locs hP hD hS => ?_)
  have hP : va_P (dC, dI) vwCl [(x, .inr (10, [.ref xTape, .ref xHall, .ref xDraft, .ref xImages, .ref xKept, .ref xSlots, .ref xCourse, .ref xSight, .ref xParting, .ref xSuiting, .ref xGame, .ref xLots, .ref xTold, .ref xTried, .null])), (xHall, .inr (2, [.int 0, .int 0, .int 0, .int 0, .int 0, .int 0, .ref a_first, .ref a_now, .ref a_lawPlace, .ref a_lawOther, .ref a_lawEach, .ref a_lawFrom, .ref a_foes, .ref a_suitTable, .ref a_acts])), (a_first, .inl (cyI, 7, .inl (fun _ => 0))), (a_now, .inl (cyI, 7, .inl (fun _ => 0))), (a_lawPlace, .inl (cyI, 6, .inl (fun _ => 0))), (a_lawOther, .inl (cyI, 6, .inl (fun _ => 0))), (a_lawEach, .inl (cyI, 6, .inl (fun _ => 0))), (a_lawFrom, .inl (cyI, 6, .inl (fun _ => 0))), (a_foes, .inl (cyI, 7, .inl (fun _ => 0))), (a_suitTable, .inl (cyI, 49, .inl (fun _ => 0))), (a_acts, .inl (cyI, 40, .inl (fun _ => 0))), (b_first, .inl (cyI, 7, .inl (fun _ => 0))), (b_now, .inl (cyI, 7, .inl (fun _ => 0))), (b_lawPlace, .inl (cyI, 6, .inl (fun _ => 0))), (b_lawOther, .inl (cyI, 6, .inl (fun _ => 0))), (b_lawEach, .inl (cyI, 6, .inl (fun _ => 0))), (b_lawFrom, .inl (cyI, 6, .inl (fun _ => 0))), (b_acts, .inl (cyI, 40, .inl (fun _ => 0))), (xTape, .inr (9, [.ref tBytes, .int 0, .int 0, .int (-1), .int 0, .int 0, .int 0, .int 0, .int 0, .int 0])), (xDraft, .inr (2, [.int 0, .int 0, .int 2, .int 0, .int 0, .int 0, .ref b_first, .ref b_now, .ref b_lawPlace, .ref b_lawOther, .ref b_lawEach, .ref b_lawFrom, .ref b_foes, .ref b_suitTable, .ref b_acts])), (b_foes, .inl (cyI, 7, .inl g0_1)), (b_suitTable, .inl (cyI, 49, .inl g1_2))] H := hP
  have hD : va_D A [(x, .inr (10, [.ref xTape, .ref xHall, .ref xDraft, .ref xImages, .ref xKept, .ref xSlots, .ref xCourse, .ref xSight, .ref xParting, .ref xSuiting, .ref xGame, .ref xLots, .ref xTold, .ref xTried, .null])), (xHall, .inr (2, [.int 0, .int 0, .int 0, .int 0, .int 0, .int 0, .ref a_first, .ref a_now, .ref a_lawPlace, .ref a_lawOther, .ref a_lawEach, .ref a_lawFrom, .ref a_foes, .ref a_suitTable, .ref a_acts])), (a_first, .inl (cyI, 7, .inl (fun _ => 0))), (a_now, .inl (cyI, 7, .inl (fun _ => 0))), (a_lawPlace, .inl (cyI, 6, .inl (fun _ => 0))), (a_lawOther, .inl (cyI, 6, .inl (fun _ => 0))), (a_lawEach, .inl (cyI, 6, .inl (fun _ => 0))), (a_lawFrom, .inl (cyI, 6, .inl (fun _ => 0))), (a_foes, .inl (cyI, 7, .inl (fun _ => 0))), (a_suitTable, .inl (cyI, 49, .inl (fun _ => 0))), (a_acts, .inl (cyI, 40, .inl (fun _ => 0))), (b_first, .inl (cyI, 7, .inl (fun _ => 0))), (b_now, .inl (cyI, 7, .inl (fun _ => 0))), (b_lawPlace, .inl (cyI, 6, .inl (fun _ => 0))), (b_lawOther, .inl (cyI, 6, .inl (fun _ => 0))), (b_lawEach, .inl (cyI, 6, .inl (fun _ => 0))), (b_lawFrom, .inl (cyI, 6, .inl (fun _ => 0))), (b_acts, .inl (cyI, 40, .inl (fun _ => 0))), (xTape, .inr (9, [.ref tBytes, .int 0, .int 0, .int (-1), .int 0, .int 0, .int 0, .int 0, .int 0, .int 0])), (xDraft, .inr (2, [.int 0, .int 0, .int 2, .int 0, .int 0, .int 0, .ref b_first, .ref b_now, .ref b_lawPlace, .ref b_lawOther, .ref b_lawEach, .ref b_lawFrom, .ref b_foes, .ref b_suitTable, .ref b_acts])), (b_foes, .inl (cyI, 7, .inl g0_1)), (b_suitTable, .inl (cyI, 49, .inl g1_2))] := hD
  refine lv_aload_n hx hb dX11_hall_32 rfl (lv_at hl 0 rfl) ?_
  refine va_get (D := (dC, dI)) (ci := 10) (v := .ref xHall) (C := RX11) (T := TX11) (N := 15) hx hb hts uinX11 hown hK hP 0 rfl rfl 1 (by decide) (hts _ wd_2_66) (fun _ h9 => h9) rfl dX11_hall_33 ?_
  refine lv_aload_n hx hb dX11_hall_36 rfl (lv_at hl 0 rfl) ?_
  refine va_get (D := (dC, dI)) (ci := 10) (v := .ref xDraft) (C := RX11) (T := TX11) (N := 15) hx hb hts uinX11 hown hK hP 0 rfl rfl 2 (by decide) (hts _ wd_2_67) (fun _ h9 => h9) rfl dX11_hall_37 ?_
  have hPc := hP.sub (ws' := [(xHall, .inr (2, [.int 0, .int 0, .int 0, .int 0, .int 0, .int 0, .ref a_first, .ref a_now, .ref a_lawPlace, .ref a_lawOther, .ref a_lawEach, .ref a_lawFrom, .ref a_foes, .ref a_suitTable, .ref a_acts])), (xDraft, .inr (2, [.int 0, .int 0, .int 2, .int 0, .int 0, .int 0, .ref b_first, .ref b_now, .ref b_lawPlace, .ref b_lawOther, .ref b_lawEach, .ref b_lawFrom, .ref b_foes, .ref b_suitTable, .ref b_acts])), (a_first, .inl (cyI, 7, .inl (fun _ => 0))), (a_now, .inl (cyI, 7, .inl (fun _ => 0))), (a_lawPlace, .inl (cyI, 6, .inl (fun _ => 0))), (a_lawOther, .inl (cyI, 6, .inl (fun _ => 0))), (a_lawEach, .inl (cyI, 6, .inl (fun _ => 0))), (a_lawFrom, .inl (cyI, 6, .inl (fun _ => 0))), (a_foes, .inl (cyI, 7, .inl (fun _ => 0))), (a_suitTable, .inl (cyI, 49, .inl (fun _ => 0))), (a_acts, .inl (cyI, 40, .inl (fun _ => 0))), (b_first, .inl (cyI, 7, .inl (fun _ => 0))), (b_now, .inl (cyI, 7, .inl (fun _ => 0))), (b_lawPlace, .inl (cyI, 6, .inl (fun _ => 0))), (b_lawOther, .inl (cyI, 6, .inl (fun _ => 0))), (b_lawEach, .inl (cyI, 6, .inl (fun _ => 0))), (b_lawFrom, .inl (cyI, 6, .inl (fun _ => 0))), (b_foes, .inl (cyI, 7, .inl g0_1)), (b_suitTable, .inl (cyI, 49, .inl g1_2)), (b_acts, .inl (cyI, 40, .inl (fun _ => 0)))]) [1, 19, 2, 3, 4, 5, 6, 7, 8, 9, 10, 11, 12, 13, 14, 15, 16, 20, 21, 17] rfl
  have hKc := hK.sub (tys' := [(cyI, .int), (cyB, .byte), (cyJ, .long), (cyZ, .boolean), (cyH, .object RX2), (cyN, .array .long)]) [0, 1, 2, 3, 4, 5] rfl
  have hDc := hD.sub (ws' := [(xHall, .inr (2, [.int 0, .int 0, .int 0, .int 0, .int 0, .int 0, .ref a_first, .ref a_now, .ref a_lawPlace, .ref a_lawOther, .ref a_lawEach, .ref a_lawFrom, .ref a_foes, .ref a_suitTable, .ref a_acts])), (xDraft, .inr (2, [.int 0, .int 0, .int 2, .int 0, .int 0, .int 0, .ref b_first, .ref b_now, .ref b_lawPlace, .ref b_lawOther, .ref b_lawEach, .ref b_lawFrom, .ref b_foes, .ref b_suitTable, .ref b_acts])), (a_first, .inl (cyI, 7, .inl (fun _ => 0))), (a_now, .inl (cyI, 7, .inl (fun _ => 0))), (a_lawPlace, .inl (cyI, 6, .inl (fun _ => 0))), (a_lawOther, .inl (cyI, 6, .inl (fun _ => 0))), (a_lawEach, .inl (cyI, 6, .inl (fun _ => 0))), (a_lawFrom, .inl (cyI, 6, .inl (fun _ => 0))), (a_foes, .inl (cyI, 7, .inl (fun _ => 0))), (a_suitTable, .inl (cyI, 49, .inl (fun _ => 0))), (a_acts, .inl (cyI, 40, .inl (fun _ => 0))), (b_first, .inl (cyI, 7, .inl (fun _ => 0))), (b_now, .inl (cyI, 7, .inl (fun _ => 0))), (b_lawPlace, .inl (cyI, 6, .inl (fun _ => 0))), (b_lawOther, .inl (cyI, 6, .inl (fun _ => 0))), (b_lawEach, .inl (cyI, 6, .inl (fun _ => 0))), (b_lawFrom, .inl (cyI, 6, .inl (fun _ => 0))), (b_foes, .inl (cyI, 7, .inl g0_1)), (b_suitTable, .inl (cyI, 49, .inl g1_2)), (b_acts, .inl (cyI, 40, .inl (fun _ => 0)))]) [1, 19, 2, 3, 4, 5, 6, 7, 8, 9, 10, 11, 12, 13, 14, 15, 16, 20, 21, 17] (by decide) rfl
  have hFc := va_free (wc := [(xHall, .inr (2, [.int 0, .int 0, .int 0, .int 0, .int 0, .int 0, .ref a_first, .ref a_now, .ref a_lawPlace, .ref a_lawOther, .ref a_lawEach, .ref a_lawFrom, .ref a_foes, .ref a_suitTable, .ref a_acts])), (xDraft, .inr (2, [.int 0, .int 0, .int 2, .int 0, .int 0, .int 0, .ref b_first, .ref b_now, .ref b_lawPlace, .ref b_lawOther, .ref b_lawEach, .ref b_lawFrom, .ref b_foes, .ref b_suitTable, .ref b_acts])), (a_first, .inl (cyI, 7, .inl (fun _ => 0))), (a_now, .inl (cyI, 7, .inl (fun _ => 0))), (a_lawPlace, .inl (cyI, 6, .inl (fun _ => 0))), (a_lawOther, .inl (cyI, 6, .inl (fun _ => 0))), (a_lawEach, .inl (cyI, 6, .inl (fun _ => 0))), (a_lawFrom, .inl (cyI, 6, .inl (fun _ => 0))), (a_foes, .inl (cyI, 7, .inl (fun _ => 0))), (a_suitTable, .inl (cyI, 49, .inl (fun _ => 0))), (a_acts, .inl (cyI, 40, .inl (fun _ => 0))), (b_first, .inl (cyI, 7, .inl (fun _ => 0))), (b_now, .inl (cyI, 7, .inl (fun _ => 0))), (b_lawPlace, .inl (cyI, 6, .inl (fun _ => 0))), (b_lawOther, .inl (cyI, 6, .inl (fun _ => 0))), (b_lawEach, .inl (cyI, 6, .inl (fun _ => 0))), (b_lawFrom, .inl (cyI, 6, .inl (fun _ => 0))), (b_foes, .inl (cyI, 7, .inl g0_1)), (b_suitTable, .inl (cyI, 49, .inl g1_2)), (b_acts, .inl (cyI, 40, .inl (fun _ => 0)))]) hD hS hA [1, 19, 2, 3, 4, 5, 6, 7, 8, 9, 10, 11, 12, 13, 14, 15, 16, 20, 21, 17] rfl
  refine va_callv (va_runV (As := [.ref xDraft]) (rest := []) ⟨hx, hb, hml, hown, hts⟩ (c_become l dC dI cyI cyB cyJ cyZ cyH cyN H.size xHall a_first a_now a_lawPlace a_lawOther a_lawEach a_lawFrom a_foes a_suitTable a_acts xDraft b_first b_now b_lawPlace b_lawOther b_lawEach b_lawFrom b_foes b_suitTable b_acts 0 0 0 0 0 0 0 0 2 0 0 0 (fun _ => 0) (fun _ => 0) (fun _ => 0) (fun _ => 0) (fun _ => 0) (fun _ => 0) (fun _ => 0) (fun _ => 0) (fun _ => 0) (fun _ => 0) (fun _ => 0) (fun _ => 0) (fun _ => 0) (fun _ => 0) (fun _ => 0) g0_1 g1_2 (fun _ => 0)) (cwV 1 hts (gdV wd_3_37 wd_3_38 wd_3_39 wd_1_3 wd_3_40) rfl rfl rfl (by decide +kernel) ⟨Nat.le_of_ble_eq_true rfl, Nat.le_of_ble_eq_true rfl⟩) ⟨fun a U g mk q => by obtain ⟨q0, q1, qP, qK, qD⟩ := q; exact ⟨q0, q1, qP, va_K.moved (u := U) (U := U.calling g mk a) (Vm.Alike.refl U.vm) qK, qD⟩, va_recv hKc hPc (ci := 2) (q0 := 0) rfl rfl, fun U hU hW => ⟨rfl, by rw [hU], by rw [hU]; exact hPc, va_K.moved hW.alike hKc, hDc.weaken (fun _ _ _ _ => trivial)⟩⟩ rfl rfl hl.1 rfl (lv_room (Nat.le_of_ble_eq_true rfl)) dX11_hall_40 ⟨Nat.le_of_ble_eq_true rfl, Nat.le_of_ble_eq_true rfl⟩) hS (fun q _ h => hFc q h) hFc (fun  u t H1 locs ht hvm hw hB hz1 hk1 hS => ?_)
  obtain ⟨hP1, hD1⟩ := hB
  rw [ht] at hP1
  obtain ⟨hP, hD⟩ := va_join (wr := [(x, .inr (10, [.ref xTape, .ref xHall, .ref xDraft, .ref xImages, .ref xKept, .ref xSlots, .ref xCourse, .ref xSight, .ref xParting, .ref xSuiting, .ref xGame, .ref xLots, .ref xTold, .ref xTried, .null])), (xTape, .inr (9, [.ref tBytes, .int 0, .int 0, .int (-1), .int 0, .int 0, .int 0, .int 0, .int 0, .int 0]))]) (w1 := [(xHall, .inr (2, [.int 0, .int 0, .int 2, .int 0, .int 0, .int 0, .ref a_first, .ref a_now, .ref a_lawPlace, .ref a_lawOther, .ref a_lawEach, .ref a_lawFrom, .ref a_foes, .ref a_suitTable, .ref a_acts]))]) hP hD [1, 19, 2, 3, 4, 5, 6, 7, 8, 9, 10, 11, 12, 13, 14, 15, 16, 20, 21, 17] [0, 18] rfl rfl (by decide) (by decide) hk1 hFc hP1 hD1
  generalize H1 = H at hP hS ⊢
  have hP : va_P (dC, dI) vwCl [(x, .inr (10, [.ref xTape, .ref xHall, .ref xDraft, .ref xImages, .ref xKept, .ref xSlots, .ref xCourse, .ref xSight, .ref xParting, .ref xSuiting, .ref xGame, .ref xLots, .ref xTold, .ref xTried, .null])), (xTape, .inr (9, [.ref tBytes, .int 0, .int 0, .int (-1), .int 0, .int 0, .int 0, .int 0, .int 0, .int 0])), (xHall, .inr (2, [.int 0, .int 0, .int 2, .int 0, .int 0, .int 0, .ref a_first, .ref a_now, .ref a_lawPlace, .ref a_lawOther, .ref a_lawEach, .ref a_lawFrom, .ref a_foes, .ref a_suitTable, .ref a_acts]))] H := hP
  have hD : va_D A [(x, .inr (10, [.ref xTape, .ref xHall, .ref xDraft, .ref xImages, .ref xKept, .ref xSlots, .ref xCourse, .ref xSight, .ref xParting, .ref xSuiting, .ref xGame, .ref xLots, .ref xTold, .ref xTried, .null])), (xTape, .inr (9, [.ref tBytes, .int 0, .int 0, .int (-1), .int 0, .int 0, .int 0, .int 0, .int 0, .int 0])), (xHall, .inr (2, [.int 0, .int 0, .int 2, .int 0, .int 0, .int 0, .ref a_first, .ref a_now, .ref a_lawPlace, .ref a_lawOther, .ref a_lawEach, .ref a_lawFrom, .ref a_foes, .ref a_suitTable, .ref a_acts]))] := hD
  refine lv_aload_n hx hb dX11_hall_43 rfl (lv_at hl 0 rfl) ?_
  refine va_get (D := (dC, dI)) (ci := 10) (v := .ref xHall) (C := RX11) (T := TX11) (N := 15) hx hb hts uinX11 hown hK hP 0 rfl rfl 1 (by decide) (hts _ wd_2_66) (fun _ h9 => h9) rfl dX11_hall_44 ?_
  refine va_get (D := (dC, dI)) (ci := 2) (v := .int 0) (C := RX2) (T := TX2) (N := 15) hx hb hts uinX2 hown hK hP 2 rfl rfl 1 (by decide) (hts _ wd_1_87) (fun _ h9 => h9) rfl dX11_hall_47 ?_
  exact W.iret (v := 0) hx hb hr (fun t ht hW => ⟨⟨0, (), rfl, rfl, trivial⟩, hS.F ht⟩) hS.2.2 dX11_hall_50

/- X11_image -/
set_option maxHeartbeats 4000000 in
set_option maxRecDepth 100000 in
theorem c_image (l : Launch) (dC : Nat → ClassId) (dI : Nat → Nat → Nat) (cyI cyB cyJ cyZ cyH cyN : ClassId) (sz : Nat) (x xTape xHall xDraft xImages xKept xSlots xCourse xSight xParting xSuiting xGame xLots xTold xTried a_first a_now a_lawPlace a_lawOther a_lawEach a_lawFrom a_foes a_suitTable a_acts i0 i1 i2 u_first u_now u_lawPlace u_lawOther u_lawEach u_lawFrom u_foes u_suitTable u_acts v_first v_now v_lawPlace v_lawOther v_lawEach v_lawFrom v_foes v_suitTable v_acts w_first w_now w_lawPlace w_lawOther w_lawEach w_lawFrom w_foes w_suitTable w_acts : Nat) (iF : Nat → Option Nat) (p0 : Int32) (g0 : iF 0 = some i0) (g1 : iF 1 = some i1) (g2 : iF 2 = some i2) : Met l yX11_image (wk yX11_image cX11_image 2 (some .int)) ({ frames := 2, cells := 0, slots := 0, locals := 82 }) (va_Pc [.ref x, .int p0] (fun U => U.heap.size = sz ∧ va_P (dC, dI) vwCl [(x, .inr (10, [.ref xTape, .ref xHall, .ref xDraft, .ref xImages, .ref xKept, .ref xSlots, .ref xCourse, .ref xSight, .ref xParting, .ref xSuiting, .ref xGame, .ref xLots, .ref xTold, .ref xTried, .null])), (xHall, .inr (2, [.int 0, .int 0, .int 0, .int 0, .int 0, .int 0, .ref a_first, .ref a_now, .ref a_lawPlace, .ref a_lawOther, .ref a_lawEach, .ref a_lawFrom, .ref a_foes, .ref a_suitTable, .ref a_acts])), (xImages, .inl (cyH, 3, .inr (.inr (.inr (.inr iF))))), (xKept, .inl (cyZ, 3, .inl (fun _ => 0))), (a_first, .inl (cyI, 7, .inl (fun _ => 0))), (a_now, .inl (cyI, 7, .inl (fun _ => 0))), (a_lawPlace, .inl (cyI, 6, .inl (fun _ => 0))), (a_lawOther, .inl (cyI, 6, .inl (fun _ => 0))), (a_lawEach, .inl (cyI, 6, .inl (fun _ => 0))), (a_lawFrom, .inl (cyI, 6, .inl (fun _ => 0))), (a_foes, .inl (cyI, 7, .inl (fun _ => 0))), (a_suitTable, .inl (cyI, 49, .inl (fun _ => 0))), (a_acts, .inl (cyI, 40, .inl (fun _ => 0))), (i0, .inr (2, [.int 0, .int 0, .int 0, .int 0, .int 0, .int 0, .ref u_first, .ref u_now, .ref u_lawPlace, .ref u_lawOther, .ref u_lawEach, .ref u_lawFrom, .ref u_foes, .ref u_suitTable, .ref u_acts])), (u_first, .inl (cyI, 7, .inl (fun _ => 0))), (u_now, .inl (cyI, 7, .inl (fun _ => 0))), (u_lawPlace, .inl (cyI, 6, .inl (fun _ => 0))), (u_lawOther, .inl (cyI, 6, .inl (fun _ => 0))), (u_lawEach, .inl (cyI, 6, .inl (fun _ => 0))), (u_lawFrom, .inl (cyI, 6, .inl (fun _ => 0))), (u_foes, .inl (cyI, 7, .inl (fun _ => 0))), (u_suitTable, .inl (cyI, 49, .inl (fun _ => 0))), (u_acts, .inl (cyI, 40, .inl (fun _ => 0))), (i1, .inr (2, [.int 0, .int 0, .int 0, .int 0, .int 0, .int 0, .ref v_first, .ref v_now, .ref v_lawPlace, .ref v_lawOther, .ref v_lawEach, .ref v_lawFrom, .ref v_foes, .ref v_suitTable, .ref v_acts])), (v_first, .inl (cyI, 7, .inl (fun _ => 0))), (v_now, .inl (cyI, 7, .inl (fun _ => 0))), (v_lawPlace, .inl (cyI, 6, .inl (fun _ => 0))), (v_lawOther, .inl (cyI, 6, .inl (fun _ => 0))), (v_lawEach, .inl (cyI, 6, .inl (fun _ => 0))), (v_lawFrom, .inl (cyI, 6, .inl (fun _ => 0))), (v_foes, .inl (cyI, 7, .inl (fun _ => 0))), (v_suitTable, .inl (cyI, 49, .inl (fun _ => 0))), (v_acts, .inl (cyI, 40, .inl (fun _ => 0))), (i2, .inr (2, [.int 0, .int 0, .int 0, .int 0, .int 0, .int 0, .ref w_first, .ref w_now, .ref w_lawPlace, .ref w_lawOther, .ref w_lawEach, .ref w_lawFrom, .ref w_foes, .ref w_suitTable, .ref w_acts])), (w_first, .inl (cyI, 7, .inl (fun _ => 0))), (w_now, .inl (cyI, 7, .inl (fun _ => 0))), (w_lawPlace, .inl (cyI, 6, .inl (fun _ => 0))), (w_lawOther, .inl (cyI, 6, .inl (fun _ => 0))), (w_lawEach, .inl (cyI, 6, .inl (fun _ => 0))), (w_lawFrom, .inl (cyI, 6, .inl (fun _ => 0))), (w_foes, .inl (cyI, 7, .inl (fun _ => 0))), (w_suitTable, .inl (cyI, 49, .inl (fun _ => 0))), (w_acts, .inl (cyI, 40, .inl (fun _ => 0)))] U.heap ∧ va_K (dC, dI) vwCl [(cyI, .int), (cyB, .byte), (cyJ, .long), (cyZ, .boolean), (cyH, .object RX2), (cyN, .array .long)] U ∧ va_D (fun _ => True) [(x, .inr (10, [.ref xTape, .ref xHall, .ref xDraft, .ref xImages, .ref xKept, .ref xSlots, .ref xCourse, .ref xSight, .ref xParting, .ref xSuiting, .ref xGame, .ref xLots, .ref xTold, .ref xTried, .null])), (xHall, .inr (2, [.int 0, .int 0, .int 0, .int 0, .int 0, .int 0, .ref a_first, .ref a_now, .ref a_lawPlace, .ref a_lawOther, .ref a_lawEach, .ref a_lawFrom, .ref a_foes, .ref a_suitTable, .ref a_acts])), (xImages, .inl (cyH, 3, .inr (.inr (.inr (.inr iF))))), (xKept, .inl (cyZ, 3, .inl (fun _ => 0))), (a_first, .inl (cyI, 7, .inl (fun _ => 0))), (a_now, .inl (cyI, 7, .inl (fun _ => 0))), (a_lawPlace, .inl (cyI, 6, .inl (fun _ => 0))), (a_lawOther, .inl (cyI, 6, .inl (fun _ => 0))), (a_lawEach, .inl (cyI, 6, .inl (fun _ => 0))), (a_lawFrom, .inl (cyI, 6, .inl (fun _ => 0))), (a_foes, .inl (cyI, 7, .inl (fun _ => 0))), (a_suitTable, .inl (cyI, 49, .inl (fun _ => 0))), (a_acts, .inl (cyI, 40, .inl (fun _ => 0))), (i0, .inr (2, [.int 0, .int 0, .int 0, .int 0, .int 0, .int 0, .ref u_first, .ref u_now, .ref u_lawPlace, .ref u_lawOther, .ref u_lawEach, .ref u_lawFrom, .ref u_foes, .ref u_suitTable, .ref u_acts])), (u_first, .inl (cyI, 7, .inl (fun _ => 0))), (u_now, .inl (cyI, 7, .inl (fun _ => 0))), (u_lawPlace, .inl (cyI, 6, .inl (fun _ => 0))), (u_lawOther, .inl (cyI, 6, .inl (fun _ => 0))), (u_lawEach, .inl (cyI, 6, .inl (fun _ => 0))), (u_lawFrom, .inl (cyI, 6, .inl (fun _ => 0))), (u_foes, .inl (cyI, 7, .inl (fun _ => 0))), (u_suitTable, .inl (cyI, 49, .inl (fun _ => 0))), (u_acts, .inl (cyI, 40, .inl (fun _ => 0))), (i1, .inr (2, [.int 0, .int 0, .int 0, .int 0, .int 0, .int 0, .ref v_first, .ref v_now, .ref v_lawPlace, .ref v_lawOther, .ref v_lawEach, .ref v_lawFrom, .ref v_foes, .ref v_suitTable, .ref v_acts])), (v_first, .inl (cyI, 7, .inl (fun _ => 0))), (v_now, .inl (cyI, 7, .inl (fun _ => 0))), (v_lawPlace, .inl (cyI, 6, .inl (fun _ => 0))), (v_lawOther, .inl (cyI, 6, .inl (fun _ => 0))), (v_lawEach, .inl (cyI, 6, .inl (fun _ => 0))), (v_lawFrom, .inl (cyI, 6, .inl (fun _ => 0))), (v_foes, .inl (cyI, 7, .inl (fun _ => 0))), (v_suitTable, .inl (cyI, 49, .inl (fun _ => 0))), (v_acts, .inl (cyI, 40, .inl (fun _ => 0))), (i2, .inr (2, [.int 0, .int 0, .int 0, .int 0, .int 0, .int 0, .ref w_first, .ref w_now, .ref w_lawPlace, .ref w_lawOther, .ref w_lawEach, .ref w_lawFrom, .ref w_foes, .ref w_suitTable, .ref w_acts])), (w_first, .inl (cyI, 7, .inl (fun _ => 0))), (w_now, .inl (cyI, 7, .inl (fun _ => 0))), (w_lawPlace, .inl (cyI, 6, .inl (fun _ => 0))), (w_lawOther, .inl (cyI, 6, .inl (fun _ => 0))), (w_lawEach, .inl (cyI, 6, .inl (fun _ => 0))), (w_lawFrom, .inl (cyI, 6, .inl (fun _ => 0))), (w_foes, .inl (cyI, 7, .inl (fun _ => 0))), (w_suitTable, .inl (cyI, 49, .inl (fun _ => 0))), (w_acts, .inl (cyI, 40, .inl (fun _ => 0)))])) (va_Qi (fun (r : Int32) (_ : Unit) => r = (if 0 ≤ p0.toInt ∧ p0.toInt ≤ 2 then 0 else (-2))) (fun (_ : Unit) (_ : State) => True) (va_A [(x, .inr (10, [.ref xTape, .ref xHall, .ref xDraft, .ref xImages, .ref xKept, .ref xSlots, .ref xCourse, .ref xSight, .ref xParting, .ref xSuiting, .ref xGame, .ref xLots, .ref xTold, .ref xTried, .null])), (xHall, .inr (2, [.int 0, .int 0, .int 0, .int 0, .int 0, .int 0, .ref a_first, .ref a_now, .ref a_lawPlace, .ref a_lawOther, .ref a_lawEach, .ref a_lawFrom, .ref a_foes, .ref a_suitTable, .ref a_acts])), (xImages, .inl (cyH, 3, .inr (.inr (.inr (.inr iF))))), (xKept, .inl (cyZ, 3, .inl (fun _ => 0))), (a_first, .inl (cyI, 7, .inl (fun _ => 0))), (a_now, .inl (cyI, 7, .inl (fun _ => 0))), (a_lawPlace, .inl (cyI, 6, .inl (fun _ => 0))), (a_lawOther, .inl (cyI, 6, .inl (fun _ => 0))), (a_lawEach, .inl (cyI, 6, .inl (fun _ => 0))), (a_lawFrom, .inl (cyI, 6, .inl (fun _ => 0))), (a_foes, .inl (cyI, 7, .inl (fun _ => 0))), (a_suitTable, .inl (cyI, 49, .inl (fun _ => 0))), (a_acts, .inl (cyI, 40, .inl (fun _ => 0))), (i0, .inr (2, [.int 0, .int 0, .int 0, .int 0, .int 0, .int 0, .ref u_first, .ref u_now, .ref u_lawPlace, .ref u_lawOther, .ref u_lawEach, .ref u_lawFrom, .ref u_foes, .ref u_suitTable, .ref u_acts])), (u_first, .inl (cyI, 7, .inl (fun _ => 0))), (u_now, .inl (cyI, 7, .inl (fun _ => 0))), (u_lawPlace, .inl (cyI, 6, .inl (fun _ => 0))), (u_lawOther, .inl (cyI, 6, .inl (fun _ => 0))), (u_lawEach, .inl (cyI, 6, .inl (fun _ => 0))), (u_lawFrom, .inl (cyI, 6, .inl (fun _ => 0))), (u_foes, .inl (cyI, 7, .inl (fun _ => 0))), (u_suitTable, .inl (cyI, 49, .inl (fun _ => 0))), (u_acts, .inl (cyI, 40, .inl (fun _ => 0))), (i1, .inr (2, [.int 0, .int 0, .int 0, .int 0, .int 0, .int 0, .ref v_first, .ref v_now, .ref v_lawPlace, .ref v_lawOther, .ref v_lawEach, .ref v_lawFrom, .ref v_foes, .ref v_suitTable, .ref v_acts])), (v_first, .inl (cyI, 7, .inl (fun _ => 0))), (v_now, .inl (cyI, 7, .inl (fun _ => 0))), (v_lawPlace, .inl (cyI, 6, .inl (fun _ => 0))), (v_lawOther, .inl (cyI, 6, .inl (fun _ => 0))), (v_lawEach, .inl (cyI, 6, .inl (fun _ => 0))), (v_lawFrom, .inl (cyI, 6, .inl (fun _ => 0))), (v_foes, .inl (cyI, 7, .inl (fun _ => 0))), (v_suitTable, .inl (cyI, 49, .inl (fun _ => 0))), (v_acts, .inl (cyI, 40, .inl (fun _ => 0))), (i2, .inr (2, [.int 0, .int 0, .int 0, .int 0, .int 0, .int 0, .ref w_first, .ref w_now, .ref w_lawPlace, .ref w_lawOther, .ref w_lawEach, .ref w_lawFrom, .ref w_foes, .ref w_suitTable, .ref w_acts])), (w_first, .inl (cyI, 7, .inl (fun _ => 0))), (w_now, .inl (cyI, 7, .inl (fun _ => 0))), (w_lawPlace, .inl (cyI, 6, .inl (fun _ => 0))), (w_lawOther, .inl (cyI, 6, .inl (fun _ => 0))), (w_lawEach, .inl (cyI, 6, .inl (fun _ => 0))), (w_lawFrom, .inl (cyI, 6, .inl (fun _ => 0))), (w_foes, .inl (cyI, 7, .inl (fun _ => 0))), (w_suitTable, .inl (cyI, 49, .inl (fun _ => 0))), (w_acts, .inl (cyI, 40, .inl (fun _ => 0)))] sz)) 0 0 (va_A [(x, .inr (10, [.ref xTape, .ref xHall, .ref xDraft, .ref xImages, .ref xKept, .ref xSlots, .ref xCourse, .ref xSight, .ref xParting, .ref xSuiting, .ref xGame, .ref xLots, .ref xTold, .ref xTried, .null])), (xHall, .inr (2, [.int 0, .int 0, .int 0, .int 0, .int 0, .int 0, .ref a_first, .ref a_now, .ref a_lawPlace, .ref a_lawOther, .ref a_lawEach, .ref a_lawFrom, .ref a_foes, .ref a_suitTable, .ref a_acts])), (xImages, .inl (cyH, 3, .inr (.inr (.inr (.inr iF))))), (xKept, .inl (cyZ, 3, .inl (fun _ => 0))), (a_first, .inl (cyI, 7, .inl (fun _ => 0))), (a_now, .inl (cyI, 7, .inl (fun _ => 0))), (a_lawPlace, .inl (cyI, 6, .inl (fun _ => 0))), (a_lawOther, .inl (cyI, 6, .inl (fun _ => 0))), (a_lawEach, .inl (cyI, 6, .inl (fun _ => 0))), (a_lawFrom, .inl (cyI, 6, .inl (fun _ => 0))), (a_foes, .inl (cyI, 7, .inl (fun _ => 0))), (a_suitTable, .inl (cyI, 49, .inl (fun _ => 0))), (a_acts, .inl (cyI, 40, .inl (fun _ => 0))), (i0, .inr (2, [.int 0, .int 0, .int 0, .int 0, .int 0, .int 0, .ref u_first, .ref u_now, .ref u_lawPlace, .ref u_lawOther, .ref u_lawEach, .ref u_lawFrom, .ref u_foes, .ref u_suitTable, .ref u_acts])), (u_first, .inl (cyI, 7, .inl (fun _ => 0))), (u_now, .inl (cyI, 7, .inl (fun _ => 0))), (u_lawPlace, .inl (cyI, 6, .inl (fun _ => 0))), (u_lawOther, .inl (cyI, 6, .inl (fun _ => 0))), (u_lawEach, .inl (cyI, 6, .inl (fun _ => 0))), (u_lawFrom, .inl (cyI, 6, .inl (fun _ => 0))), (u_foes, .inl (cyI, 7, .inl (fun _ => 0))), (u_suitTable, .inl (cyI, 49, .inl (fun _ => 0))), (u_acts, .inl (cyI, 40, .inl (fun _ => 0))), (i1, .inr (2, [.int 0, .int 0, .int 0, .int 0, .int 0, .int 0, .ref v_first, .ref v_now, .ref v_lawPlace, .ref v_lawOther, .ref v_lawEach, .ref v_lawFrom, .ref v_foes, .ref v_suitTable, .ref v_acts])), (v_first, .inl (cyI, 7, .inl (fun _ => 0))), (v_now, .inl (cyI, 7, .inl (fun _ => 0))), (v_lawPlace, .inl (cyI, 6, .inl (fun _ => 0))), (v_lawOther, .inl (cyI, 6, .inl (fun _ => 0))), (v_lawEach, .inl (cyI, 6, .inl (fun _ => 0))), (v_lawFrom, .inl (cyI, 6, .inl (fun _ => 0))), (v_foes, .inl (cyI, 7, .inl (fun _ => 0))), (v_suitTable, .inl (cyI, 49, .inl (fun _ => 0))), (v_acts, .inl (cyI, 40, .inl (fun _ => 0))), (i2, .inr (2, [.int 0, .int 0, .int 0, .int 0, .int 0, .int 0, .ref w_first, .ref w_now, .ref w_lawPlace, .ref w_lawOther, .ref w_lawEach, .ref w_lawFrom, .ref w_foes, .ref w_suitTable, .ref w_acts])), (w_first, .inl (cyI, 7, .inl (fun _ => 0))), (w_now, .inl (cyI, 7, .inl (fun _ => 0))), (w_lawPlace, .inl (cyI, 6, .inl (fun _ => 0))), (w_lawOther, .inl (cyI, 6, .inl (fun _ => 0))), (w_lawEach, .inl (cyI, 6, .inl (fun _ => 0))), (w_lawFrom, .inl (cyI, 6, .inl (fun _ => 0))), (w_foes, .inl (cyI, 7, .inl (fun _ => 0))), (w_suitTable, .inl (cyI, 49, .inl (fun _ => 0))), (w_acts, .inl (cyI, 40, .inl (fun _ => 0)))] sz) := by
  refine Met.ofW (cc := cX11_image) (maxL := 2) (ret := (some .int)) (by decide) rfl ?_
  intro p e s m args below meth c s₁ B hml hv
  obtain ⟨rfl, hsz, hP, hK, hD0⟩ := hv
  have hx := B.exec
  have hb := B.bytes
  have hr := B.returns
  have hts : ∀ w ∈ uU, w.before ([.ref x, .int p0] : List Value).toArray s = true := fun w h => atoms_spec (ws := wk yX11_image cX11_image 2 (some .int)) B.pre w (List.mem_cons_of_mem _ h)
  have hown : s.vm.findClass RX11 = some m.cls := findClass_of_methodNamed B.named
  have hlocks := B.notSynchronized
  subst hsz
  have hD := hD0.self (sz := s.heap.size)
  generalize hAe : va_A [(x, .inr (10, [.ref xTape, .ref xHall, .ref xDraft, .ref xImages, .ref xKept, .ref xSlots, .ref xCourse, .ref xSight, .ref xParting, .ref xSuiting, .ref xGame, .ref xLots, .ref xTold, .ref xTried, .null])), (xHall, .inr (2, [.int 0, .int 0, .int 0, .int 0, .int 0, .int 0, .ref a_first, .ref a_now, .ref a_lawPlace, .ref a_lawOther, .ref a_lawEach, .ref a_lawFrom, .ref a_foes, .ref a_suitTable, .ref a_acts])), (xImages, .inl (cyH, 3, .inr (.inr (.inr (.inr iF))))), (xKept, .inl (cyZ, 3, .inl (fun _ => 0))), (a_first, .inl (cyI, 7, .inl (fun _ => 0))), (a_now, .inl (cyI, 7, .inl (fun _ => 0))), (a_lawPlace, .inl (cyI, 6, .inl (fun _ => 0))), (a_lawOther, .inl (cyI, 6, .inl (fun _ => 0))), (a_lawEach, .inl (cyI, 6, .inl (fun _ => 0))), (a_lawFrom, .inl (cyI, 6, .inl (fun _ => 0))), (a_foes, .inl (cyI, 7, .inl (fun _ => 0))), (a_suitTable, .inl (cyI, 49, .inl (fun _ => 0))), (a_acts, .inl (cyI, 40, .inl (fun _ => 0))), (i0, .inr (2, [.int 0, .int 0, .int 0, .int 0, .int 0, .int 0, .ref u_first, .ref u_now, .ref u_lawPlace, .ref u_lawOther, .ref u_lawEach, .ref u_lawFrom, .ref u_foes, .ref u_suitTable, .ref u_acts])), (u_first, .inl (cyI, 7, .inl (fun _ => 0))), (u_now, .inl (cyI, 7, .inl (fun _ => 0))), (u_lawPlace, .inl (cyI, 6, .inl (fun _ => 0))), (u_lawOther, .inl (cyI, 6, .inl (fun _ => 0))), (u_lawEach, .inl (cyI, 6, .inl (fun _ => 0))), (u_lawFrom, .inl (cyI, 6, .inl (fun _ => 0))), (u_foes, .inl (cyI, 7, .inl (fun _ => 0))), (u_suitTable, .inl (cyI, 49, .inl (fun _ => 0))), (u_acts, .inl (cyI, 40, .inl (fun _ => 0))), (i1, .inr (2, [.int 0, .int 0, .int 0, .int 0, .int 0, .int 0, .ref v_first, .ref v_now, .ref v_lawPlace, .ref v_lawOther, .ref v_lawEach, .ref v_lawFrom, .ref v_foes, .ref v_suitTable, .ref v_acts])), (v_first, .inl (cyI, 7, .inl (fun _ => 0))), (v_now, .inl (cyI, 7, .inl (fun _ => 0))), (v_lawPlace, .inl (cyI, 6, .inl (fun _ => 0))), (v_lawOther, .inl (cyI, 6, .inl (fun _ => 0))), (v_lawEach, .inl (cyI, 6, .inl (fun _ => 0))), (v_lawFrom, .inl (cyI, 6, .inl (fun _ => 0))), (v_foes, .inl (cyI, 7, .inl (fun _ => 0))), (v_suitTable, .inl (cyI, 49, .inl (fun _ => 0))), (v_acts, .inl (cyI, 40, .inl (fun _ => 0))), (i2, .inr (2, [.int 0, .int 0, .int 0, .int 0, .int 0, .int 0, .ref w_first, .ref w_now, .ref w_lawPlace, .ref w_lawOther, .ref w_lawEach, .ref w_lawFrom, .ref w_foes, .ref w_suitTable, .ref w_acts])), (w_first, .inl (cyI, 7, .inl (fun _ => 0))), (w_now, .inl (cyI, 7, .inl (fun _ => 0))), (w_lawPlace, .inl (cyI, 6, .inl (fun _ => 0))), (w_lawOther, .inl (cyI, 6, .inl (fun _ => 0))), (w_lawEach, .inl (cyI, 6, .inl (fun _ => 0))), (w_lawFrom, .inl (cyI, 6, .inl (fun _ => 0))), (w_foes, .inl (cyI, 7, .inl (fun _ => 0))), (w_suitTable, .inl (cyI, 49, .inl (fun _ => 0))), (w_acts, .inl (cyI, 40, .inl (fun _ => 0)))] s.heap.size = A at hD ⊢
  have hA : ∀ q : Nat, s.heap.size ≤ q → A q := fun q h => by rw [← hAe]; exact Or.inr h
  have hS : va_S A s.heap s.heap [] := va_S.rf
  have hP : va_P (dC, dI) vwCl [(x, .inr (10, [.ref xTape, .ref xHall, .ref xDraft, .ref xImages, .ref xKept, .ref xSlots, .ref xCourse, .ref xSight, .ref xParting, .ref xSuiting, .ref xGame, .ref xLots, .ref xTold, .ref xTried, .null])), (xHall, .inr (2, [.int 0, .int 0, .int 0, .int 0, .int 0, .int 0, .ref a_first, .ref a_now, .ref a_lawPlace, .ref a_lawOther, .ref a_lawEach, .ref a_lawFrom, .ref a_foes, .ref a_suitTable, .ref a_acts])), (xImages, .inl (cyH, 3, .inr (.inr (.inr (.inr iF))))), (xKept, .inl (cyZ, 3, .inl (fun _ => 0))), (a_first, .inl (cyI, 7, .inl (fun _ => 0))), (a_now, .inl (cyI, 7, .inl (fun _ => 0))), (a_lawPlace, .inl (cyI, 6, .inl (fun _ => 0))), (a_lawOther, .inl (cyI, 6, .inl (fun _ => 0))), (a_lawEach, .inl (cyI, 6, .inl (fun _ => 0))), (a_lawFrom, .inl (cyI, 6, .inl (fun _ => 0))), (a_foes, .inl (cyI, 7, .inl (fun _ => 0))), (a_suitTable, .inl (cyI, 49, .inl (fun _ => 0))), (a_acts, .inl (cyI, 40, .inl (fun _ => 0))), (i0, .inr (2, [.int 0, .int 0, .int 0, .int 0, .int 0, .int 0, .ref u_first, .ref u_now, .ref u_lawPlace, .ref u_lawOther, .ref u_lawEach, .ref u_lawFrom, .ref u_foes, .ref u_suitTable, .ref u_acts])), (u_first, .inl (cyI, 7, .inl (fun _ => 0))), (u_now, .inl (cyI, 7, .inl (fun _ => 0))), (u_lawPlace, .inl (cyI, 6, .inl (fun _ => 0))), (u_lawOther, .inl (cyI, 6, .inl (fun _ => 0))), (u_lawEach, .inl (cyI, 6, .inl (fun _ => 0))), (u_lawFrom, .inl (cyI, 6, .inl (fun _ => 0))), (u_foes, .inl (cyI, 7, .inl (fun _ => 0))), (u_suitTable, .inl (cyI, 49, .inl (fun _ => 0))), (u_acts, .inl (cyI, 40, .inl (fun _ => 0))), (i1, .inr (2, [.int 0, .int 0, .int 0, .int 0, .int 0, .int 0, .ref v_first, .ref v_now, .ref v_lawPlace, .ref v_lawOther, .ref v_lawEach, .ref v_lawFrom, .ref v_foes, .ref v_suitTable, .ref v_acts])), (v_first, .inl (cyI, 7, .inl (fun _ => 0))), (v_now, .inl (cyI, 7, .inl (fun _ => 0))), (v_lawPlace, .inl (cyI, 6, .inl (fun _ => 0))), (v_lawOther, .inl (cyI, 6, .inl (fun _ => 0))), (v_lawEach, .inl (cyI, 6, .inl (fun _ => 0))), (v_lawFrom, .inl (cyI, 6, .inl (fun _ => 0))), (v_foes, .inl (cyI, 7, .inl (fun _ => 0))), (v_suitTable, .inl (cyI, 49, .inl (fun _ => 0))), (v_acts, .inl (cyI, 40, .inl (fun _ => 0))), (i2, .inr (2, [.int 0, .int 0, .int 0, .int 0, .int 0, .int 0, .ref w_first, .ref w_now, .ref w_lawPlace, .ref w_lawOther, .ref w_lawEach, .ref w_lawFrom, .ref w_foes, .ref w_suitTable, .ref w_acts])), (w_first, .inl (cyI, 7, .inl (fun _ => 0))), (w_now, .inl (cyI, 7, .inl (fun _ => 0))), (w_lawPlace, .inl (cyI, 6, .inl (fun _ => 0))), (w_lawOther, .inl (cyI, 6, .inl (fun _ => 0))), (w_lawEach, .inl (cyI, 6, .inl (fun _ => 0))), (w_lawFrom, .inl (cyI, 6, .inl (fun _ => 0))), (w_foes, .inl (cyI, 7, .inl (fun _ => 0))), (w_suitTable, .inl (cyI, 49, .inl (fun _ => 0))), (w_acts, .inl (cyI, 40, .inl (fun _ => 0)))] s.heap := hP
  have hl := lv_entry ([.ref x, .int p0]) (n := 2) (Nat.le_of_ble_eq_true rfl)
  rw [lg_entry_eq]
  generalize (lg_sl ([.ref x, .int p0]) ++ List.replicate (2 - (lg_sl ([.ref x, .int p0])).length) Slot.unset).toArray = ls at hl ⊢
  have hl : lv_has ls 2 [(0, .ref x), (1, .int p0)] := hl
  obtain ⟨H, hHe⟩ : ∃ H, H = s.heap := ⟨_, rfl⟩
  have hP : va_P (dC, dI) vwCl [(x, .inr (10, [.ref xTape, .ref xHall, .ref xDraft, .ref xImages, .ref xKept, .ref xSlots, .ref xCourse, .ref xSight, .ref xParting, .ref xSuiting, .ref xGame, .ref xLots, .ref xTold, .ref xTried, .null])), (xHall, .inr (2, [.int 0, .int 0, .int 0, .int 0, .int 0, .int 0, .ref a_first, .ref a_now, .ref a_lawPlace, .ref a_lawOther, .ref a_lawEach, .ref a_lawFrom, .ref a_foes, .ref a_suitTable, .ref a_acts])), (xImages, .inl (cyH, 3, .inr (.inr (.inr (.inr iF))))), (xKept, .inl (cyZ, 3, .inl (fun _ => 0))), (a_first, .inl (cyI, 7, .inl (fun _ => 0))), (a_now, .inl (cyI, 7, .inl (fun _ => 0))), (a_lawPlace, .inl (cyI, 6, .inl (fun _ => 0))), (a_lawOther, .inl (cyI, 6, .inl (fun _ => 0))), (a_lawEach, .inl (cyI, 6, .inl (fun _ => 0))), (a_lawFrom, .inl (cyI, 6, .inl (fun _ => 0))), (a_foes, .inl (cyI, 7, .inl (fun _ => 0))), (a_suitTable, .inl (cyI, 49, .inl (fun _ => 0))), (a_acts, .inl (cyI, 40, .inl (fun _ => 0))), (i0, .inr (2, [.int 0, .int 0, .int 0, .int 0, .int 0, .int 0, .ref u_first, .ref u_now, .ref u_lawPlace, .ref u_lawOther, .ref u_lawEach, .ref u_lawFrom, .ref u_foes, .ref u_suitTable, .ref u_acts])), (u_first, .inl (cyI, 7, .inl (fun _ => 0))), (u_now, .inl (cyI, 7, .inl (fun _ => 0))), (u_lawPlace, .inl (cyI, 6, .inl (fun _ => 0))), (u_lawOther, .inl (cyI, 6, .inl (fun _ => 0))), (u_lawEach, .inl (cyI, 6, .inl (fun _ => 0))), (u_lawFrom, .inl (cyI, 6, .inl (fun _ => 0))), (u_foes, .inl (cyI, 7, .inl (fun _ => 0))), (u_suitTable, .inl (cyI, 49, .inl (fun _ => 0))), (u_acts, .inl (cyI, 40, .inl (fun _ => 0))), (i1, .inr (2, [.int 0, .int 0, .int 0, .int 0, .int 0, .int 0, .ref v_first, .ref v_now, .ref v_lawPlace, .ref v_lawOther, .ref v_lawEach, .ref v_lawFrom, .ref v_foes, .ref v_suitTable, .ref v_acts])), (v_first, .inl (cyI, 7, .inl (fun _ => 0))), (v_now, .inl (cyI, 7, .inl (fun _ => 0))), (v_lawPlace, .inl (cyI, 6, .inl (fun _ => 0))), (v_lawOther, .inl (cyI, 6, .inl (fun _ => 0))), (v_lawEach, .inl (cyI, 6, .inl (fun _ => 0))), (v_lawFrom, .inl (cyI, 6, .inl (fun _ => 0))), (v_foes, .inl (cyI, 7, .inl (fun _ => 0))), (v_suitTable, .inl (cyI, 49, .inl (fun _ => 0))), (v_acts, .inl (cyI, 40, .inl (fun _ => 0))), (i2, .inr (2, [.int 0, .int 0, .int 0, .int 0, .int 0, .int 0, .ref w_first, .ref w_now, .ref w_lawPlace, .ref w_lawOther, .ref w_lawEach, .ref w_lawFrom, .ref w_foes, .ref w_suitTable, .ref w_acts])), (w_first, .inl (cyI, 7, .inl (fun _ => 0))), (w_now, .inl (cyI, 7, .inl (fun _ => 0))), (w_lawPlace, .inl (cyI, 6, .inl (fun _ => 0))), (w_lawOther, .inl (cyI, 6, .inl (fun _ => 0))), (w_lawEach, .inl (cyI, 6, .inl (fun _ => 0))), (w_lawFrom, .inl (cyI, 6, .inl (fun _ => 0))), (w_foes, .inl (cyI, 7, .inl (fun _ => 0))), (w_suitTable, .inl (cyI, 49, .inl (fun _ => 0))), (w_acts, .inl (cyI, 40, .inl (fun _ => 0)))] H := by rw [hHe]; exact hP
  have hS : va_S A s.heap H [] := by rw [hHe]; exact hS
  refine cv_heap hHe ?_
  refine lv_iload_n hx hb dX11_image_0 rfl (lv_at hl 1 rfl) ?_
  refine lv_iconst (v := 0) hx hb dX11_image_1 (by decide) ?_
  refine lv_iconst (v := 2) hx hb dX11_image_2 (by decide) ?_
  refine vp_callSi (va_Run.run (va_runS (As := [.int p0, .int 0, .int 2]) (rest := []) ⟨hx, hb, hml, hown, hts⟩ (c_within l dC dI cyI cyB cyJ cyZ cyH cyN p0 0 2) (va_cwS 3 hts (gdS wd_3_88 wd_3_89 wd_1_1 wd_3_90) rfl rfl rfl (by decide +kernel) ⟨Nat.le_of_ble_eq_true rfl, Nat.le_of_ble_eq_true rfl⟩) ⟨fun a U g mk q => q, fun U hU hW => ⟨rfl, trivial⟩⟩ rfl rfl hl.1 rfl (lv_room (Nat.le_of_ble_eq_true rfl)) dX11_image_3 ⟨Nat.le_of_ble_eq_true rfl, Nat.le_of_ble_eq_true rfl⟩)) (fun r_1 hw => ?_)
  by_cases c_2 : ((0 : Int32).toInt ≤ p0.toInt ∧ p0.toInt ≤ (2 : Int32).toInt)
  · rw [if_pos c_2] at hw; subst hw; have c_2 : (0 ≤ p0.toInt ∧ p0.toInt ≤ 2) := c_2
    refine lv_if_ne (tgt := 12) hx hb dX11_image_6 (by decide) (fun _ => ?_) (fun c_3 => absurd c_3 (by decide))
    refine lv_aload_n hx hb dX11_image_12 rfl (lv_at hl 0 rfl) ?_
    refine va_get (D := (dC, dI)) (ci := 10) (v := .ref xImages) (C := RX11) (T := TX11) (N := 15) hx hb hts uinX11 hown hK hP 0 rfl rfl 3 (by decide) (hts _ wd_2_68) (fun _ h9 => h9) rfl dX11_image_13 ?_
    refine lv_iload_n hx hb dX11_image_16 rfl (lv_at hl 1 rfl) ?_
    rcases (show p0.toInt = 0 ∨ p0.toInt = 1 ∨ p0.toInt = 2 by omega) with c_4 | c_4 | c_4
    · obtain rfl : p0 = 0 := Int32.toInt_inj.mp c_4
      refine va_aldq hx hb hK hP 2 4 rfl rfl (vp_in_iff.mpr (by decide)) dX11_image_17 ?_
      refine cv_topr (b := .ref i0) (by rw [show (0 : Int32).toNatClampNeg = 0 from rfl, g0]; rfl) ?_
      refine lv_aload_n hx hb dX11_image_18 rfl (lv_at hl 0 rfl) ?_
      refine va_get (D := (dC, dI)) (ci := 10) (v := .ref xHall) (C := RX11) (T := TX11) (N := 15) hx hb hts uinX11 hown hK hP 0 rfl rfl 1 (by decide) (hts _ wd_2_66) (fun _ h9 => h9) rfl dX11_image_19 ?_
      have hPc := hP.sub (ws' := [(i0, .inr (2, [.int 0, .int 0, .int 0, .int 0, .int 0, .int 0, .ref u_first, .ref u_now, .ref u_lawPlace, .ref u_lawOther, .ref u_lawEach, .ref u_lawFrom, .ref u_foes, .ref u_suitTable, .ref u_acts])), (xHall, .inr (2, [.int 0, .int 0, .int 0, .int 0, .int 0, .int 0, .ref a_first, .ref a_now, .ref a_lawPlace, .ref a_lawOther, .ref a_lawEach, .ref a_lawFrom, .ref a_foes, .ref a_suitTable, .ref a_acts])), (u_first, .inl (cyI, 7, .inl (fun _ => 0))), (u_now, .inl (cyI, 7, .inl (fun _ => 0))), (u_lawPlace, .inl (cyI, 6, .inl (fun _ => 0))), (u_lawOther, .inl (cyI, 6, .inl (fun _ => 0))), (u_lawEach, .inl (cyI, 6, .inl (fun _ => 0))), (u_lawFrom, .inl (cyI, 6, .inl (fun _ => 0))), (u_foes, .inl (cyI, 7, .inl (fun _ => 0))), (u_suitTable, .inl (cyI, 49, .inl (fun _ => 0))), (u_acts, .inl (cyI, 40, .inl (fun _ => 0))), (a_first, .inl (cyI, 7, .inl (fun _ => 0))), (a_now, .inl (cyI, 7, .inl (fun _ => 0))), (a_lawPlace, .inl (cyI, 6, .inl (fun _ => 0))), (a_lawOther, .inl (cyI, 6, .inl (fun _ => 0))), (a_lawEach, .inl (cyI, 6, .inl (fun _ => 0))), (a_lawFrom, .inl (cyI, 6, .inl (fun _ => 0))), (a_foes, .inl (cyI, 7, .inl (fun _ => 0))), (a_suitTable, .inl (cyI, 49, .inl (fun _ => 0))), (a_acts, .inl (cyI, 40, .inl (fun _ => 0)))]) [13, 1, 14, 15, 16, 17, 18, 19, 20, 21, 22, 4, 5, 6, 7, 8, 9, 10, 11, 12] rfl
      have hKc := hK.sub (tys' := [(cyI, .int), (cyB, .byte), (cyJ, .long), (cyZ, .boolean), (cyH, .object RX2), (cyN, .array .long)]) [0, 1, 2, 3, 4, 5] rfl
      have hDc := hD.sub (ws' := [(i0, .inr (2, [.int 0, .int 0, .int 0, .int 0, .int 0, .int 0, .ref u_first, .ref u_now, .ref u_lawPlace, .ref u_lawOther, .ref u_lawEach, .ref u_lawFrom, .ref u_foes, .ref u_suitTable, .ref u_acts])), (xHall, .inr (2, [.int 0, .int 0, .int 0, .int 0, .int 0, .int 0, .ref a_first, .ref a_now, .ref a_lawPlace, .ref a_lawOther, .ref a_lawEach, .ref a_lawFrom, .ref a_foes, .ref a_suitTable, .ref a_acts])), (u_first, .inl (cyI, 7, .inl (fun _ => 0))), (u_now, .inl (cyI, 7, .inl (fun _ => 0))), (u_lawPlace, .inl (cyI, 6, .inl (fun _ => 0))), (u_lawOther, .inl (cyI, 6, .inl (fun _ => 0))), (u_lawEach, .inl (cyI, 6, .inl (fun _ => 0))), (u_lawFrom, .inl (cyI, 6, .inl (fun _ => 0))), (u_foes, .inl (cyI, 7, .inl (fun _ => 0))), (u_suitTable, .inl (cyI, 49, .inl (fun _ => 0))), (u_acts, .inl (cyI, 40, .inl (fun _ => 0))), (a_first, .inl (cyI, 7, .inl (fun _ => 0))), (a_now, .inl (cyI, 7, .inl (fun _ => 0))), (a_lawPlace, .inl (cyI, 6, .inl (fun _ => 0))), (a_lawOther, .inl (cyI, 6, .inl (fun _ => 0))), (a_lawEach, .inl (cyI, 6, .inl (fun _ => 0))), (a_lawFrom, .inl (cyI, 6, .inl (fun _ => 0))), (a_foes, .inl (cyI, 7, .inl (fun _ => 0))), (a_suitTable, .inl (cyI, 49, .inl (fun _ => 0))), (a_acts, .inl (cyI, 40, .inl (fun _ => 0)))]) [13, 1, 14, 15, 16, 17, 18, 19, 20, 21, 22, 4, 5, 6, 7, 8, 9, 10, 11, 12] (by decide) rfl
      have hFc := va_free (wc := [(i0, .inr (2, [.int 0, .int 0, .int 0, .int 0, .int 0, .int 0, .ref u_first, .ref u_now, .ref u_lawPlace, .ref u_lawOther, .ref u_lawEach, .ref u_lawFrom, .ref u_foes, .ref u_suitTable, .ref u_acts])), (xHall, .inr (2, [.int 0, .int 0, .int 0, .int 0, .int 0, .int 0, .ref a_first, .ref a_now, .ref a_lawPlace, .ref a_lawOther, .ref a_lawEach, .ref a_lawFrom, .ref a_foes, .ref a_suitTable, .ref a_acts])), (u_first, .inl (cyI, 7, .inl (fun _ => 0))), (u_now, .inl (cyI, 7, .inl (fun _ => 0))), (u_lawPlace, .inl (cyI, 6, .inl (fun _ => 0))), (u_lawOther, .inl (cyI, 6, .inl (fun _ => 0))), (u_lawEach, .inl (cyI, 6, .inl (fun _ => 0))), (u_lawFrom, .inl (cyI, 6, .inl (fun _ => 0))), (u_foes, .inl (cyI, 7, .inl (fun _ => 0))), (u_suitTable, .inl (cyI, 49, .inl (fun _ => 0))), (u_acts, .inl (cyI, 40, .inl (fun _ => 0))), (a_first, .inl (cyI, 7, .inl (fun _ => 0))), (a_now, .inl (cyI, 7, .inl (fun _ => 0))), (a_lawPlace, .inl (cyI, 6, .inl (fun _ => 0))), (a_lawOther, .inl (cyI, 6, .inl (fun _ => 0))), (a_lawEach, .inl (cyI, 6, .inl (fun _ => 0))), (a_lawFrom, .inl (cyI, 6, .inl (fun _ => 0))), (a_foes, .inl (cyI, 7, .inl (fun _ => 0))), (a_suitTable, .inl (cyI, 49, .inl (fun _ => 0))), (a_acts, .inl (cyI, 40, .inl (fun _ => 0)))]) hD hS hA [13, 1, 14, 15, 16, 17, 18, 19, 20, 21, 22, 4, 5, 6, 7, 8, 9, 10, 11, 12] rfl
      refine va_callv (va_runV (As := [.ref xHall]) (rest := []) ⟨hx, hb, hml, hown, hts⟩ (c_become l dC dI cyI cyB cyJ cyZ cyH cyN H.size i0 u_first u_now u_lawPlace u_lawOther u_lawEach u_lawFrom u_foes u_suitTable u_acts xHall a_first a_now a_lawPlace a_lawOther a_lawEach a_lawFrom a_foes a_suitTable a_acts 0 0 0 0 0 0 0 0 0 0 0 0 (fun _ => 0) (fun _ => 0) (fun _ => 0) (fun _ => 0) (fun _ => 0) (fun _ => 0) (fun _ => 0) (fun _ => 0) (fun _ => 0) (fun _ => 0) (fun _ => 0) (fun _ => 0) (fun _ => 0) (fun _ => 0) (fun _ => 0) (fun _ => 0) (fun _ => 0) (fun _ => 0)) (cwV 1 hts (gdV wd_3_37 wd_3_38 wd_3_39 wd_1_3 wd_3_40) rfl rfl rfl (by decide +kernel) ⟨Nat.le_of_ble_eq_true rfl, Nat.le_of_ble_eq_true rfl⟩) ⟨fun a U g mk q => by obtain ⟨q0, q1, qP, qK, qD⟩ := q; exact ⟨q0, q1, qP, va_K.moved (u := U) (U := U.calling g mk a) (Vm.Alike.refl U.vm) qK, qD⟩, va_recv hKc hPc (ci := 2) (q0 := 0) rfl rfl, fun U hU hW => ⟨rfl, by rw [hU], by rw [hU]; exact hPc, va_K.moved hW.alike hKc, hDc.weaken (fun _ _ _ _ => trivial)⟩⟩ rfl rfl hl.1 rfl (lv_room (Nat.le_of_ble_eq_true rfl)) dX11_image_22 ⟨Nat.le_of_ble_eq_true rfl, Nat.le_of_ble_eq_true rfl⟩) hS (fun q _ h => hFc q h) hFc (fun  u t H1 locs ht hvm hw hB hz1 hk1 hS => ?_)
      obtain ⟨hP1, hD1⟩ := hB
      rw [ht] at hP1
      obtain ⟨hP, hD⟩ := va_join (wr := [(x, .inr (10, [.ref xTape, .ref xHall, .ref xDraft, .ref xImages, .ref xKept, .ref xSlots, .ref xCourse, .ref xSight, .ref xParting, .ref xSuiting, .ref xGame, .ref xLots, .ref xTold, .ref xTried, .null])), (xImages, .inl (cyH, 3, .inr (.inr (.inr (.inr iF))))), (xKept, .inl (cyZ, 3, .inl (fun _ => 0))), (i1, .inr (2, [.int 0, .int 0, .int 0, .int 0, .int 0, .int 0, .ref v_first, .ref v_now, .ref v_lawPlace, .ref v_lawOther, .ref v_lawEach, .ref v_lawFrom, .ref v_foes, .ref v_suitTable, .ref v_acts])), (v_first, .inl (cyI, 7, .inl (fun _ => 0))), (v_now, .inl (cyI, 7, .inl (fun _ => 0))), (v_lawPlace, .inl (cyI, 6, .inl (fun _ => 0))), (v_lawOther, .inl (cyI, 6, .inl (fun _ => 0))), (v_lawEach, .inl (cyI, 6, .inl (fun _ => 0))), (v_lawFrom, .inl (cyI, 6, .inl (fun _ => 0))), (v_foes, .inl (cyI, 7, .inl (fun _ => 0))), (v_suitTable, .inl (cyI, 49, .inl (fun _ => 0))), (v_acts, .inl (cyI, 40, .inl (fun _ => 0))), (i2, .inr (2, [.int 0, .int 0, .int 0, .int 0, .int 0, .int 0, .ref w_first, .ref w_now, .ref w_lawPlace, .ref w_lawOther, .ref w_lawEach, .ref w_lawFrom, .ref w_foes, .ref w_suitTable, .ref w_acts])), (w_first, .inl (cyI, 7, .inl (fun _ => 0))), (w_now, .inl (cyI, 7, .inl (fun _ => 0))), (w_lawPlace, .inl (cyI, 6, .inl (fun _ => 0))), (w_lawOther, .inl (cyI, 6, .inl (fun _ => 0))), (w_lawEach, .inl (cyI, 6, .inl (fun _ => 0))), (w_lawFrom, .inl (cyI, 6, .inl (fun _ => 0))), (w_foes, .inl (cyI, 7, .inl (fun _ => 0))), (w_suitTable, .inl (cyI, 49, .inl (fun _ => 0))), (w_acts, .inl (cyI, 40, .inl (fun _ => 0)))]) (w1 := [(i0, .inr (2, [.int 0, .int 0, .int 0, .int 0, .int 0, .int 0, .ref u_first, .ref u_now, .ref u_lawPlace, .ref u_lawOther, .ref u_lawEach, .ref u_lawFrom, .ref u_foes, .ref u_suitTable, .ref u_acts]))]) hP hD [13, 1, 14, 15, 16, 17, 18, 19, 20, 21, 22, 4, 5, 6, 7, 8, 9, 10, 11, 12] [0, 2, 3, 23, 24, 25, 26, 27, 28, 29, 30, 31, 32, 33, 34, 35, 36, 37, 38, 39, 40, 41, 42] rfl rfl (by decide) (by decide) hk1 hFc hP1 hD1
      generalize H1 = H at hP hS ⊢
      have hP : va_P (dC, dI) vwCl [(x, .inr (10, [.ref xTape, .ref xHall, .ref xDraft, .ref xImages, .ref xKept, .ref xSlots, .ref xCourse, .ref xSight, .ref xParting, .ref xSuiting, .ref xGame, .ref xLots, .ref xTold, .ref xTried, .null])), (xImages, .inl (cyH, 3, .inr (.inr (.inr (.inr iF))))), (xKept, .inl (cyZ, 3, .inl (fun _ => 0))), (i1, .inr (2, [.int 0, .int 0, .int 0, .int 0, .int 0, .int 0, .ref v_first, .ref v_now, .ref v_lawPlace, .ref v_lawOther, .ref v_lawEach, .ref v_lawFrom, .ref v_foes, .ref v_suitTable, .ref v_acts])), (v_first, .inl (cyI, 7, .inl (fun _ => 0))), (v_now, .inl (cyI, 7, .inl (fun _ => 0))), (v_lawPlace, .inl (cyI, 6, .inl (fun _ => 0))), (v_lawOther, .inl (cyI, 6, .inl (fun _ => 0))), (v_lawEach, .inl (cyI, 6, .inl (fun _ => 0))), (v_lawFrom, .inl (cyI, 6, .inl (fun _ => 0))), (v_foes, .inl (cyI, 7, .inl (fun _ => 0))), (v_suitTable, .inl (cyI, 49, .inl (fun _ => 0))), (v_acts, .inl (cyI, 40, .inl (fun _ => 0))), (i2, .inr (2, [.int 0, .int 0, .int 0, .int 0, .int 0, .int 0, .ref w_first, .ref w_now, .ref w_lawPlace, .ref w_lawOther, .ref w_lawEach, .ref w_lawFrom, .ref w_foes, .ref w_suitTable, .ref w_acts])), (w_first, .inl (cyI, 7, .inl (fun _ => 0))), (w_now, .inl (cyI, 7, .inl (fun _ => 0))), (w_lawPlace, .inl (cyI, 6, .inl (fun _ => 0))), (w_lawOther, .inl (cyI, 6, .inl (fun _ => 0))), (w_lawEach, .inl (cyI, 6, .inl (fun _ => 0))), (w_lawFrom, .inl (cyI, 6, .inl (fun _ => 0))), (w_foes, .inl (cyI, 7, .inl (fun _ => 0))), (w_suitTable, .inl (cyI, 49, .inl (fun _ => 0))), (w_acts, .inl (cyI, 40, .inl (fun _ => 0))), (i0, .inr (2, [.int 0, .int 0, .int 0, .int 0, .int 0, .int 0, .ref u_first, .ref u_now, .ref u_lawPlace, .ref u_lawOther, .ref u_lawEach, .ref u_lawFrom, .ref u_foes, .ref u_suitTable, .ref u_acts]))] H := hP
      have hD : va_D A [(x, .inr (10, [.ref xTape, .ref xHall, .ref xDraft, .ref xImages, .ref xKept, .ref xSlots, .ref xCourse, .ref xSight, .ref xParting, .ref xSuiting, .ref xGame, .ref xLots, .ref xTold, .ref xTried, .null])), (xImages, .inl (cyH, 3, .inr (.inr (.inr (.inr iF))))), (xKept, .inl (cyZ, 3, .inl (fun _ => 0))), (i1, .inr (2, [.int 0, .int 0, .int 0, .int 0, .int 0, .int 0, .ref v_first, .ref v_now, .ref v_lawPlace, .ref v_lawOther, .ref v_lawEach, .ref v_lawFrom, .ref v_foes, .ref v_suitTable, .ref v_acts])), (v_first, .inl (cyI, 7, .inl (fun _ => 0))), (v_now, .inl (cyI, 7, .inl (fun _ => 0))), (v_lawPlace, .inl (cyI, 6, .inl (fun _ => 0))), (v_lawOther, .inl (cyI, 6, .inl (fun _ => 0))), (v_lawEach, .inl (cyI, 6, .inl (fun _ => 0))), (v_lawFrom, .inl (cyI, 6, .inl (fun _ => 0))), (v_foes, .inl (cyI, 7, .inl (fun _ => 0))), (v_suitTable, .inl (cyI, 49, .inl (fun _ => 0))), (v_acts, .inl (cyI, 40, .inl (fun _ => 0))), (i2, .inr (2, [.int 0, .int 0, .int 0, .int 0, .int 0, .int 0, .ref w_first, .ref w_now, .ref w_lawPlace, .ref w_lawOther, .ref w_lawEach, .ref w_lawFrom, .ref w_foes, .ref w_suitTable, .ref w_acts])), (w_first, .inl (cyI, 7, .inl (fun _ => 0))), (w_now, .inl (cyI, 7, .inl (fun _ => 0))), (w_lawPlace, .inl (cyI, 6, .inl (fun _ => 0))), (w_lawOther, .inl (cyI, 6, .inl (fun _ => 0))), (w_lawEach, .inl (cyI, 6, .inl (fun _ => 0))), (w_lawFrom, .inl (cyI, 6, .inl (fun _ => 0))), (w_foes, .inl (cyI, 7, .inl (fun _ => 0))), (w_suitTable, .inl (cyI, 49, .inl (fun _ => 0))), (w_acts, .inl (cyI, 40, .inl (fun _ => 0))), (i0, .inr (2, [.int 0, .int 0, .int 0, .int 0, .int 0, .int 0, .ref u_first, .ref u_now, .ref u_lawPlace, .ref u_lawOther, .ref u_lawEach, .ref u_lawFrom, .ref u_foes, .ref u_suitTable, .ref u_acts]))] := hD
      refine lv_aload_n hx hb dX11_image_25 rfl (lv_at hl 0 rfl) ?_
      refine va_get (D := (dC, dI)) (ci := 10) (v := .ref xKept) (C := RX11) (T := TX11) (N := 15) hx hb hts uinX11 hown hK hP 0 rfl rfl 4 (by decide) (hts _ wd_2_69) (fun _ h9 => h9) rfl dX11_image_26 ?_
      refine lv_iload_n hx hb dX11_image_29 rfl (lv_at hl 1 rfl) ?_
      refine lv_iconst (v := 1) hx hb dX11_image_30 (by decide) ?_
      refine va_zast hx hb hK hP hD hS 2 3 rfl rfl (vp_in_iff.mpr (by decide)) dX11_image_31 (fun H locs hP hD hS => ?_)
      obtain ⟨f_5, ef_5⟩ : ∃ z9 : Nat → Int32, z9 = upd (fun _ => 0) (0 : Int32).toNatClampNeg (vp_nar .boolean 1) := ⟨_, rfl⟩
      rw [← ef_5] at hP hD
      have hP : va_P (dC, dI) vwCl [(x, .inr (10, [.ref xTape, .ref xHall, .ref xDraft, .ref xImages, .ref xKept, .ref xSlots, .ref xCourse, .ref xSight, .ref xParting, .ref xSuiting, .ref xGame, .ref xLots, .ref xTold, .ref xTried, .null])), (xImages, .inl (cyH, 3, .inr (.inr (.inr (.inr iF))))), (xKept, .inl (cyZ, 3, .inl f_5)), (i1, .inr (2, [.int 0, .int 0, .int 0, .int 0, .int 0, .int 0, .ref v_first, .ref v_now, .ref v_lawPlace, .ref v_lawOther, .ref v_lawEach, .ref v_lawFrom, .ref v_foes, .ref v_suitTable, .ref v_acts])), (v_first, .inl (cyI, 7, .inl (fun _ => 0))), (v_now, .inl (cyI, 7, .inl (fun _ => 0))), (v_lawPlace, .inl (cyI, 6, .inl (fun _ => 0))), (v_lawOther, .inl (cyI, 6, .inl (fun _ => 0))), (v_lawEach, .inl (cyI, 6, .inl (fun _ => 0))), (v_lawFrom, .inl (cyI, 6, .inl (fun _ => 0))), (v_foes, .inl (cyI, 7, .inl (fun _ => 0))), (v_suitTable, .inl (cyI, 49, .inl (fun _ => 0))), (v_acts, .inl (cyI, 40, .inl (fun _ => 0))), (i2, .inr (2, [.int 0, .int 0, .int 0, .int 0, .int 0, .int 0, .ref w_first, .ref w_now, .ref w_lawPlace, .ref w_lawOther, .ref w_lawEach, .ref w_lawFrom, .ref w_foes, .ref w_suitTable, .ref w_acts])), (w_first, .inl (cyI, 7, .inl (fun _ => 0))), (w_now, .inl (cyI, 7, .inl (fun _ => 0))), (w_lawPlace, .inl (cyI, 6, .inl (fun _ => 0))), (w_lawOther, .inl (cyI, 6, .inl (fun _ => 0))), (w_lawEach, .inl (cyI, 6, .inl (fun _ => 0))), (w_lawFrom, .inl (cyI, 6, .inl (fun _ => 0))), (w_foes, .inl (cyI, 7, .inl (fun _ => 0))), (w_suitTable, .inl (cyI, 49, .inl (fun _ => 0))), (w_acts, .inl (cyI, 40, .inl (fun _ => 0))), (i0, .inr (2, [.int 0, .int 0, .int 0, .int 0, .int 0, .int 0, .ref u_first, .ref u_now, .ref u_lawPlace, .ref u_lawOther, .ref u_lawEach, .ref u_lawFrom, .ref u_foes, .ref u_suitTable, .ref u_acts]))] H := hP
      have hD : va_D A [(x, .inr (10, [.ref xTape, .ref xHall, .ref xDraft, .ref xImages, .ref xKept, .ref xSlots, .ref xCourse, .ref xSight, .ref xParting, .ref xSuiting, .ref xGame, .ref xLots, .ref xTold, .ref xTried, .null])), (xImages, .inl (cyH, 3, .inr (.inr (.inr (.inr iF))))), (xKept, .inl (cyZ, 3, .inl f_5)), (i1, .inr (2, [.int 0, .int 0, .int 0, .int 0, .int 0, .int 0, .ref v_first, .ref v_now, .ref v_lawPlace, .ref v_lawOther, .ref v_lawEach, .ref v_lawFrom, .ref v_foes, .ref v_suitTable, .ref v_acts])), (v_first, .inl (cyI, 7, .inl (fun _ => 0))), (v_now, .inl (cyI, 7, .inl (fun _ => 0))), (v_lawPlace, .inl (cyI, 6, .inl (fun _ => 0))), (v_lawOther, .inl (cyI, 6, .inl (fun _ => 0))), (v_lawEach, .inl (cyI, 6, .inl (fun _ => 0))), (v_lawFrom, .inl (cyI, 6, .inl (fun _ => 0))), (v_foes, .inl (cyI, 7, .inl (fun _ => 0))), (v_suitTable, .inl (cyI, 49, .inl (fun _ => 0))), (v_acts, .inl (cyI, 40, .inl (fun _ => 0))), (i2, .inr (2, [.int 0, .int 0, .int 0, .int 0, .int 0, .int 0, .ref w_first, .ref w_now, .ref w_lawPlace, .ref w_lawOther, .ref w_lawEach, .ref w_lawFrom, .ref w_foes, .ref w_suitTable, .ref w_acts])), (w_first, .inl (cyI, 7, .inl (fun _ => 0))), (w_now, .inl (cyI, 7, .inl (fun _ => 0))), (w_lawPlace, .inl (cyI, 6, .inl (fun _ => 0))), (w_lawOther, .inl (cyI, 6, .inl (fun _ => 0))), (w_lawEach, .inl (cyI, 6, .inl (fun _ => 0))), (w_lawFrom, .inl (cyI, 6, .inl (fun _ => 0))), (w_foes, .inl (cyI, 7, .inl (fun _ => 0))), (w_suitTable, .inl (cyI, 49, .inl (fun _ => 0))), (w_acts, .inl (cyI, 40, .inl (fun _ => 0))), (i0, .inr (2, [.int 0, .int 0, .int 0, .int 0, .int 0, .int 0, .ref u_first, .ref u_now, .ref u_lawPlace, .ref u_lawOther, .ref u_lawEach, .ref u_lawFrom, .ref u_foes, .ref u_suitTable, .ref u_acts]))] := hD
      refine lv_iconst (v := 0) hx hb dX11_image_32 (by decide) ?_
      exact W.iret (v := 0) hx hb hr (fun t ht hW => ⟨⟨0, (), rfl, (by first | (rw [if_pos (by omega)]; done) | (rw [if_neg (by omega)]; done) | (rw [if_neg (by omega), if_pos (by omega)]; done) | (rw [if_neg (by omega), if_neg (by omega)]; done)), trivial⟩, hS.F ht⟩) hS.2.2 dX11_image_33
    · obtain rfl : p0 = 1 := Int32.toInt_inj.mp c_4
      refine va_aldq hx hb hK hP 2 4 rfl rfl (vp_in_iff.mpr (by decide)) dX11_image_17 ?_
      refine cv_topr (b := .ref i1) (by rw [show (1 : Int32).toNatClampNeg = 1 from rfl, g1]; rfl) ?_
      refine lv_aload_n hx hb dX11_image_18 rfl (lv_at hl 0 rfl) ?_
      refine va_get (D := (dC, dI)) (ci := 10) (v := .ref xHall) (C := RX11) (T := TX11) (N := 15) hx hb hts uinX11 hown hK hP 0 rfl rfl 1 (by decide) (hts _ wd_2_66) (fun _ h9 => h9) rfl dX11_image_19 ?_
      have hPc := hP.sub (ws' := [(i1, .inr (2, [.int 0, .int 0, .int 0, .int 0, .int 0, .int 0, .ref v_first, .ref v_now, .ref v_lawPlace, .ref v_lawOther, .ref v_lawEach, .ref v_lawFrom, .ref v_foes, .ref v_suitTable, .ref v_acts])), (xHall, .inr (2, [.int 0, .int 0, .int 0, .int 0, .int 0, .int 0, .ref a_first, .ref a_now, .ref a_lawPlace, .ref a_lawOther, .ref a_lawEach, .ref a_lawFrom, .ref a_foes, .ref a_suitTable, .ref a_acts])), (v_first, .inl (cyI, 7, .inl (fun _ => 0))), (v_now, .inl (cyI, 7, .inl (fun _ => 0))), (v_lawPlace, .inl (cyI, 6, .inl (fun _ => 0))), (v_lawOther, .inl (cyI, 6, .inl (fun _ => 0))), (v_lawEach, .inl (cyI, 6, .inl (fun _ => 0))), (v_lawFrom, .inl (cyI, 6, .inl (fun _ => 0))), (v_foes, .inl (cyI, 7, .inl (fun _ => 0))), (v_suitTable, .inl (cyI, 49, .inl (fun _ => 0))), (v_acts, .inl (cyI, 40, .inl (fun _ => 0))), (a_first, .inl (cyI, 7, .inl (fun _ => 0))), (a_now, .inl (cyI, 7, .inl (fun _ => 0))), (a_lawPlace, .inl (cyI, 6, .inl (fun _ => 0))), (a_lawOther, .inl (cyI, 6, .inl (fun _ => 0))), (a_lawEach, .inl (cyI, 6, .inl (fun _ => 0))), (a_lawFrom, .inl (cyI, 6, .inl (fun _ => 0))), (a_foes, .inl (cyI, 7, .inl (fun _ => 0))), (a_suitTable, .inl (cyI, 49, .inl (fun _ => 0))), (a_acts, .inl (cyI, 40, .inl (fun _ => 0)))]) [23, 1, 24, 25, 26, 27, 28, 29, 30, 31, 32, 4, 5, 6, 7, 8, 9, 10, 11, 12] rfl
      have hKc := hK.sub (tys' := [(cyI, .int), (cyB, .byte), (cyJ, .long), (cyZ, .boolean), (cyH, .object RX2), (cyN, .array .long)]) [0, 1, 2, 3, 4, 5] rfl
      have hDc := hD.sub (ws' := [(i1, .inr (2, [.int 0, .int 0, .int 0, .int 0, .int 0, .int 0, .ref v_first, .ref v_now, .ref v_lawPlace, .ref v_lawOther, .ref v_lawEach, .ref v_lawFrom, .ref v_foes, .ref v_suitTable, .ref v_acts])), (xHall, .inr (2, [.int 0, .int 0, .int 0, .int 0, .int 0, .int 0, .ref a_first, .ref a_now, .ref a_lawPlace, .ref a_lawOther, .ref a_lawEach, .ref a_lawFrom, .ref a_foes, .ref a_suitTable, .ref a_acts])), (v_first, .inl (cyI, 7, .inl (fun _ => 0))), (v_now, .inl (cyI, 7, .inl (fun _ => 0))), (v_lawPlace, .inl (cyI, 6, .inl (fun _ => 0))), (v_lawOther, .inl (cyI, 6, .inl (fun _ => 0))), (v_lawEach, .inl (cyI, 6, .inl (fun _ => 0))), (v_lawFrom, .inl (cyI, 6, .inl (fun _ => 0))), (v_foes, .inl (cyI, 7, .inl (fun _ => 0))), (v_suitTable, .inl (cyI, 49, .inl (fun _ => 0))), (v_acts, .inl (cyI, 40, .inl (fun _ => 0))), (a_first, .inl (cyI, 7, .inl (fun _ => 0))), (a_now, .inl (cyI, 7, .inl (fun _ => 0))), (a_lawPlace, .inl (cyI, 6, .inl (fun _ => 0))), (a_lawOther, .inl (cyI, 6, .inl (fun _ => 0))), (a_lawEach, .inl (cyI, 6, .inl (fun _ => 0))), (a_lawFrom, .inl (cyI, 6, .inl (fun _ => 0))), (a_foes, .inl (cyI, 7, .inl (fun _ => 0))), (a_suitTable, .inl (cyI, 49, .inl (fun _ => 0))), (a_acts, .inl (cyI, 40, .inl (fun _ => 0)))]) [23, 1, 24, 25, 26, 27, 28, 29, 30, 31, 32, 4, 5, 6, 7, 8, 9, 10, 11, 12] (by decide) rfl
      have hFc := va_free (wc := [(i1, .inr (2, [.int 0, .int 0, .int 0, .int 0, .int 0, .int 0, .ref v_first, .ref v_now, .ref v_lawPlace, .ref v_lawOther, .ref v_lawEach, .ref v_lawFrom, .ref v_foes, .ref v_suitTable, .ref v_acts])), (xHall, .inr (2, [.int 0, .int 0, .int 0, .int 0, .int 0, .int 0, .ref a_first, .ref a_now, .ref a_lawPlace, .ref a_lawOther, .ref a_lawEach, .ref a_lawFrom, .ref a_foes, .ref a_suitTable, .ref a_acts])), (v_first, .inl (cyI, 7, .inl (fun _ => 0))), (v_now, .inl (cyI, 7, .inl (fun _ => 0))), (v_lawPlace, .inl (cyI, 6, .inl (fun _ => 0))), (v_lawOther, .inl (cyI, 6, .inl (fun _ => 0))), (v_lawEach, .inl (cyI, 6, .inl (fun _ => 0))), (v_lawFrom, .inl (cyI, 6, .inl (fun _ => 0))), (v_foes, .inl (cyI, 7, .inl (fun _ => 0))), (v_suitTable, .inl (cyI, 49, .inl (fun _ => 0))), (v_acts, .inl (cyI, 40, .inl (fun _ => 0))), (a_first, .inl (cyI, 7, .inl (fun _ => 0))), (a_now, .inl (cyI, 7, .inl (fun _ => 0))), (a_lawPlace, .inl (cyI, 6, .inl (fun _ => 0))), (a_lawOther, .inl (cyI, 6, .inl (fun _ => 0))), (a_lawEach, .inl (cyI, 6, .inl (fun _ => 0))), (a_lawFrom, .inl (cyI, 6, .inl (fun _ => 0))), (a_foes, .inl (cyI, 7, .inl (fun _ => 0))), (a_suitTable, .inl (cyI, 49, .inl (fun _ => 0))), (a_acts, .inl (cyI, 40, .inl (fun _ => 0)))]) hD hS hA [23, 1, 24, 25, 26, 27, 28, 29, 30, 31, 32, 4, 5, 6, 7, 8, 9, 10, 11, 12] rfl
      refine va_callv (va_runV (As := [.ref xHall]) (rest := []) ⟨hx, hb, hml, hown, hts⟩ (c_become l dC dI cyI cyB cyJ cyZ cyH cyN H.size i1 v_first v_now v_lawPlace v_lawOther v_lawEach v_lawFrom v_foes v_suitTable v_acts xHall a_first a_now a_lawPlace a_lawOther a_lawEach a_lawFrom a_foes a_suitTable a_acts 0 0 0 0 0 0 0 0 0 0 0 0 (fun _ => 0) (fun _ => 0) (fun _ => 0) (fun _ => 0) (fun _ => 0) (fun _ => 0) (fun _ => 0) (fun _ => 0) (fun _ => 0) (fun _ => 0) (fun _ => 0) (fun _ => 0) (fun _ => 0) (fun _ => 0) (fun _ => 0) (fun _ => 0) (fun _ => 0) (fun _ => 0)) (cwV 1 hts (gdV wd_3_37 wd_3_38 wd_3_39 wd_1_3 wd_3_40) rfl rfl rfl (by decide +kernel) ⟨Nat.le_of_ble_eq_true rfl, Nat.le_of_ble_eq_true rfl⟩) ⟨fun a U g mk q => by obtain ⟨q0, q1, qP, qK, qD⟩ := q; exact ⟨q0, q1, qP, va_K.moved (u := U) (U := U.calling g mk a) (Vm.Alike.refl U.vm) qK, qD⟩, va_recv hKc hPc (ci := 2) (q0 := 0) rfl rfl, fun U hU hW => ⟨rfl, by rw [hU], by rw [hU]; exact hPc, va_K.moved hW.alike hKc, hDc.weaken (fun _ _ _ _ => trivial)⟩⟩ rfl rfl hl.1 rfl (lv_room (Nat.le_of_ble_eq_true rfl)) dX11_image_22 ⟨Nat.le_of_ble_eq_true rfl, Nat.le_of_ble_eq_true rfl⟩) hS (fun q _ h => hFc q h) hFc (fun  u t H1 locs ht hvm hw hB hz1 hk1 hS => ?_)
      obtain ⟨hP1, hD1⟩ := hB
      rw [ht] at hP1
      obtain ⟨hP, hD⟩ := va_join (wr := [(x, .inr (10, [.ref xTape, .ref xHall, .ref xDraft, .ref xImages, .ref xKept, .ref xSlots, .ref xCourse, .ref xSight, .ref xParting, .ref xSuiting, .ref xGame, .ref xLots, .ref xTold, .ref xTried, .null])), (xImages, .inl (cyH, 3, .inr (.inr (.inr (.inr iF))))), (xKept, .inl (cyZ, 3, .inl (fun _ => 0))), (i0, .inr (2, [.int 0, .int 0, .int 0, .int 0, .int 0, .int 0, .ref u_first, .ref u_now, .ref u_lawPlace, .ref u_lawOther, .ref u_lawEach, .ref u_lawFrom, .ref u_foes, .ref u_suitTable, .ref u_acts])), (u_first, .inl (cyI, 7, .inl (fun _ => 0))), (u_now, .inl (cyI, 7, .inl (fun _ => 0))), (u_lawPlace, .inl (cyI, 6, .inl (fun _ => 0))), (u_lawOther, .inl (cyI, 6, .inl (fun _ => 0))), (u_lawEach, .inl (cyI, 6, .inl (fun _ => 0))), (u_lawFrom, .inl (cyI, 6, .inl (fun _ => 0))), (u_foes, .inl (cyI, 7, .inl (fun _ => 0))), (u_suitTable, .inl (cyI, 49, .inl (fun _ => 0))), (u_acts, .inl (cyI, 40, .inl (fun _ => 0))), (i2, .inr (2, [.int 0, .int 0, .int 0, .int 0, .int 0, .int 0, .ref w_first, .ref w_now, .ref w_lawPlace, .ref w_lawOther, .ref w_lawEach, .ref w_lawFrom, .ref w_foes, .ref w_suitTable, .ref w_acts])), (w_first, .inl (cyI, 7, .inl (fun _ => 0))), (w_now, .inl (cyI, 7, .inl (fun _ => 0))), (w_lawPlace, .inl (cyI, 6, .inl (fun _ => 0))), (w_lawOther, .inl (cyI, 6, .inl (fun _ => 0))), (w_lawEach, .inl (cyI, 6, .inl (fun _ => 0))), (w_lawFrom, .inl (cyI, 6, .inl (fun _ => 0))), (w_foes, .inl (cyI, 7, .inl (fun _ => 0))), (w_suitTable, .inl (cyI, 49, .inl (fun _ => 0))), (w_acts, .inl (cyI, 40, .inl (fun _ => 0)))]) (w1 := [(i1, .inr (2, [.int 0, .int 0, .int 0, .int 0, .int 0, .int 0, .ref v_first, .ref v_now, .ref v_lawPlace, .ref v_lawOther, .ref v_lawEach, .ref v_lawFrom, .ref v_foes, .ref v_suitTable, .ref v_acts]))]) hP hD [23, 1, 24, 25, 26, 27, 28, 29, 30, 31, 32, 4, 5, 6, 7, 8, 9, 10, 11, 12] [0, 2, 3, 13, 14, 15, 16, 17, 18, 19, 20, 21, 22, 33, 34, 35, 36, 37, 38, 39, 40, 41, 42] rfl rfl (by decide) (by decide) hk1 hFc hP1 hD1
      generalize H1 = H at hP hS ⊢
      have hP : va_P (dC, dI) vwCl [(x, .inr (10, [.ref xTape, .ref xHall, .ref xDraft, .ref xImages, .ref xKept, .ref xSlots, .ref xCourse, .ref xSight, .ref xParting, .ref xSuiting, .ref xGame, .ref xLots, .ref xTold, .ref xTried, .null])), (xImages, .inl (cyH, 3, .inr (.inr (.inr (.inr iF))))), (xKept, .inl (cyZ, 3, .inl (fun _ => 0))), (i0, .inr (2, [.int 0, .int 0, .int 0, .int 0, .int 0, .int 0, .ref u_first, .ref u_now, .ref u_lawPlace, .ref u_lawOther, .ref u_lawEach, .ref u_lawFrom, .ref u_foes, .ref u_suitTable, .ref u_acts])), (u_first, .inl (cyI, 7, .inl (fun _ => 0))), (u_now, .inl (cyI, 7, .inl (fun _ => 0))), (u_lawPlace, .inl (cyI, 6, .inl (fun _ => 0))), (u_lawOther, .inl (cyI, 6, .inl (fun _ => 0))), (u_lawEach, .inl (cyI, 6, .inl (fun _ => 0))), (u_lawFrom, .inl (cyI, 6, .inl (fun _ => 0))), (u_foes, .inl (cyI, 7, .inl (fun _ => 0))), (u_suitTable, .inl (cyI, 49, .inl (fun _ => 0))), (u_acts, .inl (cyI, 40, .inl (fun _ => 0))), (i2, .inr (2, [.int 0, .int 0, .int 0, .int 0, .int 0, .int 0, .ref w_first, .ref w_now, .ref w_lawPlace, .ref w_lawOther, .ref w_lawEach, .ref w_lawFrom, .ref w_foes, .ref w_suitTable, .ref w_acts])), (w_first, .inl (cyI, 7, .inl (fun _ => 0))), (w_now, .inl (cyI, 7, .inl (fun _ => 0))), (w_lawPlace, .inl (cyI, 6, .inl (fun _ => 0))), (w_lawOther, .inl (cyI, 6, .inl (fun _ => 0))), (w_lawEach, .inl (cyI, 6, .inl (fun _ => 0))), (w_lawFrom, .inl (cyI, 6, .inl (fun _ => 0))), (w_foes, .inl (cyI, 7, .inl (fun _ => 0))), (w_suitTable, .inl (cyI, 49, .inl (fun _ => 0))), (w_acts, .inl (cyI, 40, .inl (fun _ => 0))), (i1, .inr (2, [.int 0, .int 0, .int 0, .int 0, .int 0, .int 0, .ref v_first, .ref v_now, .ref v_lawPlace, .ref v_lawOther, .ref v_lawEach, .ref v_lawFrom, .ref v_foes, .ref v_suitTable, .ref v_acts]))] H := hP
      have hD : va_D A [(x, .inr (10, [.ref xTape, .ref xHall, .ref xDraft, .ref xImages, .ref xKept, .ref xSlots, .ref xCourse, .ref xSight, .ref xParting, .ref xSuiting, .ref xGame, .ref xLots, .ref xTold, .ref xTried, .null])), (xImages, .inl (cyH, 3, .inr (.inr (.inr (.inr iF))))), (xKept, .inl (cyZ, 3, .inl (fun _ => 0))), (i0, .inr (2, [.int 0, .int 0, .int 0, .int 0, .int 0, .int 0, .ref u_first, .ref u_now, .ref u_lawPlace, .ref u_lawOther, .ref u_lawEach, .ref u_lawFrom, .ref u_foes, .ref u_suitTable, .ref u_acts])), (u_first, .inl (cyI, 7, .inl (fun _ => 0))), (u_now, .inl (cyI, 7, .inl (fun _ => 0))), (u_lawPlace, .inl (cyI, 6, .inl (fun _ => 0))), (u_lawOther, .inl (cyI, 6, .inl (fun _ => 0))), (u_lawEach, .inl (cyI, 6, .inl (fun _ => 0))), (u_lawFrom, .inl (cyI, 6, .inl (fun _ => 0))), (u_foes, .inl (cyI, 7, .inl (fun _ => 0))), (u_suitTable, .inl (cyI, 49, .inl (fun _ => 0))), (u_acts, .inl (cyI, 40, .inl (fun _ => 0))), (i2, .inr (2, [.int 0, .int 0, .int 0, .int 0, .int 0, .int 0, .ref w_first, .ref w_now, .ref w_lawPlace, .ref w_lawOther, .ref w_lawEach, .ref w_lawFrom, .ref w_foes, .ref w_suitTable, .ref w_acts])), (w_first, .inl (cyI, 7, .inl (fun _ => 0))), (w_now, .inl (cyI, 7, .inl (fun _ => 0))), (w_lawPlace, .inl (cyI, 6, .inl (fun _ => 0))), (w_lawOther, .inl (cyI, 6, .inl (fun _ => 0))), (w_lawEach, .inl (cyI, 6, .inl (fun _ => 0))), (w_lawFrom, .inl (cyI, 6, .inl (fun _ => 0))), (w_foes, .inl (cyI, 7, .inl (fun _ => 0))), (w_suitTable, .inl (cyI, 49, .inl (fun _ => 0))), (w_acts, .inl (cyI, 40, .inl (fun _ => 0))), (i1, .inr (2, [.int 0, .int 0, .int 0, .int 0, .int 0, .int 0, .ref v_first, .ref v_now, .ref v_lawPlace, .ref v_lawOther, .ref v_lawEach, .ref v_lawFrom, .ref v_foes, .ref v_suitTable, .ref v_acts]))] := hD
      refine lv_aload_n hx hb dX11_image_25 rfl (lv_at hl 0 rfl) ?_
      refine va_get (D := (dC, dI)) (ci := 10) (v := .ref xKept) (C := RX11) (T := TX11) (N := 15) hx hb hts uinX11 hown hK hP 0 rfl rfl 4 (by decide) (hts _ wd_2_69) (fun _ h9 => h9) rfl dX11_image_26 ?_
      refine lv_iload_n hx hb dX11_image_29 rfl (lv_at hl 1 rfl) ?_
      refine lv_iconst (v := 1) hx hb dX11_image_30 (by decide) ?_
      refine va_zast hx hb hK hP hD hS 2 3 rfl rfl (vp_in_iff.mpr (by decide)) dX11_image_31 (fun H locs hP hD hS => ?_)
      obtain ⟨f_6, ef_6⟩ : ∃ z9 : Nat → Int32, z9 = upd (fun _ => 0) (1 : Int32).toNatClampNeg (vp_nar .boolean 1) := ⟨_, rfl⟩
      rw [← ef_6] at hP hD
      have hP : va_P (dC, dI) vwCl [(x, .inr (10, [.ref xTape, .ref xHall, .ref xDraft, .ref xImages, .ref xKept, .ref xSlots, .ref xCourse, .ref xSight, .ref xParting, .ref xSuiting, .ref xGame, .ref xLots, .ref xTold, .ref xTried, .null])), (xImages, .inl (cyH, 3, .inr (.inr (.inr (.inr iF))))), (xKept, .inl (cyZ, 3, .inl f_6)), (i0, .inr (2, [.int 0, .int 0, .int 0, .int 0, .int 0, .int 0, .ref u_first, .ref u_now, .ref u_lawPlace, .ref u_lawOther, .ref u_lawEach, .ref u_lawFrom, .ref u_foes, .ref u_suitTable, .ref u_acts])), (u_first, .inl (cyI, 7, .inl (fun _ => 0))), (u_now, .inl (cyI, 7, .inl (fun _ => 0))), (u_lawPlace, .inl (cyI, 6, .inl (fun _ => 0))), (u_lawOther, .inl (cyI, 6, .inl (fun _ => 0))), (u_lawEach, .inl (cyI, 6, .inl (fun _ => 0))), (u_lawFrom, .inl (cyI, 6, .inl (fun _ => 0))), (u_foes, .inl (cyI, 7, .inl (fun _ => 0))), (u_suitTable, .inl (cyI, 49, .inl (fun _ => 0))), (u_acts, .inl (cyI, 40, .inl (fun _ => 0))), (i2, .inr (2, [.int 0, .int 0, .int 0, .int 0, .int 0, .int 0, .ref w_first, .ref w_now, .ref w_lawPlace, .ref w_lawOther, .ref w_lawEach, .ref w_lawFrom, .ref w_foes, .ref w_suitTable, .ref w_acts])), (w_first, .inl (cyI, 7, .inl (fun _ => 0))), (w_now, .inl (cyI, 7, .inl (fun _ => 0))), (w_lawPlace, .inl (cyI, 6, .inl (fun _ => 0))), (w_lawOther, .inl (cyI, 6, .inl (fun _ => 0))), (w_lawEach, .inl (cyI, 6, .inl (fun _ => 0))), (w_lawFrom, .inl (cyI, 6, .inl (fun _ => 0))), (w_foes, .inl (cyI, 7, .inl (fun _ => 0))), (w_suitTable, .inl (cyI, 49, .inl (fun _ => 0))), (w_acts, .inl (cyI, 40, .inl (fun _ => 0))), (i1, .inr (2, [.int 0, .int 0, .int 0, .int 0, .int 0, .int 0, .ref v_first, .ref v_now, .ref v_lawPlace, .ref v_lawOther, .ref v_lawEach, .ref v_lawFrom, .ref v_foes, .ref v_suitTable, .ref v_acts]))] H := hP
      have hD : va_D A [(x, .inr (10, [.ref xTape, .ref xHall, .ref xDraft, .ref xImages, .ref xKept, .ref xSlots, .ref xCourse, .ref xSight, .ref xParting, .ref xSuiting, .ref xGame, .ref xLots, .ref xTold, .ref xTried, .null])), (xImages, .inl (cyH, 3, .inr (.inr (.inr (.inr iF))))), (xKept, .inl (cyZ, 3, .inl f_6)), (i0, .inr (2, [.int 0, .int 0, .int 0, .int 0, .int 0, .int 0, .ref u_first, .ref u_now, .ref u_lawPlace, .ref u_lawOther, .ref u_lawEach, .ref u_lawFrom, .ref u_foes, .ref u_suitTable, .ref u_acts])), (u_first, .inl (cyI, 7, .inl (fun _ => 0))), (u_now, .inl (cyI, 7, .inl (fun _ => 0))), (u_lawPlace, .inl (cyI, 6, .inl (fun _ => 0))), (u_lawOther, .inl (cyI, 6, .inl (fun _ => 0))), (u_lawEach, .inl (cyI, 6, .inl (fun _ => 0))), (u_lawFrom, .inl (cyI, 6, .inl (fun _ => 0))), (u_foes, .inl (cyI, 7, .inl (fun _ => 0))), (u_suitTable, .inl (cyI, 49, .inl (fun _ => 0))), (u_acts, .inl (cyI, 40, .inl (fun _ => 0))), (i2, .inr (2, [.int 0, .int 0, .int 0, .int 0, .int 0, .int 0, .ref w_first, .ref w_now, .ref w_lawPlace, .ref w_lawOther, .ref w_lawEach, .ref w_lawFrom, .ref w_foes, .ref w_suitTable, .ref w_acts])), (w_first, .inl (cyI, 7, .inl (fun _ => 0))), (w_now, .inl (cyI, 7, .inl (fun _ => 0))), (w_lawPlace, .inl (cyI, 6, .inl (fun _ => 0))), (w_lawOther, .inl (cyI, 6, .inl (fun _ => 0))), (w_lawEach, .inl (cyI, 6, .inl (fun _ => 0))), (w_lawFrom, .inl (cyI, 6, .inl (fun _ => 0))), (w_foes, .inl (cyI, 7, .inl (fun _ => 0))), (w_suitTable, .inl (cyI, 49, .inl (fun _ => 0))), (w_acts, .inl (cyI, 40, .inl (fun _ => 0))), (i1, .inr (2, [.int 0, .int 0, .int 0, .int 0, .int 0, .int 0, .ref v_first, .ref v_now, .ref v_lawPlace, .ref v_lawOther, .ref v_lawEach, .ref v_lawFrom, .ref v_foes, .ref v_suitTable, .ref v_acts]))] := hD
      refine lv_iconst (v := 0) hx hb dX11_image_32 (by decide) ?_
      exact W.iret (v := 0) hx hb hr (fun t ht hW => ⟨⟨0, (), rfl, (by first | (rw [if_pos (by omega)]; done) | (rw [if_neg (by omega)]; done) | (rw [if_neg (by omega), if_pos (by omega)]; done) | (rw [if_neg (by omega), if_neg (by omega)]; done)), trivial⟩, hS.F ht⟩) hS.2.2 dX11_image_33
    · obtain rfl : p0 = 2 := Int32.toInt_inj.mp c_4
      refine va_aldq hx hb hK hP 2 4 rfl rfl (vp_in_iff.mpr (by decide)) dX11_image_17 ?_
      refine cv_topr (b := .ref i2) (by rw [show (2 : Int32).toNatClampNeg = 2 from rfl, g2]; rfl) ?_
      refine lv_aload_n hx hb dX11_image_18 rfl (lv_at hl 0 rfl) ?_
      refine va_get (D := (dC, dI)) (ci := 10) (v := .ref xHall) (C := RX11) (T := TX11) (N := 15) hx hb hts uinX11 hown hK hP 0 rfl rfl 1 (by decide) (hts _ wd_2_66) (fun _ h9 => h9) rfl dX11_image_19 ?_
      have hPc := hP.sub (ws' := [(i2, .inr (2, [.int 0, .int 0, .int 0, .int 0, .int 0, .int 0, .ref w_first, .ref w_now, .ref w_lawPlace, .ref w_lawOther, .ref w_lawEach, .ref w_lawFrom, .ref w_foes, .ref w_suitTable, .ref w_acts])), (xHall, .inr (2, [.int 0, .int 0, .int 0, .int 0, .int 0, .int 0, .ref a_first, .ref a_now, .ref a_lawPlace, .ref a_lawOther, .ref a_lawEach, .ref a_lawFrom, .ref a_foes, .ref a_suitTable, .ref a_acts])), (w_first, .inl (cyI, 7, .inl (fun _ => 0))), (w_now, .inl (cyI, 7, .inl (fun _ => 0))), (w_lawPlace, .inl (cyI, 6, .inl (fun _ => 0))), (w_lawOther, .inl (cyI, 6, .inl (fun _ => 0))), (w_lawEach, .inl (cyI, 6, .inl (fun _ => 0))), (w_lawFrom, .inl (cyI, 6, .inl (fun _ => 0))), (w_foes, .inl (cyI, 7, .inl (fun _ => 0))), (w_suitTable, .inl (cyI, 49, .inl (fun _ => 0))), (w_acts, .inl (cyI, 40, .inl (fun _ => 0))), (a_first, .inl (cyI, 7, .inl (fun _ => 0))), (a_now, .inl (cyI, 7, .inl (fun _ => 0))), (a_lawPlace, .inl (cyI, 6, .inl (fun _ => 0))), (a_lawOther, .inl (cyI, 6, .inl (fun _ => 0))), (a_lawEach, .inl (cyI, 6, .inl (fun _ => 0))), (a_lawFrom, .inl (cyI, 6, .inl (fun _ => 0))), (a_foes, .inl (cyI, 7, .inl (fun _ => 0))), (a_suitTable, .inl (cyI, 49, .inl (fun _ => 0))), (a_acts, .inl (cyI, 40, .inl (fun _ => 0)))]) [33, 1, 34, 35, 36, 37, 38, 39, 40, 41, 42, 4, 5, 6, 7, 8, 9, 10, 11, 12] rfl
      have hKc := hK.sub (tys' := [(cyI, .int), (cyB, .byte), (cyJ, .long), (cyZ, .boolean), (cyH, .object RX2), (cyN, .array .long)]) [0, 1, 2, 3, 4, 5] rfl
      have hDc := hD.sub (ws' := [(i2, .inr (2, [.int 0, .int 0, .int 0, .int 0, .int 0, .int 0, .ref w_first, .ref w_now, .ref w_lawPlace, .ref w_lawOther, .ref w_lawEach, .ref w_lawFrom, .ref w_foes, .ref w_suitTable, .ref w_acts])), (xHall, .inr (2, [.int 0, .int 0, .int 0, .int 0, .int 0, .int 0, .ref a_first, .ref a_now, .ref a_lawPlace, .ref a_lawOther, .ref a_lawEach, .ref a_lawFrom, .ref a_foes, .ref a_suitTable, .ref a_acts])), (w_first, .inl (cyI, 7, .inl (fun _ => 0))), (w_now, .inl (cyI, 7, .inl (fun _ => 0))), (w_lawPlace, .inl (cyI, 6, .inl (fun _ => 0))), (w_lawOther, .inl (cyI, 6, .inl (fun _ => 0))), (w_lawEach, .inl (cyI, 6, .inl (fun _ => 0))), (w_lawFrom, .inl (cyI, 6, .inl (fun _ => 0))), (w_foes, .inl (cyI, 7, .inl (fun _ => 0))), (w_suitTable, .inl (cyI, 49, .inl (fun _ => 0))), (w_acts, .inl (cyI, 40, .inl (fun _ => 0))), (a_first, .inl (cyI, 7, .inl (fun _ => 0))), (a_now, .inl (cyI, 7, .inl (fun _ => 0))), (a_lawPlace, .inl (cyI, 6, .inl (fun _ => 0))), (a_lawOther, .inl (cyI, 6, .inl (fun _ => 0))), (a_lawEach, .inl (cyI, 6, .inl (fun _ => 0))), (a_lawFrom, .inl (cyI, 6, .inl (fun _ => 0))), (a_foes, .inl (cyI, 7, .inl (fun _ => 0))), (a_suitTable, .inl (cyI, 49, .inl (fun _ => 0))), (a_acts, .inl (cyI, 40, .inl (fun _ => 0)))]) [33, 1, 34, 35, 36, 37, 38, 39, 40, 41, 42, 4, 5, 6, 7, 8, 9, 10, 11, 12] (by decide) rfl
      have hFc := va_free (wc := [(i2, .inr (2, [.int 0, .int 0, .int 0, .int 0, .int 0, .int 0, .ref w_first, .ref w_now, .ref w_lawPlace, .ref w_lawOther, .ref w_lawEach, .ref w_lawFrom, .ref w_foes, .ref w_suitTable, .ref w_acts])), (xHall, .inr (2, [.int 0, .int 0, .int 0, .int 0, .int 0, .int 0, .ref a_first, .ref a_now, .ref a_lawPlace, .ref a_lawOther, .ref a_lawEach, .ref a_lawFrom, .ref a_foes, .ref a_suitTable, .ref a_acts])), (w_first, .inl (cyI, 7, .inl (fun _ => 0))), (w_now, .inl (cyI, 7, .inl (fun _ => 0))), (w_lawPlace, .inl (cyI, 6, .inl (fun _ => 0))), (w_lawOther, .inl (cyI, 6, .inl (fun _ => 0))), (w_lawEach, .inl (cyI, 6, .inl (fun _ => 0))), (w_lawFrom, .inl (cyI, 6, .inl (fun _ => 0))), (w_foes, .inl (cyI, 7, .inl (fun _ => 0))), (w_suitTable, .inl (cyI, 49, .inl (fun _ => 0))), (w_acts, .inl (cyI, 40, .inl (fun _ => 0))), (a_first, .inl (cyI, 7, .inl (fun _ => 0))), (a_now, .inl (cyI, 7, .inl (fun _ => 0))), (a_lawPlace, .inl (cyI, 6, .inl (fun _ => 0))), (a_lawOther, .inl (cyI, 6, .inl (fun _ => 0))), (a_lawEach, .inl (cyI, 6, .inl (fun _ => 0))), (a_lawFrom, .inl (cyI, 6, .inl (fun _ => 0))), (a_foes, .inl (cyI, 7, .inl (fun _ => 0))), (a_suitTable, .inl (cyI, 49, .inl (fun _ => 0))), (a_acts, .inl (cyI, 40, .inl (fun _ => 0)))]) hD hS hA [33, 1, 34, 35, 36, 37, 38, 39, 40, 41, 42, 4, 5, 6, 7, 8, 9, 10, 11, 12] rfl
      refine va_callv (va_runV (As := [.ref xHall]) (rest := []) ⟨hx, hb, hml, hown, hts⟩ (c_become l dC dI cyI cyB cyJ cyZ cyH cyN H.size i2 w_first w_now w_lawPlace w_lawOther w_lawEach w_lawFrom w_foes w_suitTable w_acts xHall a_first a_now a_lawPlace a_lawOther a_lawEach a_lawFrom a_foes a_suitTable a_acts 0 0 0 0 0 0 0 0 0 0 0 0 (fun _ => 0) (fun _ => 0) (fun _ => 0) (fun _ => 0) (fun _ => 0) (fun _ => 0) (fun _ => 0) (fun _ => 0) (fun _ => 0) (fun _ => 0) (fun _ => 0) (fun _ => 0) (fun _ => 0) (fun _ => 0) (fun _ => 0) (fun _ => 0) (fun _ => 0) (fun _ => 0)) (cwV 1 hts (gdV wd_3_37 wd_3_38 wd_3_39 wd_1_3 wd_3_40) rfl rfl rfl (by decide +kernel) ⟨Nat.le_of_ble_eq_true rfl, Nat.le_of_ble_eq_true rfl⟩) ⟨fun a U g mk q => by obtain ⟨q0, q1, qP, qK, qD⟩ := q; exact ⟨q0, q1, qP, va_K.moved (u := U) (U := U.calling g mk a) (Vm.Alike.refl U.vm) qK, qD⟩, va_recv hKc hPc (ci := 2) (q0 := 0) rfl rfl, fun U hU hW => ⟨rfl, by rw [hU], by rw [hU]; exact hPc, va_K.moved hW.alike hKc, hDc.weaken (fun _ _ _ _ => trivial)⟩⟩ rfl rfl hl.1 rfl (lv_room (Nat.le_of_ble_eq_true rfl)) dX11_image_22 ⟨Nat.le_of_ble_eq_true rfl, Nat.le_of_ble_eq_true rfl⟩) hS (fun q _ h => hFc q h) hFc (fun  u t H1 locs ht hvm hw hB hz1 hk1 hS => ?_)
      obtain ⟨hP1, hD1⟩ := hB
      rw [ht] at hP1
      obtain ⟨hP, hD⟩ := va_join (wr := [(x, .inr (10, [.ref xTape, .ref xHall, .ref xDraft, .ref xImages, .ref xKept, .ref xSlots, .ref xCourse, .ref xSight, .ref xParting, .ref xSuiting, .ref xGame, .ref xLots, .ref xTold, .ref xTried, .null])), (xImages, .inl (cyH, 3, .inr (.inr (.inr (.inr iF))))), (xKept, .inl (cyZ, 3, .inl (fun _ => 0))), (i0, .inr (2, [.int 0, .int 0, .int 0, .int 0, .int 0, .int 0, .ref u_first, .ref u_now, .ref u_lawPlace, .ref u_lawOther, .ref u_lawEach, .ref u_lawFrom, .ref u_foes, .ref u_suitTable, .ref u_acts])), (u_first, .inl (cyI, 7, .inl (fun _ => 0))), (u_now, .inl (cyI, 7, .inl (fun _ => 0))), (u_lawPlace, .inl (cyI, 6, .inl (fun _ => 0))), (u_lawOther, .inl (cyI, 6, .inl (fun _ => 0))), (u_lawEach, .inl (cyI, 6, .inl (fun _ => 0))), (u_lawFrom, .inl (cyI, 6, .inl (fun _ => 0))), (u_foes, .inl (cyI, 7, .inl (fun _ => 0))), (u_suitTable, .inl (cyI, 49, .inl (fun _ => 0))), (u_acts, .inl (cyI, 40, .inl (fun _ => 0))), (i1, .inr (2, [.int 0, .int 0, .int 0, .int 0, .int 0, .int 0, .ref v_first, .ref v_now, .ref v_lawPlace, .ref v_lawOther, .ref v_lawEach, .ref v_lawFrom, .ref v_foes, .ref v_suitTable, .ref v_acts])), (v_first, .inl (cyI, 7, .inl (fun _ => 0))), (v_now, .inl (cyI, 7, .inl (fun _ => 0))), (v_lawPlace, .inl (cyI, 6, .inl (fun _ => 0))), (v_lawOther, .inl (cyI, 6, .inl (fun _ => 0))), (v_lawEach, .inl (cyI, 6, .inl (fun _ => 0))), (v_lawFrom, .inl (cyI, 6, .inl (fun _ => 0))), (v_foes, .inl (cyI, 7, .inl (fun _ => 0))), (v_suitTable, .inl (cyI, 49, .inl (fun _ => 0))), (v_acts, .inl (cyI, 40, .inl (fun _ => 0)))]) (w1 := [(i2, .inr (2, [.int 0, .int 0, .int 0, .int 0, .int 0, .int 0, .ref w_first, .ref w_now, .ref w_lawPlace, .ref w_lawOther, .ref w_lawEach, .ref w_lawFrom, .ref w_foes, .ref w_suitTable, .ref w_acts]))]) hP hD [33, 1, 34, 35, 36, 37, 38, 39, 40, 41, 42, 4, 5, 6, 7, 8, 9, 10, 11, 12] [0, 2, 3, 13, 14, 15, 16, 17, 18, 19, 20, 21, 22, 23, 24, 25, 26, 27, 28, 29, 30, 31, 32] rfl rfl (by decide) (by decide) hk1 hFc hP1 hD1
      generalize H1 = H at hP hS ⊢
      have hP : va_P (dC, dI) vwCl [(x, .inr (10, [.ref xTape, .ref xHall, .ref xDraft, .ref xImages, .ref xKept, .ref xSlots, .ref xCourse, .ref xSight, .ref xParting, .ref xSuiting, .ref xGame, .ref xLots, .ref xTold, .ref xTried, .null])), (xImages, .inl (cyH, 3, .inr (.inr (.inr (.inr iF))))), (xKept, .inl (cyZ, 3, .inl (fun _ => 0))), (i0, .inr (2, [.int 0, .int 0, .int 0, .int 0, .int 0, .int 0, .ref u_first, .ref u_now, .ref u_lawPlace, .ref u_lawOther, .ref u_lawEach, .ref u_lawFrom, .ref u_foes, .ref u_suitTable, .ref u_acts])), (u_first, .inl (cyI, 7, .inl (fun _ => 0))), (u_now, .inl (cyI, 7, .inl (fun _ => 0))), (u_lawPlace, .inl (cyI, 6, .inl (fun _ => 0))), (u_lawOther, .inl (cyI, 6, .inl (fun _ => 0))), (u_lawEach, .inl (cyI, 6, .inl (fun _ => 0))), (u_lawFrom, .inl (cyI, 6, .inl (fun _ => 0))), (u_foes, .inl (cyI, 7, .inl (fun _ => 0))), (u_suitTable, .inl (cyI, 49, .inl (fun _ => 0))), (u_acts, .inl (cyI, 40, .inl (fun _ => 0))), (i1, .inr (2, [.int 0, .int 0, .int 0, .int 0, .int 0, .int 0, .ref v_first, .ref v_now, .ref v_lawPlace, .ref v_lawOther, .ref v_lawEach, .ref v_lawFrom, .ref v_foes, .ref v_suitTable, .ref v_acts])), (v_first, .inl (cyI, 7, .inl (fun _ => 0))), (v_now, .inl (cyI, 7, .inl (fun _ => 0))), (v_lawPlace, .inl (cyI, 6, .inl (fun _ => 0))), (v_lawOther, .inl (cyI, 6, .inl (fun _ => 0))), (v_lawEach, .inl (cyI, 6, .inl (fun _ => 0))), (v_lawFrom, .inl (cyI, 6, .inl (fun _ => 0))), (v_foes, .inl (cyI, 7, .inl (fun _ => 0))), (v_suitTable, .inl (cyI, 49, .inl (fun _ => 0))), (v_acts, .inl (cyI, 40, .inl (fun _ => 0))), (i2, .inr (2, [.int 0, .int 0, .int 0, .int 0, .int 0, .int 0, .ref w_first, .ref w_now, .ref w_lawPlace, .ref w_lawOther, .ref w_lawEach, .ref w_lawFrom, .ref w_foes, .ref w_suitTable, .ref w_acts]))] H := hP
      have hD : va_D A [(x, .inr (10, [.ref xTape, .ref xHall, .ref xDraft, .ref xImages, .ref xKept, .ref xSlots, .ref xCourse, .ref xSight, .ref xParting, .ref xSuiting, .ref xGame, .ref xLots, .ref xTold, .ref xTried, .null])), (xImages, .inl (cyH, 3, .inr (.inr (.inr (.inr iF))))), (xKept, .inl (cyZ, 3, .inl (fun _ => 0))), (i0, .inr (2, [.int 0, .int 0, .int 0, .int 0, .int 0, .int 0, .ref u_first, .ref u_now, .ref u_lawPlace, .ref u_lawOther, .ref u_lawEach, .ref u_lawFrom, .ref u_foes, .ref u_suitTable, .ref u_acts])), (u_first, .inl (cyI, 7, .inl (fun _ => 0))), (u_now, .inl (cyI, 7, .inl (fun _ => 0))), (u_lawPlace, .inl (cyI, 6, .inl (fun _ => 0))), (u_lawOther, .inl (cyI, 6, .inl (fun _ => 0))), (u_lawEach, .inl (cyI, 6, .inl (fun _ => 0))), (u_lawFrom, .inl (cyI, 6, .inl (fun _ => 0))), (u_foes, .inl (cyI, 7, .inl (fun _ => 0))), (u_suitTable, .inl (cyI, 49, .inl (fun _ => 0))), (u_acts, .inl (cyI, 40, .inl (fun _ => 0))), (i1, .inr (2, [.int 0, .int 0, .int 0, .int 0, .int 0, .int 0, .ref v_first, .ref v_now, .ref v_lawPlace, .ref v_lawOther, .ref v_lawEach, .ref v_lawFrom, .ref v_foes, .ref v_suitTable, .ref v_acts])), (v_first, .inl (cyI, 7, .inl (fun _ => 0))), (v_now, .inl (cyI, 7, .inl (fun _ => 0))), (v_lawPlace, .inl (cyI, 6, .inl (fun _ => 0))), (v_lawOther, .inl (cyI, 6, .inl (fun _ => 0))), (v_lawEach, .inl (cyI, 6, .inl (fun _ => 0))), (v_lawFrom, .inl (cyI, 6, .inl (fun _ => 0))), (v_foes, .inl (cyI, 7, .inl (fun _ => 0))), (v_suitTable, .inl (cyI, 49, .inl (fun _ => 0))), (v_acts, .inl (cyI, 40, .inl (fun _ => 0))), (i2, .inr (2, [.int 0, .int 0, .int 0, .int 0, .int 0, .int 0, .ref w_first, .ref w_now, .ref w_lawPlace, .ref w_lawOther, .ref w_lawEach, .ref w_lawFrom, .ref w_foes, .ref w_suitTable, .ref w_acts]))] := hD
      refine lv_aload_n hx hb dX11_image_25 rfl (lv_at hl 0 rfl) ?_
      refine va_get (D := (dC, dI)) (ci := 10) (v := .ref xKept) (C := RX11) (T := TX11) (N := 15) hx hb hts uinX11 hown hK hP 0 rfl rfl 4 (by decide) (hts _ wd_2_69) (fun _ h9 => h9) rfl dX11_image_26 ?_
      refine lv_iload_n hx hb dX11_image_29 rfl (lv_at hl 1 rfl) ?_
      refine lv_iconst (v := 1) hx hb dX11_image_30 (by decide) ?_
      refine va_zast hx hb hK hP hD hS 2 3 rfl rfl (vp_in_iff.mpr (by decide)) dX11_image_31 (fun H locs hP hD hS => ?_)
      obtain ⟨f_7, ef_7⟩ : ∃ z9 : Nat → Int32, z9 = upd (fun _ => 0) (2 : Int32).toNatClampNeg (vp_nar .boolean 1) := ⟨_, rfl⟩
      rw [← ef_7] at hP hD
      have hP : va_P (dC, dI) vwCl [(x, .inr (10, [.ref xTape, .ref xHall, .ref xDraft, .ref xImages, .ref xKept, .ref xSlots, .ref xCourse, .ref xSight, .ref xParting, .ref xSuiting, .ref xGame, .ref xLots, .ref xTold, .ref xTried, .null])), (xImages, .inl (cyH, 3, .inr (.inr (.inr (.inr iF))))), (xKept, .inl (cyZ, 3, .inl f_7)), (i0, .inr (2, [.int 0, .int 0, .int 0, .int 0, .int 0, .int 0, .ref u_first, .ref u_now, .ref u_lawPlace, .ref u_lawOther, .ref u_lawEach, .ref u_lawFrom, .ref u_foes, .ref u_suitTable, .ref u_acts])), (u_first, .inl (cyI, 7, .inl (fun _ => 0))), (u_now, .inl (cyI, 7, .inl (fun _ => 0))), (u_lawPlace, .inl (cyI, 6, .inl (fun _ => 0))), (u_lawOther, .inl (cyI, 6, .inl (fun _ => 0))), (u_lawEach, .inl (cyI, 6, .inl (fun _ => 0))), (u_lawFrom, .inl (cyI, 6, .inl (fun _ => 0))), (u_foes, .inl (cyI, 7, .inl (fun _ => 0))), (u_suitTable, .inl (cyI, 49, .inl (fun _ => 0))), (u_acts, .inl (cyI, 40, .inl (fun _ => 0))), (i1, .inr (2, [.int 0, .int 0, .int 0, .int 0, .int 0, .int 0, .ref v_first, .ref v_now, .ref v_lawPlace, .ref v_lawOther, .ref v_lawEach, .ref v_lawFrom, .ref v_foes, .ref v_suitTable, .ref v_acts])), (v_first, .inl (cyI, 7, .inl (fun _ => 0))), (v_now, .inl (cyI, 7, .inl (fun _ => 0))), (v_lawPlace, .inl (cyI, 6, .inl (fun _ => 0))), (v_lawOther, .inl (cyI, 6, .inl (fun _ => 0))), (v_lawEach, .inl (cyI, 6, .inl (fun _ => 0))), (v_lawFrom, .inl (cyI, 6, .inl (fun _ => 0))), (v_foes, .inl (cyI, 7, .inl (fun _ => 0))), (v_suitTable, .inl (cyI, 49, .inl (fun _ => 0))), (v_acts, .inl (cyI, 40, .inl (fun _ => 0))), (i2, .inr (2, [.int 0, .int 0, .int 0, .int 0, .int 0, .int 0, .ref w_first, .ref w_now, .ref w_lawPlace, .ref w_lawOther, .ref w_lawEach, .ref w_lawFrom, .ref w_foes, .ref w_suitTable, .ref w_acts]))] H := hP
      have hD : va_D A [(x, .inr (10, [.ref xTape, .ref xHall, .ref xDraft, .ref xImages, .ref xKept, .ref xSlots, .ref xCourse, .ref xSight, .ref xParting, .ref xSuiting, .ref xGame, .ref xLots, .ref xTold, .ref xTried, .null])), (xImages, .inl (cyH, 3, .inr (.inr (.inr (.inr iF))))), (xKept, .inl (cyZ, 3, .inl f_7)), (i0, .inr (2, [.int 0, .int 0, .int 0, .int 0, .int 0, .int 0, .ref u_first, .ref u_now, .ref u_lawPlace, .ref u_lawOther, .ref u_lawEach, .ref u_lawFrom, .ref u_foes, .ref u_suitTable, .ref u_acts])), (u_first, .inl (cyI, 7, .inl (fun _ => 0))), (u_now, .inl (cyI, 7, .inl (fun _ => 0))), (u_lawPlace, .inl (cyI, 6, .inl (fun _ => 0))), (u_lawOther, .inl (cyI, 6, .inl (fun _ => 0))), (u_lawEach, .inl (cyI, 6, .inl (fun _ => 0))), (u_lawFrom, .inl (cyI, 6, .inl (fun _ => 0))), (u_foes, .inl (cyI, 7, .inl (fun _ => 0))), (u_suitTable, .inl (cyI, 49, .inl (fun _ => 0))), (u_acts, .inl (cyI, 40, .inl (fun _ => 0))), (i1, .inr (2, [.int 0, .int 0, .int 0, .int 0, .int 0, .int 0, .ref v_first, .ref v_now, .ref v_lawPlace, .ref v_lawOther, .ref v_lawEach, .ref v_lawFrom, .ref v_foes, .ref v_suitTable, .ref v_acts])), (v_first, .inl (cyI, 7, .inl (fun _ => 0))), (v_now, .inl (cyI, 7, .inl (fun _ => 0))), (v_lawPlace, .inl (cyI, 6, .inl (fun _ => 0))), (v_lawOther, .inl (cyI, 6, .inl (fun _ => 0))), (v_lawEach, .inl (cyI, 6, .inl (fun _ => 0))), (v_lawFrom, .inl (cyI, 6, .inl (fun _ => 0))), (v_foes, .inl (cyI, 7, .inl (fun _ => 0))), (v_suitTable, .inl (cyI, 49, .inl (fun _ => 0))), (v_acts, .inl (cyI, 40, .inl (fun _ => 0))), (i2, .inr (2, [.int 0, .int 0, .int 0, .int 0, .int 0, .int 0, .ref w_first, .ref w_now, .ref w_lawPlace, .ref w_lawOther, .ref w_lawEach, .ref w_lawFrom, .ref w_foes, .ref w_suitTable, .ref w_acts]))] := hD
      refine lv_iconst (v := 0) hx hb dX11_image_32 (by decide) ?_
      exact W.iret (v := 0) hx hb hr (fun t ht hW => ⟨⟨0, (), rfl, (by first | (rw [if_pos (by omega)]; done) | (rw [if_neg (by omega)]; done) | (rw [if_neg (by omega), if_pos (by omega)]; done) | (rw [if_neg (by omega), if_neg (by omega)]; done)), trivial⟩, hS.F ht⟩) hS.2.2 dX11_image_33
  · rw [if_neg c_2] at hw; subst hw; have c_2 : ¬ (0 ≤ p0.toInt ∧ p0.toInt ≤ 2) := c_2
    refine lv_if_ne (tgt := 12) hx hb dX11_image_6 (by decide) (fun c_8 => absurd c_8 (by decide)) (fun _ => ?_)
    refine lv_bipush (v := (-2)) hx hb dX11_image_9 (by decide) ?_
    exact W.iret (v := (-2)) hx hb hr (fun t ht hW => ⟨⟨(-2), (), rfl, (by first | (rw [if_pos (by omega)]; done) | (rw [if_neg (by omega)]; done) | (rw [if_neg (by omega), if_pos (by omega)]; done) | (rw [if_neg (by omega), if_neg (by omega)]; done)), trivial⟩, hS.F ht⟩) hS.2.2 dX11_image_11

/- X8_make -/
set_option maxHeartbeats 4000000 in
set_option maxRecDepth 100000 in
theorem c_make (l : Launch) (dC : Nat → ClassId) (dI : Nat → Nat → Nat) (cyI cyB cyJ cyZ cyH cyN : ClassId) (sz : Nat) (h0 sNum sLen sWid sMade n0 n1 n2 n3 : Nat) (nF : Nat → Option Nat) (p0 p1 p2 : Int32) (g0 : nF 0 = some n0) (g1 : nF 1 = some n1) (g2 : nF 2 = some n2) (g3 : nF 3 = some n3) (g4 : 0 ≤ p0.toInt ∧ p0.toInt < 4) : Met l yX8_make (wk yX8_make cX8_make 4 none) ({ frames := 2, cells := 0, slots := 0, locals := 84 }) (va_Pc [.ref h0, .int p0, .int p1, .int p2] (fun U => U.heap.size = sz ∧ va_P (dC, dI) vwCl [(h0, .inr (7, [.ref sNum, .ref sLen, .ref sWid, .ref sMade])), (sMade, .inl (cyZ, 4, .inl (fun _ => 0))), (sLen, .inl (cyI, 4, .inl (fun _ => 0))), (sWid, .inl (cyI, 4, .inl (fun _ => 0))), (sNum, .inl (cyN, 4, .inr (.inr (.inr (.inr nF))))), (n0, .inl (cyJ, 60, .inr (.inl (fun _ => 0)))), (n1, .inl (cyJ, 60, .inr (.inl (fun _ => 0)))), (n2, .inl (cyJ, 60, .inr (.inl (fun _ => 0)))), (n3, .inl (cyJ, 60, .inr (.inl (fun _ => 0))))] U.heap ∧ va_K (dC, dI) vwCl [(cyI, .int), (cyB, .byte), (cyJ, .long), (cyZ, .boolean), (cyH, .object RX2), (cyN, .array .long)] U ∧ va_D (fun _ => True) [(h0, .inr (7, [.ref sNum, .ref sLen, .ref sWid, .ref sMade])), (sMade, .inl (cyZ, 4, .inl (fun _ => 0))), (sLen, .inl (cyI, 4, .inl (fun _ => 0))), (sWid, .inl (cyI, 4, .inl (fun _ => 0))), (sNum, .inl (cyN, 4, .inr (.inr (.inr (.inr nF))))), (n0, .inl (cyJ, 60, .inr (.inl (fun _ => 0)))), (n1, .inl (cyJ, 60, .inr (.inl (fun _ => 0)))), (n2, .inl (cyJ, 60, .inr (.inl (fun _ => 0)))), (n3, .inl (cyJ, 60, .inr (.inl (fun _ => 0))))])) (va_Qv (fun _ : Unit => True) (fun (_ : Unit) (_ : State) => True) (va_A [(h0, .inr (7, [.ref sNum, .ref sLen, .ref sWid, .ref sMade])), (sMade, .inl (cyZ, 4, .inl (fun _ => 0))), (sLen, .inl (cyI, 4, .inl (fun _ => 0))), (sWid, .inl (cyI, 4, .inl (fun _ => 0))), (sNum, .inl (cyN, 4, .inr (.inr (.inr (.inr nF))))), (n0, .inl (cyJ, 60, .inr (.inl (fun _ => 0)))), (n1, .inl (cyJ, 60, .inr (.inl (fun _ => 0)))), (n2, .inl (cyJ, 60, .inr (.inl (fun _ => 0)))), (n3, .inl (cyJ, 60, .inr (.inl (fun _ => 0))))] sz)) 0 0 (va_A [(h0, .inr (7, [.ref sNum, .ref sLen, .ref sWid, .ref sMade])), (sMade, .inl (cyZ, 4, .inl (fun _ => 0))), (sLen, .inl (cyI, 4, .inl (fun _ => 0))), (sWid, .inl (cyI, 4, .inl (fun _ => 0))), (sNum, .inl (cyN, 4, .inr (.inr (.inr (.inr nF))))), (n0, .inl (cyJ, 60, .inr (.inl (fun _ => 0)))), (n1, .inl (cyJ, 60, .inr (.inl (fun _ => 0)))), (n2, .inl (cyJ, 60, .inr (.inl (fun _ => 0)))), (n3, .inl (cyJ, 60, .inr (.inl (fun _ => 0))))] sz) := by
  refine Met.ofW (cc := cX8_make) (maxL := 4) (ret := none) (by decide) rfl ?_
  intro p e s m args below meth c s₁ B hml hv
  obtain ⟨rfl, hsz, hP, hK, hD0⟩ := hv
  have hx := B.exec
  have hb := B.bytes
  have hr := B.returns
  have hts : ∀ w ∈ uU, w.before ([.ref h0, .int p0, .int p1, .int p2] : List Value).toArray s = true := fun w h => atoms_spec (ws := wk yX8_make cX8_make 4 none) B.pre w (List.mem_cons_of_mem _ h)
  have hown : s.vm.findClass RX8 = some m.cls := findClass_of_methodNamed B.named
  have hlocks := B.notSynchronized
  subst hsz
  have hD := hD0.self (sz := s.heap.size)
  generalize hAe : va_A [(h0, .inr (7, [.ref sNum, .ref sLen, .ref sWid, .ref sMade])), (sMade, .inl (cyZ, 4, .inl (fun _ => 0))), (sLen, .inl (cyI, 4, .inl (fun _ => 0))), (sWid, .inl (cyI, 4, .inl (fun _ => 0))), (sNum, .inl (cyN, 4, .inr (.inr (.inr (.inr nF))))), (n0, .inl (cyJ, 60, .inr (.inl (fun _ => 0)))), (n1, .inl (cyJ, 60, .inr (.inl (fun _ => 0)))), (n2, .inl (cyJ, 60, .inr (.inl (fun _ => 0)))), (n3, .inl (cyJ, 60, .inr (.inl (fun _ => 0))))] s.heap.size = A at hD ⊢
  have hA : ∀ q : Nat, s.heap.size ≤ q → A q := fun q h => by rw [← hAe]; exact Or.inr h
  have hS : va_S A s.heap s.heap [] := va_S.rf
  have hP : va_P (dC, dI) vwCl [(h0, .inr (7, [.ref sNum, .ref sLen, .ref sWid, .ref sMade])), (sMade, .inl (cyZ, 4, .inl (fun _ => 0))), (sLen, .inl (cyI, 4, .inl (fun _ => 0))), (sWid, .inl (cyI, 4, .inl (fun _ => 0))), (sNum, .inl (cyN, 4, .inr (.inr (.inr (.inr nF))))), (n0, .inl (cyJ, 60, .inr (.inl (fun _ => 0)))), (n1, .inl (cyJ, 60, .inr (.inl (fun _ => 0)))), (n2, .inl (cyJ, 60, .inr (.inl (fun _ => 0)))), (n3, .inl (cyJ, 60, .inr (.inl (fun _ => 0))))] s.heap := hP
  have hl := lv_entry ([.ref h0, .int p0, .int p1, .int p2]) (n := 4) (Nat.le_of_ble_eq_true rfl)
  rw [lg_entry_eq]
  generalize (lg_sl ([.ref h0, .int p0, .int p1, .int p2]) ++ List.replicate (4 - (lg_sl ([.ref h0, .int p0, .int p1, .int p2])).length) Slot.unset).toArray = ls at hl ⊢
  have hl : lv_has ls 4 [(0, .ref h0), (1, .int p0), (2, .int p1), (3, .int p2)] := hl
  obtain ⟨H, hHe⟩ : ∃ H, H = s.heap := ⟨_, rfl⟩
  have hP : va_P (dC, dI) vwCl [(h0, .inr (7, [.ref sNum, .ref sLen, .ref sWid, .ref sMade])), (sMade, .inl (cyZ, 4, .inl (fun _ => 0))), (sLen, .inl (cyI, 4, .inl (fun _ => 0))), (sWid, .inl (cyI, 4, .inl (fun _ => 0))), (sNum, .inl (cyN, 4, .inr (.inr (.inr (.inr nF))))), (n0, .inl (cyJ, 60, .inr (.inl (fun _ => 0)))), (n1, .inl (cyJ, 60, .inr (.inl (fun _ => 0)))), (n2, .inl (cyJ, 60, .inr (.inl (fun _ => 0)))), (n3, .inl (cyJ, 60, .inr (.inl (fun _ => 0))))] H := by rw [hHe]; exact hP
  have hS : va_S A s.heap H [] := by rw [hHe]; exact hS
  refine cv_heap hHe ?_
  refine lv_aload_n hx hb dX8_make_0 rfl (lv_at hl 0 rfl) ?_
  refine va_get (D := (dC, dI)) (ci := 7) (v := .ref sMade) (C := RX8) (T := TX8) (N := 4) hx hb hts uinX8 hown hK hP 0 rfl rfl 3 (by decide) (hts _ wd_1_173) (fun _ h9 => h9) rfl dX8_make_1 ?_
  refine lv_iload_n hx hb dX8_make_4 rfl (lv_at hl 1 rfl) ?_
  refine lv_iconst (v := 1) hx hb dX8_make_5 (by decide) ?_
  refine va_zast hx hb hK hP hD hS 1 3 rfl rfl (vp_in_iff.mpr (by omega)) dX8_make_6 (fun H locs hP hD hS => ?_)
  obtain ⟨f_1, ef_1⟩ : ∃ z9 : Nat → Int32, z9 = upd (fun _ => 0) p0.toNatClampNeg (vp_nar .boolean 1) := ⟨_, rfl⟩
  rw [← ef_1] at hP hD
  have hP : va_P (dC, dI) vwCl [(h0, .inr (7, [.ref sNum, .ref sLen, .ref sWid, .ref sMade])), (sMade, .inl (cyZ, 4, .inl f_1)), (sLen, .inl (cyI, 4, .inl (fun _ => 0))), (sWid, .inl (cyI, 4, .inl (fun _ => 0))), (sNum, .inl (cyN, 4, .inr (.inr (.inr (.inr nF))))), (n0, .inl (cyJ, 60, .inr (.inl (fun _ => 0)))), (n1, .inl (cyJ, 60, .inr (.inl (fun _ => 0)))), (n2, .inl (cyJ, 60, .inr (.inl (fun _ => 0)))), (n3, .inl (cyJ, 60, .inr (.inl (fun _ => 0))))] H := hP
  have hD : va_D A [(h0, .inr (7, [.ref sNum, .ref sLen, .ref sWid, .ref sMade])), (sMade, .inl (cyZ, 4, .inl f_1)), (sLen, .inl (cyI, 4, .inl (fun _ => 0))), (sWid, .inl (cyI, 4, .inl (fun _ => 0))), (sNum, .inl (cyN, 4, .inr (.inr (.inr (.inr nF))))), (n0, .inl (cyJ, 60, .inr (.inl (fun _ => 0)))), (n1, .inl (cyJ, 60, .inr (.inl (fun _ => 0)))), (n2, .inl (cyJ, 60, .inr (.inl (fun _ => 0)))), (n3, .inl (cyJ, 60, .inr (.inl (fun _ => 0))))] := hD
  refine lv_aload_n hx hb dX8_make_7 rfl (lv_at hl 0 rfl) ?_
  refine va_get (D := (dC, dI)) (ci := 7) (v := .ref sWid) (C := RX8) (T := TX8) (N := 4) hx hb hts uinX8 hown hK hP 0 rfl rfl 2 (by decide) (hts _ wd_1_171) (fun _ h9 => h9) rfl dX8_make_8 ?_
  refine lv_iload_n hx hb dX8_make_11 rfl (lv_at hl 1 rfl) ?_
  refine lv_iload_n hx hb dX8_make_12 rfl (lv_at hl 2 rfl) ?_
  refine va_iast hx hb hK hP hD hS 3 0 rfl rfl (vp_in_iff.mpr (by omega)) dX8_make_13 (fun H locs hP hD hS => ?_)
  obtain ⟨f_2, ef_2⟩ : ∃ z9 : Nat → Int32, z9 = upd (fun _ => 0) p0.toNatClampNeg p1 := ⟨_, rfl⟩
  rw [← ef_2] at hP hD
  have hP : va_P (dC, dI) vwCl [(h0, .inr (7, [.ref sNum, .ref sLen, .ref sWid, .ref sMade])), (sMade, .inl (cyZ, 4, .inl f_1)), (sLen, .inl (cyI, 4, .inl (fun _ => 0))), (sWid, .inl (cyI, 4, .inl f_2)), (sNum, .inl (cyN, 4, .inr (.inr (.inr (.inr nF))))), (n0, .inl (cyJ, 60, .inr (.inl (fun _ => 0)))), (n1, .inl (cyJ, 60, .inr (.inl (fun _ => 0)))), (n2, .inl (cyJ, 60, .inr (.inl (fun _ => 0)))), (n3, .inl (cyJ, 60, .inr (.inl (fun _ => 0))))] H := hP
  have hD : va_D A [(h0, .inr (7, [.ref sNum, .ref sLen, .ref sWid, .ref sMade])), (sMade, .inl (cyZ, 4, .inl f_1)), (sLen, .inl (cyI, 4, .inl (fun _ => 0))), (sWid, .inl (cyI, 4, .inl f_2)), (sNum, .inl (cyN, 4, .inr (.inr (.inr (.inr nF))))), (n0, .inl (cyJ, 60, .inr (.inl (fun _ => 0)))), (n1, .inl (cyJ, 60, .inr (.inl (fun _ => 0)))), (n2, .inl (cyJ, 60, .inr (.inl (fun _ => 0)))), (n3, .inl (cyJ, 60, .inr (.inl (fun _ => 0))))] := hD
  refine lv_aload_n hx hb dX8_make_14 rfl (lv_at hl 0 rfl) ?_
  refine va_get (D := (dC, dI)) (ci := 7) (v := .ref sLen) (C := RX8) (T := TX8) (N := 4) hx hb hts uinX8 hown hK hP 0 rfl rfl 1 (by decide) (hts _ wd_1_168) (fun _ h9 => h9) rfl dX8_make_15 ?_
  refine lv_iload_n hx hb dX8_make_18 rfl (lv_at hl 1 rfl) ?_
  refine lv_iload_n hx hb dX8_make_19 rfl (lv_at hl 3 rfl) ?_
  refine va_iast hx hb hK hP hD hS 2 0 rfl rfl (vp_in_iff.mpr (by omega)) dX8_make_20 (fun H locs hP hD hS => ?_)
  obtain ⟨f_3, ef_3⟩ : ∃ z9 : Nat → Int32, z9 = upd (fun _ => 0) p0.toNatClampNeg p2 := ⟨_, rfl⟩
  rw [← ef_3] at hP hD
  have hP : va_P (dC, dI) vwCl [(h0, .inr (7, [.ref sNum, .ref sLen, .ref sWid, .ref sMade])), (sMade, .inl (cyZ, 4, .inl f_1)), (sLen, .inl (cyI, 4, .inl f_3)), (sWid, .inl (cyI, 4, .inl f_2)), (sNum, .inl (cyN, 4, .inr (.inr (.inr (.inr nF))))), (n0, .inl (cyJ, 60, .inr (.inl (fun _ => 0)))), (n1, .inl (cyJ, 60, .inr (.inl (fun _ => 0)))), (n2, .inl (cyJ, 60, .inr (.inl (fun _ => 0)))), (n3, .inl (cyJ, 60, .inr (.inl (fun _ => 0))))] H := hP
  have hD : va_D A [(h0, .inr (7, [.ref sNum, .ref sLen, .ref sWid, .ref sMade])), (sMade, .inl (cyZ, 4, .inl f_1)), (sLen, .inl (cyI, 4, .inl f_3)), (sWid, .inl (cyI, 4, .inl f_2)), (sNum, .inl (cyN, 4, .inr (.inr (.inr (.inr nF))))), (n0, .inl (cyJ, 60, .inr (.inl (fun _ => 0)))), (n1, .inl (cyJ, 60, .inr (.inl (fun _ => 0)))), (n2, .inl (cyJ, 60, .inr (.inl (fun _ => 0)))), (n3, .inl (cyJ, 60, .inr (.inl (fun _ => 0))))] := hD
  refine lv_aload_n hx hb dX8_make_21 rfl (lv_at hl 0 rfl) ?_
  refine va_get (D := (dC, dI)) (ci := 7) (v := .ref sNum) (C := RX8) (T := TX8) (N := 4) hx hb hts uinX8 hown hK hP 0 rfl rfl 0 (by decide) (hts _ wd_1_165) (fun _ h9 => h9) rfl dX8_make_22 ?_
  refine lv_iload_n hx hb dX8_make_25 rfl (lv_at hl 1 rfl) ?_
  rcases (show p0.toInt = 0 ∨ p0.toInt = 1 ∨ p0.toInt = 2 ∨ p0.toInt = 3 by omega) with c_4 | c_4 | c_4 | c_4
  · obtain rfl : p0 = 0 := Int32.toInt_inj.mp c_4
    refine cv_aldA hx hb hK hP 4 5 rfl rfl (vp_in_iff.mpr (by decide)) dX8_make_26 ?_
    refine cv_topr (b := .ref n0) (by rw [show (0 : Int32).toNatClampNeg = 0 from rfl, g0]; rfl) ?_
    refine lv_lconst (v := 0) hx hb dX8_make_27 (by decide) ?_
    have hPc := hP.sub (ws' := [(n0, .inl (cyJ, 60, .inr (.inl (fun _ => 0))))]) [5] rfl
    have hKc := hK.sub (tys' := [(cyI, .int), (cyB, .byte), (cyJ, .long), (cyZ, .boolean), (cyH, .object RX2), (cyN, .array .long)]) [0, 1, 2, 3, 4, 5] rfl
    have hDc := hD.sub (ws' := [(n0, .inl (cyJ, 60, .inr (.inl (fun _ => 0))))]) [5] (by decide) rfl
    have hFc := va_free (wc := [(n0, .inl (cyJ, 60, .inr (.inl (fun _ => 0))))]) hD hS hA [5] rfl
    refine va_callv (va_runS (As := [.ref n0, .long 0]) (rest := []) ⟨hx, hb, hml, hown, hts⟩ (c_fillL l dC dI cyI cyB cyJ cyZ cyH cyN H.size n0 (fun _ => 0) 0) (va_cwS 2 hts (gdS wd_6_15 wd_5_139 wd_1_12 wd_5_140) rfl rfl rfl (by decide +kernel) ⟨Nat.le_of_ble_eq_true rfl, Nat.le_of_ble_eq_true rfl⟩) ⟨fun a U g mk q => by obtain ⟨q0, q1, qP, qK, qD⟩ := q; exact ⟨q0, q1, qP, va_K.moved (u := U) (U := U.calling g mk a) (Vm.Alike.refl U.vm) qK, qD⟩, fun U hU hW => ⟨rfl, by rw [hU], by rw [hU]; exact hPc, va_K.moved hW.alike hKc, hDc.weaken (fun _ _ _ _ => trivial)⟩⟩ rfl rfl hl.1 rfl (lv_room (Nat.le_of_ble_eq_true rfl)) dX8_make_28 ⟨Nat.le_of_ble_eq_true rfl, Nat.le_of_ble_eq_true rfl⟩) hS (fun q _ h => hFc q h) hFc (fun  u t H1 locs ht hvm hw hB hz1 hk1 hS => ?_)
    obtain ⟨g_5, hP1, hD1⟩ := hB
    rw [ht] at hP1
    obtain ⟨hP, hD⟩ := va_join (wr := [(h0, .inr (7, [.ref sNum, .ref sLen, .ref sWid, .ref sMade])), (sMade, .inl (cyZ, 4, .inl f_1)), (sLen, .inl (cyI, 4, .inl f_3)), (sWid, .inl (cyI, 4, .inl f_2)), (sNum, .inl (cyN, 4, .inr (.inr (.inr (.inr nF))))), (n1, .inl (cyJ, 60, .inr (.inl (fun _ => 0)))), (n2, .inl (cyJ, 60, .inr (.inl (fun _ => 0)))), (n3, .inl (cyJ, 60, .inr (.inl (fun _ => 0))))]) (w1 := [(n0, .inl (cyJ, 60, .inr (.inl g_5)))]) hP hD [5] [0, 1, 2, 3, 4, 6, 7, 8] rfl rfl (by decide) (by decide) hk1 hFc hP1 hD1
    generalize H1 = H at hP hS ⊢
    have hP : va_P (dC, dI) vwCl [(h0, .inr (7, [.ref sNum, .ref sLen, .ref sWid, .ref sMade])), (sMade, .inl (cyZ, 4, .inl f_1)), (sLen, .inl (cyI, 4, .inl f_3)), (sWid, .inl (cyI, 4, .inl f_2)), (sNum, .inl (cyN, 4, .inr (.inr (.inr (.inr nF))))), (n1, .inl (cyJ, 60, .inr (.inl (fun _ => 0)))), (n2, .inl (cyJ, 60, .inr (.inl (fun _ => 0)))), (n3, .inl (cyJ, 60, .inr (.inl (fun _ => 0)))), (n0, .inl (cyJ, 60, .inr (.inl g_5)))] H := hP
    have hD : va_D A [(h0, .inr (7, [.ref sNum, .ref sLen, .ref sWid, .ref sMade])), (sMade, .inl (cyZ, 4, .inl f_1)), (sLen, .inl (cyI, 4, .inl f_3)), (sWid, .inl (cyI, 4, .inl f_2)), (sNum, .inl (cyN, 4, .inr (.inr (.inr (.inr nF))))), (n1, .inl (cyJ, 60, .inr (.inl (fun _ => 0)))), (n2, .inl (cyJ, 60, .inr (.inl (fun _ => 0)))), (n3, .inl (cyJ, 60, .inr (.inl (fun _ => 0)))), (n0, .inl (cyJ, 60, .inr (.inl g_5)))] := hD
    exact W.vret hx hb hr (fun t ht hW => ⟨⟨(), rfl, trivial, trivial⟩, hS.F ht⟩) hS.2.2 dX8_make_31
  · obtain rfl : p0 = 1 := Int32.toInt_inj.mp c_4
    refine cv_aldA hx hb hK hP 4 5 rfl rfl (vp_in_iff.mpr (by decide)) dX8_make_26 ?_
    refine cv_topr (b := .ref n1) (by rw [show (1 : Int32).toNatClampNeg = 1 from rfl, g1]; rfl) ?_
    refine lv_lconst (v := 0) hx hb dX8_make_27 (by decide) ?_
    have hPc := hP.sub (ws' := [(n1, .inl (cyJ, 60, .inr (.inl (fun _ => 0))))]) [6] rfl
    have hKc := hK.sub (tys' := [(cyI, .int), (cyB, .byte), (cyJ, .long), (cyZ, .boolean), (cyH, .object RX2), (cyN, .array .long)]) [0, 1, 2, 3, 4, 5] rfl
    have hDc := hD.sub (ws' := [(n1, .inl (cyJ, 60, .inr (.inl (fun _ => 0))))]) [6] (by decide) rfl
    have hFc := va_free (wc := [(n1, .inl (cyJ, 60, .inr (.inl (fun _ => 0))))]) hD hS hA [6] rfl
    refine va_callv (va_runS (As := [.ref n1, .long 0]) (rest := []) ⟨hx, hb, hml, hown, hts⟩ (c_fillL l dC dI cyI cyB cyJ cyZ cyH cyN H.size n1 (fun _ => 0) 0) (va_cwS 2 hts (gdS wd_6_15 wd_5_139 wd_1_12 wd_5_140) rfl rfl rfl (by decide +kernel) ⟨Nat.le_of_ble_eq_true rfl, Nat.le_of_ble_eq_true rfl⟩) ⟨fun a U g mk q => by obtain ⟨q0, q1, qP, qK, qD⟩ := q; exact ⟨q0, q1, qP, va_K.moved (u := U) (U := U.calling g mk a) (Vm.Alike.refl U.vm) qK, qD⟩, fun U hU hW => ⟨rfl, by rw [hU], by rw [hU]; exact hPc, va_K.moved hW.alike hKc, hDc.weaken (fun _ _ _ _ => trivial)⟩⟩ rfl rfl hl.1 rfl (lv_room (Nat.le_of_ble_eq_true rfl)) dX8_make_28 ⟨Nat.le_of_ble_eq_true rfl, Nat.le_of_ble_eq_true rfl⟩) hS (fun q _ h => hFc q h) hFc (fun  u t H1 locs ht hvm hw hB hz1 hk1 hS => ?_)
    obtain ⟨g_6, hP1, hD1⟩ := hB
    rw [ht] at hP1
    obtain ⟨hP, hD⟩ := va_join (wr := [(h0, .inr (7, [.ref sNum, .ref sLen, .ref sWid, .ref sMade])), (sMade, .inl (cyZ, 4, .inl f_1)), (sLen, .inl (cyI, 4, .inl f_3)), (sWid, .inl (cyI, 4, .inl f_2)), (sNum, .inl (cyN, 4, .inr (.inr (.inr (.inr nF))))), (n0, .inl (cyJ, 60, .inr (.inl (fun _ => 0)))), (n2, .inl (cyJ, 60, .inr (.inl (fun _ => 0)))), (n3, .inl (cyJ, 60, .inr (.inl (fun _ => 0))))]) (w1 := [(n1, .inl (cyJ, 60, .inr (.inl g_6)))]) hP hD [6] [0, 1, 2, 3, 4, 5, 7, 8] rfl rfl (by decide) (by decide) hk1 hFc hP1 hD1
    generalize H1 = H at hP hS ⊢
    have hP : va_P (dC, dI) vwCl [(h0, .inr (7, [.ref sNum, .ref sLen, .ref sWid, .ref sMade])), (sMade, .inl (cyZ, 4, .inl f_1)), (sLen, .inl (cyI, 4, .inl f_3)), (sWid, .inl (cyI, 4, .inl f_2)), (sNum, .inl (cyN, 4, .inr (.inr (.inr (.inr nF))))), (n0, .inl (cyJ, 60, .inr (.inl (fun _ => 0)))), (n2, .inl (cyJ, 60, .inr (.inl (fun _ => 0)))), (n3, .inl (cyJ, 60, .inr (.inl (fun _ => 0)))), (n1, .inl (cyJ, 60, .inr (.inl g_6)))] H := hP
    have hD : va_D A [(h0, .inr (7, [.ref sNum, .ref sLen, .ref sWid, .ref sMade])), (sMade, .inl (cyZ, 4, .inl f_1)), (sLen, .inl (cyI, 4, .inl f_3)), (sWid, .inl (cyI, 4, .inl f_2)), (sNum, .inl (cyN, 4, .inr (.inr (.inr (.inr nF))))), (n0, .inl (cyJ, 60, .inr (.inl (fun _ => 0)))), (n2, .inl (cyJ, 60, .inr (.inl (fun _ => 0)))), (n3, .inl (cyJ, 60, .inr (.inl (fun _ => 0)))), (n1, .inl (cyJ, 60, .inr (.inl g_6)))] := hD
    exact W.vret hx hb hr (fun t ht hW => ⟨⟨(), rfl, trivial, trivial⟩, hS.F ht⟩) hS.2.2 dX8_make_31
  · obtain rfl : p0 = 2 := Int32.toInt_inj.mp c_4
    refine cv_aldA hx hb hK hP 4 5 rfl rfl (vp_in_iff.mpr (by decide)) dX8_make_26 ?_
    refine cv_topr (b := .ref n2) (by rw [show (2 : Int32).toNatClampNeg = 2 from rfl, g2]; rfl) ?_
    refine lv_lconst (v := 0) hx hb dX8_make_27 (by decide) ?_
    have hPc := hP.sub (ws' := [(n2, .inl (cyJ, 60, .inr (.inl (fun _ => 0))))]) [7] rfl
    have hKc := hK.sub (tys' := [(cyI, .int), (cyB, .byte), (cyJ, .long), (cyZ, .boolean), (cyH, .object RX2), (cyN, .array .long)]) [0, 1, 2, 3, 4, 5] rfl
    have hDc := hD.sub (ws' := [(n2, .inl (cyJ, 60, .inr (.inl (fun _ => 0))))]) [7] (by decide) rfl
    have hFc := va_free (wc := [(n2, .inl (cyJ, 60, .inr (.inl (fun _ => 0))))]) hD hS hA [7] rfl
    refine va_callv (va_runS (As := [.ref n2, .long 0]) (rest := []) ⟨hx, hb, hml, hown, hts⟩ (c_fillL l dC dI cyI cyB cyJ cyZ cyH cyN H.size n2 (fun _ => 0) 0) (va_cwS 2 hts (gdS wd_6_15 wd_5_139 wd_1_12 wd_5_140) rfl rfl rfl (by decide +kernel) ⟨Nat.le_of_ble_eq_true rfl, Nat.le_of_ble_eq_true rfl⟩) ⟨fun a U g mk q => by obtain ⟨q0, q1, qP, qK, qD⟩ := q; exact ⟨q0, q1, qP, va_K.moved (u := U) (U := U.calling g mk a) (Vm.Alike.refl U.vm) qK, qD⟩, fun U hU hW => ⟨rfl, by rw [hU], by rw [hU]; exact hPc, va_K.moved hW.alike hKc, hDc.weaken (fun _ _ _ _ => trivial)⟩⟩ rfl rfl hl.1 rfl (lv_room (Nat.le_of_ble_eq_true rfl)) dX8_make_28 ⟨Nat.le_of_ble_eq_true rfl, Nat.le_of_ble_eq_true rfl⟩) hS (fun q _ h => hFc q h) hFc (fun  u t H1 locs ht hvm hw hB hz1 hk1 hS => ?_)
    obtain ⟨g_7, hP1, hD1⟩ := hB
    rw [ht] at hP1
    obtain ⟨hP, hD⟩ := va_join (wr := [(h0, .inr (7, [.ref sNum, .ref sLen, .ref sWid, .ref sMade])), (sMade, .inl (cyZ, 4, .inl f_1)), (sLen, .inl (cyI, 4, .inl f_3)), (sWid, .inl (cyI, 4, .inl f_2)), (sNum, .inl (cyN, 4, .inr (.inr (.inr (.inr nF))))), (n0, .inl (cyJ, 60, .inr (.inl (fun _ => 0)))), (n1, .inl (cyJ, 60, .inr (.inl (fun _ => 0)))), (n3, .inl (cyJ, 60, .inr (.inl (fun _ => 0))))]) (w1 := [(n2, .inl (cyJ, 60, .inr (.inl g_7)))]) hP hD [7] [0, 1, 2, 3, 4, 5, 6, 8] rfl rfl (by decide) (by decide) hk1 hFc hP1 hD1
    generalize H1 = H at hP hS ⊢
    have hP : va_P (dC, dI) vwCl [(h0, .inr (7, [.ref sNum, .ref sLen, .ref sWid, .ref sMade])), (sMade, .inl (cyZ, 4, .inl f_1)), (sLen, .inl (cyI, 4, .inl f_3)), (sWid, .inl (cyI, 4, .inl f_2)), (sNum, .inl (cyN, 4, .inr (.inr (.inr (.inr nF))))), (n0, .inl (cyJ, 60, .inr (.inl (fun _ => 0)))), (n1, .inl (cyJ, 60, .inr (.inl (fun _ => 0)))), (n3, .inl (cyJ, 60, .inr (.inl (fun _ => 0)))), (n2, .inl (cyJ, 60, .inr (.inl g_7)))] H := hP
    have hD : va_D A [(h0, .inr (7, [.ref sNum, .ref sLen, .ref sWid, .ref sMade])), (sMade, .inl (cyZ, 4, .inl f_1)), (sLen, .inl (cyI, 4, .inl f_3)), (sWid, .inl (cyI, 4, .inl f_2)), (sNum, .inl (cyN, 4, .inr (.inr (.inr (.inr nF))))), (n0, .inl (cyJ, 60, .inr (.inl (fun _ => 0)))), (n1, .inl (cyJ, 60, .inr (.inl (fun _ => 0)))), (n3, .inl (cyJ, 60, .inr (.inl (fun _ => 0)))), (n2, .inl (cyJ, 60, .inr (.inl g_7)))] := hD
    exact W.vret hx hb hr (fun t ht hW => ⟨⟨(), rfl, trivial, trivial⟩, hS.F ht⟩) hS.2.2 dX8_make_31
  · obtain rfl : p0 = 3 := Int32.toInt_inj.mp c_4
    refine cv_aldA hx hb hK hP 4 5 rfl rfl (vp_in_iff.mpr (by decide)) dX8_make_26 ?_
    refine cv_topr (b := .ref n3) (by rw [show (3 : Int32).toNatClampNeg = 3 from rfl, g3]; rfl) ?_
    refine lv_lconst (v := 0) hx hb dX8_make_27 (by decide) ?_
    have hPc := hP.sub (ws' := [(n3, .inl (cyJ, 60, .inr (.inl (fun _ => 0))))]) [8] rfl
    have hKc := hK.sub (tys' := [(cyI, .int), (cyB, .byte), (cyJ, .long), (cyZ, .boolean), (cyH, .object RX2), (cyN, .array .long)]) [0, 1, 2, 3, 4, 5] rfl
    have hDc := hD.sub (ws' := [(n3, .inl (cyJ, 60, .inr (.inl (fun _ => 0))))]) [8] (by decide) rfl
    have hFc := va_free (wc := [(n3, .inl (cyJ, 60, .inr (.inl (fun _ => 0))))]) hD hS hA [8] rfl
    refine va_callv (va_runS (As := [.ref n3, .long 0]) (rest := []) ⟨hx, hb, hml, hown, hts⟩ (c_fillL l dC dI cyI cyB cyJ cyZ cyH cyN H.size n3 (fun _ => 0) 0) (va_cwS 2 hts (gdS wd_6_15 wd_5_139 wd_1_12 wd_5_140) rfl rfl rfl (by decide +kernel) ⟨Nat.le_of_ble_eq_true rfl, Nat.le_of_ble_eq_true rfl⟩) ⟨fun a U g mk q => by obtain ⟨q0, q1, qP, qK, qD⟩ := q; exact ⟨q0, q1, qP, va_K.moved (u := U) (U := U.calling g mk a) (Vm.Alike.refl U.vm) qK, qD⟩, fun U hU hW => ⟨rfl, by rw [hU], by rw [hU]; exact hPc, va_K.moved hW.alike hKc, hDc.weaken (fun _ _ _ _ => trivial)⟩⟩ rfl rfl hl.1 rfl (lv_room (Nat.le_of_ble_eq_true rfl)) dX8_make_28 ⟨Nat.le_of_ble_eq_true rfl, Nat.le_of_ble_eq_true rfl⟩) hS (fun q _ h => hFc q h) hFc (fun  u t H1 locs ht hvm hw hB hz1 hk1 hS => ?_)
    obtain ⟨g_8, hP1, hD1⟩ := hB
    rw [ht] at hP1
    obtain ⟨hP, hD⟩ := va_join (wr := [(h0, .inr (7, [.ref sNum, .ref sLen, .ref sWid, .ref sMade])), (sMade, .inl (cyZ, 4, .inl f_1)), (sLen, .inl (cyI, 4, .inl f_3)), (sWid, .inl (cyI, 4, .inl f_2)), (sNum, .inl (cyN, 4, .inr (.inr (.inr (.inr nF))))), (n0, .inl (cyJ, 60, .inr (.inl (fun _ => 0)))), (n1, .inl (cyJ, 60, .inr (.inl (fun _ => 0)))), (n2, .inl (cyJ, 60, .inr (.inl (fun _ => 0))))]) (w1 := [(n3, .inl (cyJ, 60, .inr (.inl g_8)))]) hP hD [8] [0, 1, 2, 3, 4, 5, 6, 7] rfl rfl (by decide) (by decide) hk1 hFc hP1 hD1
    generalize H1 = H at hP hS ⊢
    have hP : va_P (dC, dI) vwCl [(h0, .inr (7, [.ref sNum, .ref sLen, .ref sWid, .ref sMade])), (sMade, .inl (cyZ, 4, .inl f_1)), (sLen, .inl (cyI, 4, .inl f_3)), (sWid, .inl (cyI, 4, .inl f_2)), (sNum, .inl (cyN, 4, .inr (.inr (.inr (.inr nF))))), (n0, .inl (cyJ, 60, .inr (.inl (fun _ => 0)))), (n1, .inl (cyJ, 60, .inr (.inl (fun _ => 0)))), (n2, .inl (cyJ, 60, .inr (.inl (fun _ => 0)))), (n3, .inl (cyJ, 60, .inr (.inl g_8)))] H := hP
    have hD : va_D A [(h0, .inr (7, [.ref sNum, .ref sLen, .ref sWid, .ref sMade])), (sMade, .inl (cyZ, 4, .inl f_1)), (sLen, .inl (cyI, 4, .inl f_3)), (sWid, .inl (cyI, 4, .inl f_2)), (sNum, .inl (cyN, 4, .inr (.inr (.inr (.inr nF))))), (n0, .inl (cyJ, 60, .inr (.inl (fun _ => 0)))), (n1, .inl (cyJ, 60, .inr (.inl (fun _ => 0)))), (n2, .inl (cyJ, 60, .inr (.inl (fun _ => 0)))), (n3, .inl (cyJ, 60, .inr (.inl g_8)))] := hD
    exact W.vret hx hb hr (fun t ht hW => ⟨⟨(), rfl, trivial, trivial⟩, hS.F ht⟩) hS.2.2 dX8_make_31

/- X11_row -/
set_option maxHeartbeats 4000000 in
set_option maxRecDepth 100000 in
theorem c_row (l : Launch) (dC : Nat → ClassId) (dI : Nat → Nat → Nat) (cyI cyB cyJ cyZ cyH cyN : ClassId) (sz : Nat) (x xTape xHall xDraft xImages xKept xSlots xCourse xSight xParting xSuiting xGame xLots xTold xTried sNum sLen sWid sMade n0 n1 n2 n3 : Nat) (nF : Nat → Option Nat) (p0 p1 p2 : Int32) (g0 : nF 0 = some n0) (g1 : nF 1 = some n1) (g2 : nF 2 = some n2) (g3 : nF 3 = some n3) : Met l yX11_row (wk yX11_row cX11_row 4 (some .int)) ({ frames := 3, cells := 0, slots := 0, locals := 107 }) (va_Pc [.ref x, .int p0, .int p1, .int p2] (fun U => U.heap.size = sz ∧ va_P (dC, dI) vwCl [(x, .inr (10, [.ref xTape, .ref xHall, .ref xDraft, .ref xImages, .ref xKept, .ref xSlots, .ref xCourse, .ref xSight, .ref xParting, .ref xSuiting, .ref xGame, .ref xLots, .ref xTold, .ref xTried, .null])), (xSlots, .inr (7, [.ref sNum, .ref sLen, .ref sWid, .ref sMade])), (sMade, .inl (cyZ, 4, .inl (fun _ => 0))), (sLen, .inl (cyI, 4, .inl (fun _ => 0))), (sWid, .inl (cyI, 4, .inl (fun _ => 0))), (sNum, .inl (cyN, 4, .inr (.inr (.inr (.inr nF))))), (n0, .inl (cyJ, 60, .inr (.inl (fun _ => 0)))), (n1, .inl (cyJ, 60, .inr (.inl (fun _ => 0)))), (n2, .inl (cyJ, 60, .inr (.inl (fun _ => 0)))), (n3, .inl (cyJ, 60, .inr (.inl (fun _ => 0))))] U.heap ∧ va_K (dC, dI) vwCl [(cyI, .int), (cyB, .byte), (cyJ, .long), (cyZ, .boolean), (cyH, .object RX2), (cyN, .array .long)] U ∧ va_D (fun _ => True) [(x, .inr (10, [.ref xTape, .ref xHall, .ref xDraft, .ref xImages, .ref xKept, .ref xSlots, .ref xCourse, .ref xSight, .ref xParting, .ref xSuiting, .ref xGame, .ref xLots, .ref xTold, .ref xTried, .null])), (xSlots, .inr (7, [.ref sNum, .ref sLen, .ref sWid, .ref sMade])), (sMade, .inl (cyZ, 4, .inl (fun _ => 0))), (sLen, .inl (cyI, 4, .inl (fun _ => 0))), (sWid, .inl (cyI, 4, .inl (fun _ => 0))), (sNum, .inl (cyN, 4, .inr (.inr (.inr (.inr nF))))), (n0, .inl (cyJ, 60, .inr (.inl (fun _ => 0)))), (n1, .inl (cyJ, 60, .inr (.inl (fun _ => 0)))), (n2, .inl (cyJ, 60, .inr (.inl (fun _ => 0)))), (n3, .inl (cyJ, 60, .inr (.inl (fun _ => 0))))])) (va_Qi (fun (r : Int32) (_ : Unit) => r = (if ¬ ((0 ≤ p0.toInt ∧ p0.toInt < 4) ∧ (0 ≤ p1.toInt ∧ p1.toInt < 4) ∧ p2.toInt ≤ 60) then (-2) else if p2.toInt < 0 then (-3) else 0)) (fun (_ : Unit) (_ : State) => True) (va_A [(x, .inr (10, [.ref xTape, .ref xHall, .ref xDraft, .ref xImages, .ref xKept, .ref xSlots, .ref xCourse, .ref xSight, .ref xParting, .ref xSuiting, .ref xGame, .ref xLots, .ref xTold, .ref xTried, .null])), (xSlots, .inr (7, [.ref sNum, .ref sLen, .ref sWid, .ref sMade])), (sMade, .inl (cyZ, 4, .inl (fun _ => 0))), (sLen, .inl (cyI, 4, .inl (fun _ => 0))), (sWid, .inl (cyI, 4, .inl (fun _ => 0))), (sNum, .inl (cyN, 4, .inr (.inr (.inr (.inr nF))))), (n0, .inl (cyJ, 60, .inr (.inl (fun _ => 0)))), (n1, .inl (cyJ, 60, .inr (.inl (fun _ => 0)))), (n2, .inl (cyJ, 60, .inr (.inl (fun _ => 0)))), (n3, .inl (cyJ, 60, .inr (.inl (fun _ => 0))))] sz)) 0 0 (va_A [(x, .inr (10, [.ref xTape, .ref xHall, .ref xDraft, .ref xImages, .ref xKept, .ref xSlots, .ref xCourse, .ref xSight, .ref xParting, .ref xSuiting, .ref xGame, .ref xLots, .ref xTold, .ref xTried, .null])), (xSlots, .inr (7, [.ref sNum, .ref sLen, .ref sWid, .ref sMade])), (sMade, .inl (cyZ, 4, .inl (fun _ => 0))), (sLen, .inl (cyI, 4, .inl (fun _ => 0))), (sWid, .inl (cyI, 4, .inl (fun _ => 0))), (sNum, .inl (cyN, 4, .inr (.inr (.inr (.inr nF))))), (n0, .inl (cyJ, 60, .inr (.inl (fun _ => 0)))), (n1, .inl (cyJ, 60, .inr (.inl (fun _ => 0)))), (n2, .inl (cyJ, 60, .inr (.inl (fun _ => 0)))), (n3, .inl (cyJ, 60, .inr (.inl (fun _ => 0))))] sz) := by
  refine Met.ofW (cc := cX11_row) (maxL := 4) (ret := (some .int)) (by decide) rfl ?_
  intro p e s m args below meth c s₁ B hml hv
  obtain ⟨rfl, hsz, hP, hK, hD0⟩ := hv
  have hx := B.exec
  have hb := B.bytes
  have hr := B.returns
  have hts : ∀ w ∈ uU, w.before ([.ref x, .int p0, .int p1, .int p2] : List Value).toArray s = true := fun w h => atoms_spec (ws := wk yX11_row cX11_row 4 (some .int)) B.pre w (List.mem_cons_of_mem _ h)
  have hown : s.vm.findClass RX11 = some m.cls := findClass_of_methodNamed B.named
  have hlocks := B.notSynchronized
  subst hsz
  have hD := hD0.self (sz := s.heap.size)
  generalize hAe : va_A [(x, .inr (10, [.ref xTape, .ref xHall, .ref xDraft, .ref xImages, .ref xKept, .ref xSlots, .ref xCourse, .ref xSight, .ref xParting, .ref xSuiting, .ref xGame, .ref xLots, .ref xTold, .ref xTried, .null])), (xSlots, .inr (7, [.ref sNum, .ref sLen, .ref sWid, .ref sMade])), (sMade, .inl (cyZ, 4, .inl (fun _ => 0))), (sLen, .inl (cyI, 4, .inl (fun _ => 0))), (sWid, .inl (cyI, 4, .inl (fun _ => 0))), (sNum, .inl (cyN, 4, .inr (.inr (.inr (.inr nF))))), (n0, .inl (cyJ, 60, .inr (.inl (fun _ => 0)))), (n1, .inl (cyJ, 60, .inr (.inl (fun _ => 0)))), (n2, .inl (cyJ, 60, .inr (.inl (fun _ => 0)))), (n3, .inl (cyJ, 60, .inr (.inl (fun _ => 0))))] s.heap.size = A at hD ⊢
  have hA : ∀ q : Nat, s.heap.size ≤ q → A q := fun q h => by rw [← hAe]; exact Or.inr h
  have hS : va_S A s.heap s.heap [] := va_S.rf
  have hP : va_P (dC, dI) vwCl [(x, .inr (10, [.ref xTape, .ref xHall, .ref xDraft, .ref xImages, .ref xKept, .ref xSlots, .ref xCourse, .ref xSight, .ref xParting, .ref xSuiting, .ref xGame, .ref xLots, .ref xTold, .ref xTried, .null])), (xSlots, .inr (7, [.ref sNum, .ref sLen, .ref sWid, .ref sMade])), (sMade, .inl (cyZ, 4, .inl (fun _ => 0))), (sLen, .inl (cyI, 4, .inl (fun _ => 0))), (sWid, .inl (cyI, 4, .inl (fun _ => 0))), (sNum, .inl (cyN, 4, .inr (.inr (.inr (.inr nF))))), (n0, .inl (cyJ, 60, .inr (.inl (fun _ => 0)))), (n1, .inl (cyJ, 60, .inr (.inl (fun _ => 0)))), (n2, .inl (cyJ, 60, .inr (.inl (fun _ => 0)))), (n3, .inl (cyJ, 60, .inr (.inl (fun _ => 0))))] s.heap := hP
  have hl := lv_entry ([.ref x, .int p0, .int p1, .int p2]) (n := 4) (Nat.le_of_ble_eq_true rfl)
  rw [lg_entry_eq]
  generalize (lg_sl ([.ref x, .int p0, .int p1, .int p2]) ++ List.replicate (4 - (lg_sl ([.ref x, .int p0, .int p1, .int p2])).length) Slot.unset).toArray = ls at hl ⊢
  have hl : lv_has ls 4 [(0, .ref x), (1, .int p0), (2, .int p1), (3, .int p2)] := hl
  obtain ⟨H, hHe⟩ : ∃ H, H = s.heap := ⟨_, rfl⟩
  have hP : va_P (dC, dI) vwCl [(x, .inr (10, [.ref xTape, .ref xHall, .ref xDraft, .ref xImages, .ref xKept, .ref xSlots, .ref xCourse, .ref xSight, .ref xParting, .ref xSuiting, .ref xGame, .ref xLots, .ref xTold, .ref xTried, .null])), (xSlots, .inr (7, [.ref sNum, .ref sLen, .ref sWid, .ref sMade])), (sMade, .inl (cyZ, 4, .inl (fun _ => 0))), (sLen, .inl (cyI, 4, .inl (fun _ => 0))), (sWid, .inl (cyI, 4, .inl (fun _ => 0))), (sNum, .inl (cyN, 4, .inr (.inr (.inr (.inr nF))))), (n0, .inl (cyJ, 60, .inr (.inl (fun _ => 0)))), (n1, .inl (cyJ, 60, .inr (.inl (fun _ => 0)))), (n2, .inl (cyJ, 60, .inr (.inl (fun _ => 0)))), (n3, .inl (cyJ, 60, .inr (.inl (fun _ => 0))))] H := by rw [hHe]; exact hP
  have hS : va_S A s.heap H [] := by rw [hHe]; exact hS
  refine cv_heap hHe ?_
  refine lv_iload_n hx hb dX11_row_0 rfl (lv_at hl 1 rfl) ?_
  refine vp_callSi (va_Run.run (va_runS (As := [.int p0]) (rest := []) ⟨hx, hb, hml, hown, hts⟩ (c_isSlot l dC dI cyI cyB cyJ cyZ cyH cyN p0) (va_cwS 1 hts (gdS wd_4_33 wd_4_34 wd_1_4 wd_4_35) rfl rfl rfl (by decide +kernel) ⟨Nat.le_of_ble_eq_true rfl, Nat.le_of_ble_eq_true rfl⟩) ⟨fun a U g mk q => q, fun U hU hW => ⟨rfl, trivial⟩⟩ rfl rfl hl.1 rfl (lv_room (Nat.le_of_ble_eq_true rfl)) dX11_row_1 ⟨Nat.le_of_ble_eq_true rfl, Nat.le_of_ble_eq_true rfl⟩)) (fun r_1 hw => ?_)
  by_cases c_2 : (0 ≤ p0.toInt ∧ p0.toInt < 4)
  · rw [if_pos c_2] at hw; subst hw; have c_2 : (0 ≤ p0.toInt ∧ p0.toInt < 4) := c_2
    refine lv_if_eq (tgt := 20) hx hb dX11_row_4 (by decide) (fun c_3 => absurd c_3 (by decide)) (fun _ => ?_)
    refine lv_iload_n hx hb dX11_row_7 rfl (lv_at hl 2 rfl) ?_
    refine vp_callSi (va_Run.run (va_runS (As := [.int p1]) (rest := []) ⟨hx, hb, hml, hown, hts⟩ (c_isWidth l dC dI cyI cyB cyJ cyZ cyH cyN p1) (va_cwS 1 hts (gdS wd_6_8 wd_6_9 wd_1_4 wd_6_10) rfl rfl rfl (by decide +kernel) ⟨Nat.le_of_ble_eq_true rfl, Nat.le_of_ble_eq_true rfl⟩) ⟨fun a U g mk q => q, fun U hU hW => ⟨rfl, trivial⟩⟩ rfl rfl hl.1 rfl (lv_room (Nat.le_of_ble_eq_true rfl)) dX11_row_8 ⟨Nat.le_of_ble_eq_true rfl, Nat.le_of_ble_eq_true rfl⟩)) (fun r_4 hw => ?_)
    by_cases c_5 : (0 ≤ p1.toInt ∧ p1.toInt < 4)
    · rw [if_pos c_5] at hw; subst hw; have c_5 : (0 ≤ p1.toInt ∧ p1.toInt < 4) := c_5
      refine lv_if_eq (tgt := 20) hx hb dX11_row_11 (by decide) (fun c_6 => absurd c_6 (by decide)) (fun _ => ?_)
      refine lv_iload_n hx hb dX11_row_14 rfl (lv_at hl 3 rfl) ?_
      refine lv_bipush (v := 60) hx hb dX11_row_15 (by decide) ?_
      refine lv_icmp_le (tgt := 23) hx hb dX11_row_17 (by decide) (fun c_7 => ?_) (fun c_7 => ?_)
      · have c_7 : p2.toInt ≤ 60 := cv_le c_7
        refine lv_iload_n hx hb dX11_row_23 rfl (lv_at hl 3 rfl) ?_
        refine lv_if_ge (tgt := 30) hx hb dX11_row_24 (by decide) (fun c_8 => ?_) (fun c_8 => ?_)
        · have c_8 : 0 ≤ p2.toInt := cv_le c_8
          refine lv_aload_n hx hb dX11_row_30 rfl (lv_at hl 0 rfl) ?_
          refine va_get (D := (dC, dI)) (ci := 10) (v := .ref xSlots) (C := RX11) (T := TX11) (N := 15) hx hb hts uinX11 hown hK hP 0 rfl rfl 5 (by decide) (hts _ wd_2_70) (fun _ h9 => h9) rfl dX11_row_31 ?_
          refine lv_iload_n hx hb dX11_row_34 rfl (lv_at hl 1 rfl) ?_
          refine lv_iload_n hx hb dX11_row_35 rfl (lv_at hl 2 rfl) ?_
          refine lv_iload_n hx hb dX11_row_36 rfl (lv_at hl 3 rfl) ?_
          have hPc := hP.sub (ws' := [(xSlots, .inr (7, [.ref sNum, .ref sLen, .ref sWid, .ref sMade])), (sMade, .inl (cyZ, 4, .inl (fun _ => 0))), (sLen, .inl (cyI, 4, .inl (fun _ => 0))), (sWid, .inl (cyI, 4, .inl (fun _ => 0))), (sNum, .inl (cyN, 4, .inr (.inr (.inr (.inr nF))))), (n0, .inl (cyJ, 60, .inr (.inl (fun _ => 0)))), (n1, .inl (cyJ, 60, .inr (.inl (fun _ => 0)))), (n2, .inl (cyJ, 60, .inr (.inl (fun _ => 0)))), (n3, .inl (cyJ, 60, .inr (.inl (fun _ => 0))))]) [1, 2, 3, 4, 5, 6, 7, 8, 9] rfl
          have hKc := hK.sub (tys' := [(cyI, .int), (cyB, .byte), (cyJ, .long), (cyZ, .boolean), (cyH, .object RX2), (cyN, .array .long)]) [0, 1, 2, 3, 4, 5] rfl
          have hDc := hD.sub (ws' := [(xSlots, .inr (7, [.ref sNum, .ref sLen, .ref sWid, .ref sMade])), (sMade, .inl (cyZ, 4, .inl (fun _ => 0))), (sLen, .inl (cyI, 4, .inl (fun _ => 0))), (sWid, .inl (cyI, 4, .inl (fun _ => 0))), (sNum, .inl (cyN, 4, .inr (.inr (.inr (.inr nF))))), (n0, .inl (cyJ, 60, .inr (.inl (fun _ => 0)))), (n1, .inl (cyJ, 60, .inr (.inl (fun _ => 0)))), (n2, .inl (cyJ, 60, .inr (.inl (fun _ => 0)))), (n3, .inl (cyJ, 60, .inr (.inl (fun _ => 0))))]) [1, 2, 3, 4, 5, 6, 7, 8, 9] (by decide) rfl
          have hFc := va_free (wc := [(xSlots, .inr (7, [.ref sNum, .ref sLen, .ref sWid, .ref sMade])), (sMade, .inl (cyZ, 4, .inl (fun _ => 0))), (sLen, .inl (cyI, 4, .inl (fun _ => 0))), (sWid, .inl (cyI, 4, .inl (fun _ => 0))), (sNum, .inl (cyN, 4, .inr (.inr (.inr (.inr nF))))), (n0, .inl (cyJ, 60, .inr (.inl (fun _ => 0)))), (n1, .inl (cyJ, 60, .inr (.inl (fun _ => 0)))), (n2, .inl (cyJ, 60, .inr (.inl (fun _ => 0)))), (n3, .inl (cyJ, 60, .inr (.inl (fun _ => 0))))]) hD hS hA [1, 2, 3, 4, 5, 6, 7, 8, 9] rfl
          refine va_callv (va_runV (As := [.int p0, .int p1, .int p2]) (rest := []) ⟨hx, hb, hml, hown, hts⟩ (c_make l dC dI cyI cyB cyJ cyZ cyH cyN H.size xSlots sNum sLen sWid sMade n0 n1 n2 n3 nF p0 p1 p2 g0 g1 g2 g3 (by omega)) (cwV 3 hts (gdV wd_6_11 wd_6_12 wd_6_13 wd_1_4 wd_6_14) rfl rfl rfl (by decide +kernel) ⟨Nat.le_of_ble_eq_true rfl, Nat.le_of_ble_eq_true rfl⟩) ⟨fun a U g mk q => by obtain ⟨q0, q1, qP, qK, qD⟩ := q; exact ⟨q0, q1, qP, va_K.moved (u := U) (U := U.calling g mk a) (Vm.Alike.refl U.vm) qK, qD⟩, va_recv hKc hPc (ci := 7) (q0 := 0) rfl rfl, fun U hU hW => ⟨rfl, by rw [hU], by rw [hU]; exact hPc, va_K.moved hW.alike hKc, hDc.weaken (fun _ _ _ _ => trivial)⟩⟩ rfl rfl hl.1 rfl (lv_room (Nat.le_of_ble_eq_true rfl)) dX11_row_37 ⟨Nat.le_of_ble_eq_true rfl, Nat.le_of_ble_eq_true rfl⟩) hS (fun q _ h => hFc q h) hFc (fun  u t H1 locs ht hvm hw hB hz1 hk1 hS => ?_)
          have hP1 : va_P (dC, dI) vwCl [] H1 := fun k q h => by simp at h
          have hD1 : va_D (va_A [(xSlots, .inr (7, [.ref sNum, .ref sLen, .ref sWid, .ref sMade])), (sMade, .inl (cyZ, 4, .inl (fun _ => 0))), (sLen, .inl (cyI, 4, .inl (fun _ => 0))), (sWid, .inl (cyI, 4, .inl (fun _ => 0))), (sNum, .inl (cyN, 4, .inr (.inr (.inr (.inr nF))))), (n0, .inl (cyJ, 60, .inr (.inl (fun _ => 0)))), (n1, .inl (cyJ, 60, .inr (.inl (fun _ => 0)))), (n2, .inl (cyJ, 60, .inr (.inl (fun _ => 0)))), (n3, .inl (cyJ, 60, .inr (.inl (fun _ => 0))))] H.size) [] := ⟨fun i j p q h => by simp at h, fun k q h => by simp at h⟩
          obtain ⟨hP, hD⟩ := va_join (wr := [(x, .inr (10, [.ref xTape, .ref xHall, .ref xDraft, .ref xImages, .ref xKept, .ref xSlots, .ref xCourse, .ref xSight, .ref xParting, .ref xSuiting, .ref xGame, .ref xLots, .ref xTold, .ref xTried, .null]))]) (w1 := []) hP hD [1, 2, 3, 4, 5, 6, 7, 8, 9] [0] rfl rfl (by decide) (by decide) hk1 hFc hP1 hD1
          generalize H1 = H at hP hS ⊢
          have hP : va_P (dC, dI) vwCl [(x, .inr (10, [.ref xTape, .ref xHall, .ref xDraft, .ref xImages, .ref xKept, .ref xSlots, .ref xCourse, .ref xSight, .ref xParting, .ref xSuiting, .ref xGame, .ref xLots, .ref xTold, .ref xTried, .null]))] H := hP
          have hD : va_D A [(x, .inr (10, [.ref xTape, .ref xHall, .ref xDraft, .ref xImages, .ref xKept, .ref xSlots, .ref xCourse, .ref xSight, .ref xParting, .ref xSuiting, .ref xGame, .ref xLots, .ref xTold, .ref xTried, .null]))] := hD
          refine lv_iconst (v := 0) hx hb dX11_row_40 (by decide) ?_
          exact W.iret (v := 0) hx hb hr (fun t ht hW => ⟨⟨0, (), rfl, (by first | (rw [if_pos (by omega)]; done) | (rw [if_neg (by omega)]; done) | (rw [if_neg (by omega), if_pos (by omega)]; done) | (rw [if_neg (by omega), if_neg (by omega)]; done)), trivial⟩, hS.F ht⟩) hS.2.2 dX11_row_41
        · have c_8 : p2.toInt < 0 := cv_nle c_8
          refine lv_bipush (v := (-3)) hx hb dX11_row_27 (by decide) ?_
          exact W.iret (v := (-3)) hx hb hr (fun t ht hW => ⟨⟨(-3), (), rfl, (by first | (rw [if_pos (by omega)]; done) | (rw [if_neg (by omega)]; done) | (rw [if_neg (by omega), if_pos (by omega)]; done) | (rw [if_neg (by omega), if_neg (by omega)]; done)), trivial⟩, hS.F ht⟩) hS.2.2 dX11_row_29
      · have c_7 : 60 < p2.toInt := cv_nle c_7
        refine lv_bipush (v := (-2)) hx hb dX11_row_20 (by decide) ?_
        exact W.iret (v := (-2)) hx hb hr (fun t ht hW => ⟨⟨(-2), (), rfl, (by first | (rw [if_pos (by omega)]; done) | (rw [if_neg (by omega)]; done) | (rw [if_neg (by omega), if_pos (by omega)]; done) | (rw [if_neg (by omega), if_neg (by omega)]; done)), trivial⟩, hS.F ht⟩) hS.2.2 dX11_row_22
    · rw [if_neg c_5] at hw; subst hw; have c_5 : ¬ (0 ≤ p1.toInt ∧ p1.toInt < 4) := c_5
      refine lv_if_eq (tgt := 20) hx hb dX11_row_11 (by decide) (fun _ => ?_) (fun c_9 => absurd c_9 (by decide))
      refine lv_bipush (v := (-2)) hx hb dX11_row_20 (by decide) ?_
      exact W.iret (v := (-2)) hx hb hr (fun t ht hW => ⟨⟨(-2), (), rfl, (by first | (rw [if_pos (by omega)]; done) | (rw [if_neg (by omega)]; done) | (rw [if_neg (by omega), if_pos (by omega)]; done) | (rw [if_neg (by omega), if_neg (by omega)]; done)), trivial⟩, hS.F ht⟩) hS.2.2 dX11_row_22
  · rw [if_neg c_2] at hw; subst hw; have c_2 : ¬ (0 ≤ p0.toInt ∧ p0.toInt < 4) := c_2
    refine lv_if_eq (tgt := 20) hx hb dX11_row_4 (by decide) (fun _ => ?_) (fun c_10 => absurd c_10 (by decide))
    refine lv_bipush (v := (-2)) hx hb dX11_row_20 (by decide) ?_
    exact W.iret (v := (-2)) hx hb hr (fun t ht hW => ⟨⟨(-2), (), rfl, (by first | (rw [if_pos (by omega)]; done) | (rw [if_neg (by omega)]; done) | (rw [if_neg (by omega), if_pos (by omega)]; done) | (rw [if_neg (by omega), if_neg (by omega)]; done)), trivial⟩, hS.F ht⟩) hS.2.2 dX11_row_22

/-- the words of the text: hall places hang law with each from leap suit apart -/
def fxL : List Nat := [4, 6, 4, 3, 4, 4, 4, 4, 4, 5]
def fxB : List (List Int32) := [[104, 97, 108, 108], [112, 108, 97, 99, 101, 115], [104, 97, 110, 103], [108, 97, 119], [119, 105, 116, 104], [101, 97, 99, 104], [102, 114, 111, 109], [108, 101, 97, 112], [115, 117, 105, 116], [97, 112, 97, 114, 116]]
def fxF : List Int32 := [1, 1, 2, 6, 24, 120, 720, 5040]
theorem fx_len {si : Nat} (h : si < 10) : 3 ≤ (nI (fxL.getD si 0)).toInt ∧ (nI (fxL.getD si 0)).toInt ≤ 6 := (by decide : ∀ si, si < 10 → 3 ≤ (nI (fxL.getD si 0)).toInt ∧ (nI (fxL.getD si 0)).toInt ≤ 6) si h
theorem fx_lenN {si : Nat} (h : si < 10) : (nI (fxL.getD si 0)).toInt = (fxL.getD si 0 : Nat) := (by decide : ∀ si, si < 10 → (nI (fxL.getD si 0)).toInt = (fxL.getD si 0 : Nat)) si h
theorem fx_rr {i : Int32} (h0 : 0 ≤ i.toInt) (h : i.toInt < 7) : 0 ≤ (nI i.toNatClampNeg).toInt ∧ (nI i.toNatClampNeg).toInt ≤ 6 := by
  rw [nI_toInt (by have := cv_ix (n := 7) h0 h; omega)]
  have := cv_ix (n := 7) h0 h
  omega
theorem fx_ff {i : Int32} (h0 : 0 ≤ i.toInt) (h : i.toInt < 8) : 1 ≤ (fxF.getD i.toNatClampNeg 0).toInt ∧ (fxF.getD i.toNatClampNeg 0).toInt ≤ 5040 := (by decide : ∀ j, j < 8 → 1 ≤ (fxF.getD j 0).toInt ∧ (fxF.getD j 0).toInt ≤ 5040) _ (cv_ix h0 h)
theorem fx_shr0 {si : Nat} (h : si < 10) : nI (fxL.getD si 0) >>> ((0 : Int32) &&& 31) = nI (fxL.getD si 0) := (by decide : ∀ si, si < 10 → nI (fxL.getD si 0) >>> ((0 : Int32) &&& 31) = nI (fxL.getD si 0)) si h
/-- the words of the tables that a call doesn't keep by itself, and what lies at the start outside of all that is written -/
def cv_FX (tR tF : Nat) (aK aV : Nat → Nat) (A : Nat → Prop) (U : State) (H : Heap) : Prop :=
  va_Z "SwapTrophies" "RIGHT_ROW" "[I" (.ref tR) A U H ∧ va_T .int tR 7 (fun j => .int (nI j)) A U H ∧
  va_Z "SwapTrophies" "FACTORIALS" "[I" (.ref tF) A U H ∧ va_T .int tF 8 (fun j => .int (fxF.getD j 0)) A U H ∧
  va_Nw (.fieldLinkNest "SwapTrophies$Course" 50 "SwapTrophies" "RIGHT_ROW" "[I" "SwapTrophies") U ∧
  va_Nw (.fieldLinkNest "SwapTrophies$Sight" 70 "SwapTrophies" "FACTORIALS" "[I" "SwapTrophies") U ∧
  va_Z "java/lang/String" "COMPACT_STRINGS" "Z" (.int 1) A U H ∧
  va_Zq "jdk/internal/util/Preconditions" "SIOOBE_FORMATTER" "Ljava/util/function/BiFunction;" A U H ∧
  vk_S 10 fxL fxB aK aV A U H ∧
  vk_R "SwapTrophies$Tape" 102 "hall" (aK 0) U ∧ vk_R "SwapTrophies$Tape" 107 "places" (aK 1) U ∧ vk_R "SwapTrophies$Tape" 65 "hang" (aK 2) U ∧ vk_R "SwapTrophies$Tape" 74 "law" (aK 3) U ∧ vk_R "SwapTrophies$Tape" 132 "with" (aK 4) U ∧ vk_R "SwapTrophies$Tape" 137 "each" (aK 5) U ∧ vk_R "SwapTrophies$Tape" 142 "from" (aK 6) U ∧ vk_R "SwapTrophies$Tape" 79 "leap" (aK 7) U ∧ vk_R "SwapTrophies$Tape" 84 "suit" (aK 8) U ∧ vk_R "SwapTrophies$Tape" 89 "apart" (aK 9) U
theorem cv_FX.go {tR tF : Nat} {aK aV : Nat → Nat} {A B : Nat → Prop} {s U : State} {H : Heap} {locs : List Loc} (h : cv_FX tR tF aK aV A s s.heap) (hW : s.WarmedH U.vm) (hS : va_S A s.heap H locs) (hAB : ∀ q, B q → A q) (hU : U.heap = H) : cv_FX tR tF aK aV B U U.heap := by
  obtain ⟨h1, h2, h3, h4, h5, h6, h7, h8, h9, k0, k1, k2, k3, k4, k5, k6, k7, k8, k9⟩ := h
  rw [hU]
  exact ⟨va_Z.moved hW.alike ((h1.kept hS.2.1).narrow hAB), va_T.moved hW.alike ((h2.kept hS.2.1).narrow hAB), va_Z.moved hW.alike ((h3.kept hS.2.1).narrow hAB), va_T.moved hW.alike ((h4.kept hS.2.1).narrow hAB),
    va_Nw.warmF hW h5, va_Nw.warmF hW h6, va_Z.moved hW.alike ((h7.kept hS.2.1).narrow hAB), va_Zq.moved hW.alike ((h8.kept hS.2.1).narrow hAB), vk_S.moved hW.alike ((h9.kept hS.2.1).narrow hAB),
    k0.warm hW, k1.warm hW, k2.warm hW, k3.warm hW, k4.warm hW, k5.warm hW, k6.warm hW, k7.warm hW, k8.warm hW, k9.warm hW⟩
theorem cv_FX.same {tR tF : Nat} {aK aV : Nat → Nat} {A : Nat → Prop} {s U : State} (h : cv_FX tR tF aK aV A s s.heap) (hv : U.vm = s.vm) (hU : U.heap = s.heap) : cv_FX tR tF aK aV A U U.heap := by
  obtain ⟨h1, h2, h3, h4, h5, h6, h7, h8, h9, k0, k1, k2, k3, k4, k5, k6, k7, k8, k9⟩ := h
  have ha : s.vm.Alike U.vm := by rw [hv]; exact Vm.Alike.refl _
  rw [hU]
  exact ⟨va_Z.moved ha h1, va_T.moved ha h2, va_Z.moved ha h3, va_T.moved ha h4, va_Nw.same rfl hv.symm h5, va_Nw.same rfl hv.symm h6, va_Z.moved ha h7, va_Zq.moved ha h8, vk_S.moved ha h9,
    k0.same hv, k1.same hv, k2.same hv, k3.same hv, k4.same hv, k5.same hv, k6.same hv, k7.same hv, k8.same hv, k9.same hv⟩
section CVT
variable {p : Program} {l : Launch} {e : Env} {R : Room} {s : State} {m : MethodId} {args : Array Value} {below : List Frame} {meth : Method} {c : Code} {H : Heap} {locs : List Loc} {cells slots : Nat} {Q : State → Prop}
variable {cc : ByteArray} {pc : Nat} {ls : Array Slot} {rest : List Value} {D : va_G} {cl : List vw_C} {A : Nat → Prop} {a : Nat} {tys : List (ClassId × FieldType)} {ws : va_W}
/-- arraycopy out of a table of ints that nobody writes, from its first number on -/
theorem cv_copyT (hexec : p.tables.exec = Jvm.exec) (hb : c.code = cc) (hml : c.maxLocals = ls.size) {own : String} {index : Nat} (hown : s.vm.findClass own = some m.cls) (hlink : (Cond.methodLink own index arraycopyName).before args s = true) (hnat : (Cond.native arraycopyName).before args s = true) (hstat : (Cond.static arraycopyName).before args s = true) (hini : (Cond.initialized "java/lang/System").before args s = true)
    (hK : va_K D cl tys s) (hP : va_P D cl ws H) (hD : va_D A ws) (hS : va_S A s.heap H locs) {b0 n0 : Nat} {f : Nat → Int32} (hX : va_T .int b0 n0 (fun j => .int (f j)) A s s.heap) (q1 t1 : Nat) {c1 : ClassId} {n1 : Nat} {g : Nat → Int32} (ha1 : ws[q1]? = some (a, .inl (c1, n1, .inl g))) (ht1 : tys[t1]? = some (c1, .int))
    {n : Int32} {k : Nat} (hn : n.toNatClampNeg = k) (h3 : ¬ n < 0) (h4 : k ≤ n0) (h5 : k ≤ n1)
    (hframes : 1 ≤ R.frames) (hlocals : (rest.map fun v => v.category).sum + (nativeFrameWords "java/lang/System" "arraycopy" 5 + 11) ≤ R.locals) (hdg : decode cc pc = .ok (.invokestatic index, 3))
    (kk : ∀ (H1 : Heap) (locs1 : List Loc), va_P D cl (ws.set q1 (a, .inl (c1, n1, .inl (va_cpy f g 0 0 k)))) H1 → va_D A (ws.set q1 (a, .inl (c1, n1, .inl (va_cpy f g 0 0 k)))) → va_S A s.heap H1 locs1 → W p l e R s m args below meth c H1 locs1 cells slots Q (F0 m (pc + 3) ls rest)) : W p l e R s m args below meth c H locs cells slots Q (F0 m pc ls (.int n :: .int 0 :: .ref a :: .int 0 :: .ref b0 :: rest)) := by
  subst hn
  have z0 : (0 : Int32).toNatClampNeg = 0 := rfl
  have hn' : n.toInt = (n.toNatClampNeg : Int) := by
    have q := cv_nlt h3
    have z : (0 : Int32).toInt = 0 := rfl
    show n.toInt = ((n.toInt.toNat : Nat) : Int)
    omega
  have z1 : (0 : Int32).toInt = 0 := rfl
  intro T hT X
  obtain ⟨scr, s1, s2, s3, s4, -, s5, s7⟩ := hX
  have c0 : H[b0]? = some scr := (hS.2.1 b0 (Array.getElem?_eq_some_iff.mp s1).1 s7).trans s1
  have c9 : H[a]? = some (vp_cell c1 (n1, .inl g)) := hP q1 _ ha1
  obtain ⟨s6, k0, hk0, cm0, hkk0⟩ := s2
  obtain ⟨-, k1, hk1, cm1, hkk1⟩ := (hK.2 t1 _ ht1).1 n1 (fun j => .int (g j))
  have sz : (vp_cell c1 (n1, .inl g)).slots.size = n1 := arrV_size _ _ _
  obtain ⟨vm', X', step⟩ := X.arraycopy hexec hown hlink hnat hstat hini (src := b0) (dst := a) (cs := scr) (cd := vp_cell c1 (n1, .inl g)) (srcPos := 0) (destPos := 0) (n := n) (hT ▸ c0) (hT ▸ c9)
    s6 (fun _ h => nomatch h) s3 (fun h => nomatch h) hk0 hk1 hkk0 hkk1 (by simp [refKind]) (by decide) (by decide) h3
    (by rw [z1, hn']; omega) (by rw [z1, hn', sz]; omega)
    (fun _ _ i hi => by
      have q : scr.slots.getD ((0 : Int32).toNatClampNeg + i) .null = .int (f ((0 : Int32).toNatClampNeg + i)) := by
        rw [Array.getD_eq_getD_getElem?, s5 _ (by rw [z0]; omega)]; rfl
      rw [q]
      exact ⟨rfl, trivial⟩)
    (g := F0 m pc ls (.int n :: .int 0 :: .ref a :: .int 0 :: .ref b0 :: rest)) rfl hml.symm (rest := rest) rfl (hb ▸ hdg) hframes (by show 2 * 0 + _ + _ ≤ _; omega)
  have e1 : copied scr (vp_cell c1 (n1, .inl g)) 0 0 n = vp_cell c1 (n1, .inl (va_cpy f g 0 0 n.toNatClampNeg)) := va_copiedX (fun z => .int z) scr c1 f g s5 (by rw [z0]; omega)
  rw [e1] at X' step
  have hl : a < H.size := (Array.getElem?_eq_some_iff.mp c9).1
  have oq : ∀ q : Nat, q ≠ a → (H.setIfInBounds a (vp_cell c1 (n1, .inl (va_cpy f g 0 0 n.toNatClampNeg))))[q]? = H[q]? := fun q hq => by simp [Array.getElem?_setIfInBounds, Ne.symm hq]
  have hp : va_P D cl (ws.set q1 (a, .inl (c1, n1, .inl (va_cpy f g 0 0 n.toNatClampNeg)))) (H.setIfInBounds a (vp_cell c1 (n1, .inl (va_cpy f g 0 0 n.toNatClampNeg)))) := hP.set hD ha1 (show (H.setIfInBounds a (vp_cell c1 (n1, .inl (va_cpy f g 0 0 n.toNatClampNeg))))[a]? = some (vp_cell c1 (n1, .inl (va_cpy f g 0 0 n.toNatClampNeg))) by simp [Array.getElem?_setIfInBounds, hl]) oq
  obtain ⟨t, a1, b1⟩ := kk _ _ hp (hD.set ha1) ⟨by simp; exact hS.1, fun q g1 g2 => (oq q (fun e => g2 (e ▸ hD.2 q1 _ ha1))).trans (hS.2.1 q g1 g2), fun q hq => by
      rcases List.mem_append.mp hq with h | h
      · exact hS.2.2 q h
      · obtain ⟨z, -, hz⟩ := List.mem_map.mp h
        rw [← hz]
        exact hD.2 q1 _ ha1⟩ _ (show ((T.setVm vm').setCell a _).heap = _ by rw [← hT]; rfl) X'
  exact ⟨t, step t a1, b1⟩
end CVT
theorem rg_rr {n0 : Nat} {g : Nat → Int32} : rg 0 6 7 (va_cpy (fun j => nI j) g 0 0 7) := by
  intro j hj
  unfold va_cpy
  rw [if_pos (by omega), nI_toInt (by omega)]
  omega
theorem cv_nc {x : Int32} : narrow .char (.int ((x &&& 255).toUInt32 % 65536).toInt32) = .int ((x &&& 255).toUInt32 % 65536).toInt32 := by rw [sc_c2]; exact sc_nar _

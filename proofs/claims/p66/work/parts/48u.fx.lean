/-! what the statement gives of the start -/
theorem wl_0 : (Jvm.Cond.laysStatic "SwapTrophies" "RIGHT_ROW" "[I") ∈ lw_tbl := List.mem_append_right _ (List.mem_of_getElem? (i := 593) (by decide +kernel))
theorem wl_1 : (Jvm.Cond.laysStatic "SwapTrophies" "FACTORIALS" "[I") ∈ lw_tbl := List.mem_append_right _ (List.mem_of_getElem? (i := 920) (by decide +kernel))
theorem wl_2 : (Jvm.Cond.laysStatic "java/lang/String" "COMPACT_STRINGS" "Z") ∈ lw_tbl := List.mem_append_right _ (List.mem_of_getElem? (i := 425) (by decide +kernel))
theorem wl_3 : (Jvm.Cond.laysStatic "jdk/internal/util/Preconditions" "SIOOBE_FORMATTER" "Ljava/util/function/BiFunction;") ∈ lw_tbl := List.mem_append_right _ (List.mem_of_getElem? (i := 441) (by decide +kernel))
def tmS (i : Nat) : Term := .string "SwapTrophies$Tape" (([102, 107, 65, 74, 132, 137, 142, 79, 84, 89] : List Nat).getD i 0)
abbrev nFl : List Cond := flatC (Jvm.Cond.and given_1 narrow_1)
theorem fx_m1 : ∀ i, i < 10 → Cond.exactly (tmS i) "java/lang/String" ∈ nFl := by decide +kernel
theorem fx_m2 : ∀ i, i < 10 → Cond.eq (.field (tmS i) "java/lang/String" "coder" "B") (.int 0) ∈ nFl := by decide +kernel
theorem fx_m3 : ∀ i, i < 10 → Cond.arrayOf (.field (tmS i) "java/lang/String" "value" "[B") .byte ∈ nFl := by decide +kernel
theorem fx_m4 : ∀ i, i < 10 → Cond.eq (.length (.field (tmS i) "java/lang/String" "value" "[B")) (.int (Int32.ofNat (fxL.getD i 0))) ∈ nFl := by decide +kernel
theorem fx_m5 : ∀ i, i < 10 → ∀ j, j < fxL.getD i 0 → Cond.eq (.elem (.field (tmS i) "java/lang/String" "value" "[B") (.int (Int32.ofNat j))) (.int ((fxB.getD i []).getD j 0)) ∈ nFl := by decide +kernel
theorem fx_m6 : ∀ i, i < 10 → ∀ j, j < 10 → i ≠ j → (Cond.not (Cond.eq (tmS i) (tmS j)) ∈ nFl ∨ Cond.not (Cond.eq (tmS j) (tmS i)) ∈ nFl) := by decide +kernel
theorem fx_m7 : ∀ j, j < 7 → Cond.eq (.elem (.static "SwapTrophies" "RIGHT_ROW" "[I") (.int (Int32.ofNat j))) (.int (nI j)) ∈ nFl := by decide +kernel
theorem fx_m8 : ∀ j, j < 8 → Cond.eq (.elem (.static "SwapTrophies" "FACTORIALS" "[I") (.int (Int32.ofNat j))) (.int (fxF.getD j 0)) ∈ nFl := by decide +kernel
theorem fx_m9 : Cond.arrayOf (.static "SwapTrophies" "RIGHT_ROW" "[I") .int ∈ nFl ∧ Cond.eq (.length (.static "SwapTrophies" "RIGHT_ROW" "[I")) (.int 7) ∈ nFl ∧ Cond.arrayOf (.static "SwapTrophies" "FACTORIALS" "[I") .int ∈ nFl ∧ Cond.eq (.length (.static "SwapTrophies" "FACTORIALS" "[I")) (.int 8) ∈ nFl ∧ Cond.eq (.static "java/lang/String" "COMPACT_STRINGS" "Z") (.int 1) ∈ nFl ∧ Cond.isRef (.static "jdk/internal/util/Preconditions" "SIOOBE_FORMATTER" "Ljava/util/function/BiFunction;") ∈ nFl := by decide +kernel
theorem fx_len31 : ∀ i, i < 10 → fxL.getD i 0 < 2 ^ 31 := by decide
set_option maxHeartbeats 4000000 in
theorem fx_start {s : State} {b : Nat} (hts0 : ∀ w ∈ lw_tbl, w.before #[Value.ref b] s = true) (hgv : (Jvm.Cond.and given_1 narrow_1).before #[Value.ref b] s = true) : ∃ (tR tF : Nat) (aK aV : Nat → Nat), cv_FX tR tF aK aV (fun q : Nat => s.heap.size ≤ q) s s.heap := by
  have hs := flat_of_before _ hgv
  have hts : ∀ w ∈ uU, w.before #[Value.ref b] s = true := fun w h => hts0 w (uU_in h)
  have hA : ∀ a : Nat, a < s.heap.size → ¬ (fun q : Nat => s.heap.size ≤ q) a := fun a h h2 => absurd h2 (Nat.not_le.mpr h)
  obtain ⟨m1, m2, m3, m4, m5, m6⟩ := fx_m9
  obtain ⟨tR, r1, r2⟩ := va_Tof (tm := (.static "SwapTrophies" "RIGHT_ROW" "[I")) (ty := .int) (N := 7) (f := fun j => .int (nI j)) (A := fun q : Nat => s.heap.size ≤ q) (by decide) (hs _ m1) (va_eqt (hs _ m2)) (fun j hj => va_eqt (hs _ (fx_m7 j hj))) hA
  obtain ⟨tF, f1, f2⟩ := va_Tof (tm := (.static "SwapTrophies" "FACTORIALS" "[I")) (ty := .int) (N := 8) (f := fun j => .int (fxF.getD j 0)) (A := fun q : Nat => s.heap.size ≤ q) (by decide) (hs _ m3) (va_eqt (hs _ m4)) (fun j hj => va_eqt (hs _ (fx_m8 j hj))) hA
  obtain ⟨aK, aV, k1, k2⟩ := vk_Sof (N := 10) (tm := tmS) (len := fxL) (byt := fxB) (A := fun q : Nat => s.heap.size ≤ q) fx_len31 (fun i hi => hs _ (fx_m1 i hi)) (fun i hi => hs _ (fx_m2 i hi)) (fun i hi => hs _ (fx_m3 i hi)) (fun i hi => hs _ (fx_m4 i hi)) (fun i hi j hj => hs _ (fx_m5 i hi j hj)) (fun i j hi hj hij => (fx_m6 i hi j hj hij).imp (hs _) (hs _)) hA
  refine ⟨tR, tF, aK, aV, va_Zof (hts0 _ wl_0) (hts _ wd_1_1) r1 hA, r2, va_Zof (hts0 _ wl_1) (hts _ wd_1_1) f1 hA, f2, va_Nw.of rfl (hts0 _ wn_3_112), va_Nw.of rfl (hts0 _ wn_4_199), va_Zof (hts0 _ wl_2) (hts _ wd_1_14) (va_eqi (hs _ m5)) hA, va_Zqof (hts0 _ wl_3) (hts _ wd_1_16) (hs _ m6) hA, k1, vk_R.of (hts0 _ wn_2_167) (k2 0 (by decide)), vk_R.of (hts0 _ wn_2_228) (k2 1 (by decide)), vk_R.of (hts0 _ wn_2_237) (k2 2 (by decide)), vk_R.of (hts0 _ wn_3_2) (k2 3 (by decide)), vk_R.of (hts0 _ wn_3_7) (k2 4 (by decide)), vk_R.of (hts0 _ wn_3_8) (k2 5 (by decide)), vk_R.of (hts0 _ wn_3_9) (k2 6 (by decide)), vk_R.of (hts0 _ wn_3_10) (k2 7 (by decide)), vk_R.of (hts0 _ wn_3_15) (k2 8 (by decide)), vk_R.of (hts0 _ wn_3_24) (k2 9 (by decide))⟩
/-- a row of references whose class the tables have -/
theorem cv_tyO {s : State} {C : String} (h : va_AO C s) : ∃ cA : ClassId, ArrOfT s cA (.object C) ∧ va_RA s cA (.object C) := by
  obtain ⟨comp, cA, kA, h1, -, h3, h4, h5⟩ := Cond.arrayOver_spec h
  exact ⟨cA, fun n z => ⟨fun k h => (by cases h), kA, h3, comp, h4⟩, kA, comp, h3, h4, h1, h5⟩
/-- rows of rows of longs -/
theorem cv_overA {s : State} {av : Array Value} (h : (Cond.arrayOver (.array .long)).before av s = true) {cJ : ClassId} (hJ : va_RA s cJ .long) (hJ2 : ArrOfT s cJ .long) : ∃ cN : ClassId, (ArrOfT s cN (.array .long) ∧ va_RA s cN (.array .long)) ∧ cv_NN cN cJ s := by
  obtain ⟨-, kJ, hkJ, cc, hkindJ⟩ := hJ2 0 (fun _ => .null)
  unfold Cond.before at h
  simp only [Cond.holds, Cond.value, beq_iff_eq] at h
  have hf : s.vm.findClass (FieldType.array .long).toString = some cJ := hJ
  rw [hf] at h
  simp only [Option.bind_some, Option.bind_eq_some_iff, Option.map_eq_some_iff] at h
  obtain ⟨cN, hi, kN, hkN, hb⟩ := h
  obtain ⟨hlt, hp, -⟩ := Array.findIdx?_eq_some_iff_getElem.mp hi
  have hkk : s.vm.classes[cN] = kN := (Array.getElem?_eq_some_iff.mp hkN).2
  rw [hkk] at hp
  cases hkind : kN.kind with
  | array component ty =>
    rw [hkind] at hb hp
    simp at hb hp
    have e1 : kN.kind = .array cJ (.array .long) := by rw [hkind, hp, hb.1]
    exact ⟨cN, ⟨fun n z => ⟨fun k h => (by cases h), kN, hkN, cJ, e1⟩, hb.2⟩, kN, kJ, cc, hkN, e1, hb.2, hkJ, hkindJ⟩
  | _ => rw [hkind] at hb; simp at hb

/-- rows of rows of bytes -/
theorem cv_overB {s : State} {av : Array Value} (h : (Cond.arrayOver (.array .byte)).before av s = true) {cJ : ClassId} (hJ : va_RA s cJ .byte) (hJ2 : ArrOfT s cJ .byte) : ∃ cN : ClassId, (ArrOfT s cN (.array .byte) ∧ va_RA s cN (.array .byte)) ∧ cv_NB cN cJ s := by
  obtain ⟨-, kJ, hkJ, cc, hkindJ⟩ := hJ2 0 (fun _ => .null)
  unfold Cond.before at h
  simp only [Cond.holds, Cond.value, beq_iff_eq] at h
  have hf : s.vm.findClass (FieldType.array .byte).toString = some cJ := hJ
  rw [hf] at h
  simp only [Option.bind_some, Option.bind_eq_some_iff, Option.map_eq_some_iff] at h
  obtain ⟨cN, hi, kN, hkN, hb⟩ := h
  obtain ⟨hlt, hp, -⟩ := Array.findIdx?_eq_some_iff_getElem.mp hi
  have hkk : s.vm.classes[cN] = kN := (Array.getElem?_eq_some_iff.mp hkN).2
  rw [hkk] at hp
  cases hkind : kN.kind with
  | array component ty =>
    rw [hkind] at hb hp
    simp at hb hp
    have e1 : kN.kind = .array cJ (.array .byte) := by rw [hkind, hp, hb.1]
    exact ⟨cN, ⟨fun n z => ⟨fun k h => (by cases h), kN, hkN, cJ, e1⟩, hb.2⟩, kN, kJ, cc, hkN, e1, hb.2, hkJ, hkindJ⟩
  | _ => rw [hkind] at hb; simp at hb


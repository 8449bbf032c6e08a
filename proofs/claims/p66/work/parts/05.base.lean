section CV
variable {p : Program} {l : Launch} {e : Env} {R : Room} {s : State} {m : MethodId} {args : Array Value} {below : List Frame} {meth : Method} {c : Code} {H : Heap} {locs : List Loc} {cells slots : Nat} {Q : State → Prop}
variable {cc : ByteArray} {pc : Nat} {ls : Array Slot} {rest : List Value} {D : va_G} {cl : List vw_C} {A : Nat → Prop} {a : Nat} {tys : List (ClassId × FieldType)} {ws : va_W} {H0 : Heap}
theorem cv_heap {H2 : Heap} {g : JFrame} (h : H2 = H) (k : W p l e R s m args below meth c H2 locs cells slots Q g) : W p l e R s m args below meth c H locs cells slots Q g := h ▸ k
theorem cv_topi {x b : Int32} (h : x = b) (k : W p l e R s m args below meth c H locs cells slots Q (F0 m pc ls (.int b :: rest))) : W p l e R s m args below meth c H locs cells slots Q (F0 m pc ls (.int x :: rest)) := h ▸ k
theorem cv_topl {x b : Int64} (h : x = b) (k : W p l e R s m args below meth c H locs cells slots Q (F0 m pc ls (.long b :: rest))) : W p l e R s m args below meth c H locs cells slots Q (F0 m pc ls (.long x :: rest)) := h ▸ k
theorem cv_topr {x b : Value} (h : x = b) (k : W p l e R s m args below meth c H locs cells slots Q (F0 m pc ls (b :: rest))) : W p l e R s m args below meth c H locs cells slots Q (F0 m pc ls (x :: rest)) := h ▸ k
theorem cv_lt {x y : Int32} (h : x < y) : x.toInt < y.toInt := Int32.lt_iff_toInt_lt.mp h
theorem cv_nlt {x y : Int32} (h : ¬ x < y) : y.toInt ≤ x.toInt := by
  rw [Int32.lt_iff_toInt_lt] at h; omega
theorem cv_le {x y : Int32} (h : x ≤ y) : x.toInt ≤ y.toInt := Int32.le_iff_toInt_le.mp h
theorem cv_nle {x y : Int32} (h : ¬ x ≤ y) : y.toInt < x.toInt := by
  rw [Int32.le_iff_toInt_le] at h; omega
theorem cv_eq {x y : Int32} (h : x = y) : x.toInt = y.toInt := by rw [h]
theorem cv_ne {x y : Int32} (h : ¬ x = y) : x.toInt ≠ y.toInt := fun q => h (Int32.toInt_inj.mp q)
theorem cv_cgt {x y : Int64} (h : (0 : Int32) < lg_cmp x y) : y.toInt < x.toInt := by
  unfold lg_cmp at h
  split at h
  · rename_i g; exact Int64.lt_iff_toInt_lt.mp g
  · split at h
    · exact absurd h (by decide)
    · exact absurd h (by decide)
theorem cv_clt {x y : Int64} (h : lg_cmp x y < (0 : Int32)) : x.toInt < y.toInt := by
  unfold lg_cmp at h
  split at h
  · exact absurd h (by decide)
  · rename_i g
    split at h
    · exact absurd h (by decide)
    · rename_i g2
      rw [gt_iff_lt, Int64.lt_iff_toInt_lt] at g
      have g3 : x.toInt ≠ y.toInt := fun q => g2 (Int64.toInt_inj.mp q)
      omega
theorem cv_cnlt {x y : Int64} (h : ¬ lg_cmp x y < (0 : Int32)) : y.toInt ≤ x.toInt := by
  unfold lg_cmp at h
  split at h
  · rename_i g; have := Int64.lt_iff_toInt_lt.mp g; omega
  · split at h
    · rename_i g2; rw [g2]; exact Int.le_refl _
    · exact absurd (by decide) h
theorem cv_cngt {x y : Int64} (h : ¬ (0 : Int32) < lg_cmp x y) : x.toInt ≤ y.toInt := by
  unfold lg_cmp at h
  split at h
  · exact absurd (by decide) h
  · rename_i g
    rw [gt_iff_lt, Int64.lt_iff_toInt_lt] at g
    omega
theorem cv_cle {x y : Int64} (h : lg_cmp x y ≤ (0 : Int32)) : x.toInt ≤ y.toInt := cv_cngt (fun q => by
  rw [Int32.le_iff_toInt_le] at h; rw [Int32.lt_iff_toInt_lt] at q; omega)
theorem cv_cnle {x y : Int64} (h : ¬ lg_cmp x y ≤ (0 : Int32)) : y.toInt < x.toInt := cv_cgt (by
  rw [Int32.le_iff_toInt_le] at h; rw [Int32.lt_iff_toInt_lt]; omega)
theorem cv_cge {x y : Int64} (h : (0 : Int32) ≤ lg_cmp x y) : y.toInt ≤ x.toInt := cv_cnlt (fun q => by
  rw [Int32.le_iff_toInt_le] at h; rw [Int32.lt_iff_toInt_lt] at q; omega)
theorem cv_cnge {x y : Int64} (h : ¬ (0 : Int32) ≤ lg_cmp x y) : x.toInt < y.toInt := cv_clt (by
  rw [Int32.le_iff_toInt_le] at h; rw [Int32.lt_iff_toInt_lt]; omega)
theorem cv_ceq {x y : Int64} (h : lg_cmp x y = (0 : Int32)) : x.toInt = y.toInt := by
  have h1 := cv_cle (x := x) (y := y) (by rw [h]; decide)
  have h2 := cv_cge (x := x) (y := y) (by rw [h]; decide)
  omega
theorem cv_cne {x y : Int64} (h : ¬ lg_cmp x y = (0 : Int32)) : x.toInt ≠ y.toInt := fun q => h (by
  have e := Int64.toInt_inj.mp q
  subst e
  unfold lg_cmp
  rw [if_neg (by rw [gt_iff_lt, Int64.lt_iff_toInt_lt]; omega), if_pos rfl])
theorem cv_bmod {z : Int} (h1 : -2147483648 ≤ z) (h2 : z < 2147483648) : z.bmod (2 ^ 32) = z := by
  rw [Int.bmod_def]; omega
theorem cv_addI {x y : Int32} (h1 : -2147483648 ≤ x.toInt + y.toInt) (h2 : x.toInt + y.toInt < 2147483648) : (x + y).toInt = x.toInt + y.toInt := by
  rw [Int32.toInt_add]; exact cv_bmod h1 h2
theorem cv_subI {x y : Int32} (h1 : -2147483648 ≤ x.toInt - y.toInt) (h2 : x.toInt - y.toInt < 2147483648) : (x - y).toInt = x.toInt - y.toInt := by
  rw [Int32.toInt_sub]; exact cv_bmod h1 h2
theorem cv_mulI {x y : Int32} (h1 : -2147483648 ≤ x.toInt * y.toInt) (h2 : x.toInt * y.toInt < 2147483648) : (x * y).toInt = x.toInt * y.toInt := by
  rw [Int32.toInt_mul]; exact cv_bmod h1 h2
theorem cv_ix {x : Int32} {n : Nat} (h0 : 0 ≤ x.toInt) (h : x.toInt < n) : x.toNatClampNeg < n := by
  show x.toInt.toNat < n
  omega
theorem cv_of {x : Int32} (h : 0 ≤ x.toInt) : ∃ j : Nat, j < 2 ^ 31 ∧ x = nI j := nI_of (fun q => by
  rw [Int32.lt_iff_toInt_lt] at q; have : (0 : Int32).toInt = 0 := rfl; omega)
theorem cv_upd0 {k : Nat} : upd (fun _ => 0) k 0 = fun _ => 0 := funext fun j => by unfold upd; split <;> rfl
theorem cv_updL0 {k : Nat} : vp_updL (fun _ => 0) k 0 = fun _ => 0 := funext fun j => by unfold vp_updL; split <;> rfl
/-- a new row of numbers: its class is the one that is known already -/
theorem cv_newa (hexec : p.tables.exec = Jvm.exec) (hb : c.code = cc) {atype : ArrayType} (harr : (Cond.arrayClass (newarray.typeOf atype)).before args s = true) {ty : FieldType} (hty : newarray.typeOf atype = ty) (hK : va_K D cl tys s) (hP : va_P D cl ws H) (hD : va_D A ws) (hS : va_S A H0 H locs) (hA : ∀ q, H0.size ≤ q → A q)
    (t0 : Nat) {cA : ClassId} (ht : tys[t0]? = some (cA, ty)) (hpr : ∀ c1 c2 : ClassId, va_RA s c1 ty → va_RA s c2 ty → c1 = c2)
    {n : Int32} {N' : Nat} {a0 : vp_A} (ha : ∀ cA : ClassId, vp_cell cA a0 = arrV cA N' (fun _ => defaultValue ty)) (hn : ¬ n < 0) (hN : n.toNatClampNeg = N') (hbytes : N' * componentBytes ty ≤ 536870912) (hcells : cells + 1 ≤ R.cells) (hslots : slots + N' ≤ R.slots) (hdg : decode cc pc = .ok (.newarray atype, 2))
    (kk : ∀ (q : Nat) (H1 : Heap), va_P D cl (ws ++ [(q, .inl (cA, a0))]) H1 → va_D A (ws ++ [(q, .inl (cA, a0))]) → va_S A H0 H1 locs →
      W p l e R s m args below meth c H1 locs (cells + 1) (slots + N') Q (F0 m (pc + 2) ls (.ref q :: rest))) : W p l e R s m args below meth c H locs cells slots Q (F0 m pc ls (.int n :: rest)) := by
  refine va_newa hexec hb harr hty hK hP hD hS hA ha hn hN hbytes hcells hslots hdg (fun q cB H1 hK1 hP1 hD1 hS1 => ?_)
  have h1 := (hK.2 t0 _ ht).2
  have h2 := (hK1.2 tys.length (cB, ty) (by rw [List.getElem?_append_right (Nat.le_refl _), Nat.sub_self]; rfl)).2
  have e := hpr _ _ h1 h2
  subst e
  exact kk q H1 hP1 hD1 hS1
/-- out of a row of rows -/
theorem cv_aldA (hexec : p.tables.exec = Jvm.exec) (hb : c.code = cc) (hK : va_K D cl tys s) (hP : va_P D cl ws H) (q0 t0 : Nat) {cA : ClassId} {ty : FieldType} {n : Nat} {f : Nat → Option Nat} (ha : ws[q0]? = some (a, .inl (cA, n, .inr (.inr (.inr (.inr f)))))) (ht : tys[t0]? = some (cA, .array ty)) {i : Int32} (hin : vp_in i n) (hdg : decode cc pc = .ok (.aaload, 1))
    (kk : W p l e R s m args below meth c H locs cells slots Q (F0 m (pc + 1) ls (va_rf (f i.toNatClampNeg) :: rest))) : W p l e R s m args below meth c H locs cells slots Q (F0 m pc ls (.int i :: .ref a :: rest)) := by
  have hlt : i.toNatClampNeg < n := Nat.not_le.mp fun q => hin (Or.inr q)
  refine W.aald (v := va_rf (f i.toNatClampNeg)) (ty := .array ty) hexec hb (hP q0 _ ha) ((hK.2 t0 _ ht).1 n (fun j => va_rf (f j))) rfl (fun q => by cases q) ?_ ?_ rfl rfl hdg kk
  · show ¬ (i < 0 ∨ (arrV _ _ _).slots.size ≤ _)
    rw [arrV_size]
    exact hin
  · show (arrV _ _ _).slots[_]? = _
    rw [arrV_read _ _ hlt]
/-- what the tables' words say of the rows' classes -/
theorem cv_ty {ty : FieldType} {av : Array Value} (h : (Cond.arrayClass ty).before av s = true) (hr : ∀ cA : ClassId, s.vm.findClass ("[" ++ ty.toString) = some cA → va_RA s cA ty) : ∃ cA : ClassId, ArrOfT s cA ty ∧ va_RA s cA ty := by
  obtain ⟨cA, kA, comp, h1, h2, h3⟩ := Cond.arrayClass_spec h
  exact ⟨cA, fun n z => ⟨fun k h => (by cases h), kA, h2, comp, h3⟩, hr cA h1⟩
/-- a new row of references: its class is the one that is known already -/
theorem cv_newq (hexec : p.tables.exec = Jvm.exec) (hb : c.code = cc) {own C : String} {index : Nat} (hown : s.vm.findClass own = some m.cls) (hclink : (Cond.classLink own index C).before args s = true) (hover : va_AO C s) (hK : va_K D cl tys s) (hP : va_P D cl ws H) (hD : va_D A ws) (hS : va_S A H0 H locs) (hA : ∀ q, H0.size ≤ q → A q)
    (t0 : Nat) {cA : ClassId} (ht : tys[t0]? = some (cA, .object C))
    {n : Int32} {N' : Nat} (hn : ¬ n < 0) (hN : n.toNatClampNeg = N') (hbytes : N' * 4 ≤ 536870912) (hcells : cells + 1 ≤ R.cells) (hslots : slots + N' ≤ R.slots) (hdg : decode cc pc = .ok (.anewarray index, 3))
    (kk : ∀ (q : Nat) (H1 : Heap), va_P D cl (ws ++ [(q, .inl (cA, N', .inr (.inr (.inr (.inr (fun _ => none))))))]) H1 → va_D A (ws ++ [(q, .inl (cA, N', .inr (.inr (.inr (.inr (fun _ => none))))))]) → va_S A H0 H1 locs →
      W p l e R s m args below meth c H1 locs (cells + 1) (slots + N') Q (F0 m (pc + 3) ls (.ref q :: rest))) : W p l e R s m args below meth c H locs cells slots Q (F0 m pc ls (.int n :: rest)) := by
  refine va_newq hexec hb hown hclink hover hK hP hD hS hA hn hN hbytes hcells hslots hdg (fun q cB H1 hK1 hP1 hD1 hS1 => ?_)
  obtain ⟨_, _, -, -, -, h1⟩ := (hK.2 t0 _ ht).2
  obtain ⟨_, _, -, -, -, h2⟩ := (hK1.2 tys.length (cB, .object C) (by rw [List.getElem?_append_right (Nat.le_refl _), Nat.sub_self]; rfl)).2
  have e : cA = cB := Option.some.inj (h1.symm.trans h2)
  subst e
  exact kk q H1 hP1 hD1 hS1
/-- the class of rows of rows of longs, and of its rows -/
def cv_NN (cN cJ : ClassId) (U : State) : Prop := ∃ (kN kJ : Class) (cc : ClassId), U.vm.classes[cN]? = some kN ∧ kN.kind = .array cJ (.array .long) ∧ U.vm.findClass "[[J" = some cN ∧ U.vm.classes[cJ]? = some kJ ∧ kJ.kind = .array cc .long
theorem cv_NN.moved {cN cJ : ClassId} {u U : State} (hvm : u.vm.Alike U.vm) (h : cv_NN cN cJ u) : cv_NN cN cJ U := by
  obtain ⟨kN, kJ, cc, h1, h2, h3, h4, h5⟩ := h
  obtain ⟨k1, g1, e1⟩ := hvm.2.2 _ _ h1
  obtain ⟨k2, g2, e2⟩ := hvm.2.2 _ _ h4
  exact ⟨k1, k2, cc, g1, by rw [e1]; exact h2, by rw [hvm.findClass]; exact h3, g2, by rw [e2]; exact h5⟩
end CV

section CVB
/-- the class of rows of rows of longs, and of its rows -/
def cv_NB (cN cJ : ClassId) (U : State) : Prop := ∃ (kN kJ : Class) (cc : ClassId), U.vm.classes[cN]? = some kN ∧ kN.kind = .array cJ (.array .byte) ∧ U.vm.findClass "[[B" = some cN ∧ U.vm.classes[cJ]? = some kJ ∧ kJ.kind = .array cc .byte
theorem cv_NB.moved {cN cJ : ClassId} {u U : State} (hvm : u.vm.Alike U.vm) (h : cv_NB cN cJ u) : cv_NB cN cJ U := by
  obtain ⟨kN, kJ, cc, h1, h2, h3, h4, h5⟩ := h
  obtain ⟨k1, g1, e1⟩ := hvm.2.2 _ _ h1
  obtain ⟨k2, g2, e2⟩ := hvm.2.2 _ _ h4
  exact ⟨k1, k2, cc, g1, by rw [e1]; exact h2, by rw [hvm.findClass]; exact h3, g2, by rw [e2]; exact h5⟩
end CVB
/-! new long[4][k]: the outer row and its four rows -/
def mb_out (c : ClassId) (N h0 i : Nat) : Cell := arrV c N (fun j => va_rf (if j < i then some (h0 + 1 + j) else none))
def mb_in (cJ : ClassId) (K : Nat) : Cell := arrV cJ K (fun _ => .int 0)
def mb_st (s : State) (c cJ : ClassId) (N K : Nat) : Nat → State
  | 0 => s.pushCell (mb_out c N s.heap.size 0)
  | i + 1 => ((mb_st s c cJ N K i).pushCell (mb_in cJ K)).setCell s.heap.size (mb_out c N s.heap.size (i + 1))
theorem mb_out_size (c : ClassId) (N h0 i : Nat) : (mb_out c N h0 i).slots.size = N := arrV_size _ _ _
theorem mb_in_size (cJ : ClassId) (K : Nat) : (mb_in cJ K).slots.size = K := arrV_size _ _ _
theorem mb_out_put (c : ClassId) (N h0 i : Nat) : (mb_out c N h0 i).setSlot i (.ref (h0 + 1 + i)) = mb_out c N h0 (i + 1) := by
  unfold mb_out
  rw [arrV_store]
  refine congrArg (arrV c N) (funext fun j => ?_)
  unfold updV
  by_cases e : j = i
  · subst e
    rw [if_pos rfl, if_pos (Nat.lt_succ_self j)]
    rfl
  · rw [if_neg e]
    show va_rf (if j < i then some (h0 + 1 + j) else none) = va_rf (if j < i + 1 then some (h0 + 1 + j) else none)
    by_cases h : j < i
    · rw [if_pos h, if_pos (Nat.lt_succ_of_lt h)]
    · rw [if_neg h, if_neg (by omega)]
theorem mb_out_new (c : ClassId) (N h0 : Nat) : ({ cls := c, slots := Array.replicate N .null, vm := .none } : Cell) = mb_out c N h0 0 := by
  rw [arrV_new]
  unfold mb_out
  refine congrArg (arrV c N) (funext fun j => ?_)
  rw [if_neg (Nat.not_lt_zero j)]
  rfl
theorem mb_in_new (cJ : ClassId) (K : Nat) : ({ cls := cJ, slots := Array.replicate K (.int 0), vm := .none } : Cell) = mb_in cJ K := arrV_new _ _ _
theorem mb_facts (s : State) (c cJ : ClassId) (N K : Nat) : ∀ i, (mb_st s c cJ N K i).heap.size = s.heap.size + 1 + i ∧ (mb_st s c cJ N K i).heap[s.heap.size]? = some (mb_out c N s.heap.size i) ∧ (mb_st s c cJ N K i).vm = s.vm ∧ (mb_st s c cJ N K i).slotsUsed = s.slotsUsed + N + i * K
  | 0 => ⟨by simp [mb_st], by simp [mb_st], rfl, by simp [mb_st, mb_out_size]⟩
  | i + 1 => by
    obtain ⟨h1, h2, h3, h4⟩ := mb_facts s c cJ N K i
    have hlt : s.heap.size < (mb_st s c cJ N K i).heap.size := by omega
    have hc : ((mb_st s c cJ N K i).pushCell (mb_in cJ K)).heap[s.heap.size]? = some (mb_out c N s.heap.size i) := by
      rw [State.heap_pushCell_of_lt (h := hlt)]
      exact h2
    refine ⟨?_, State.heap_setCell_self hc, by simp [mb_st, h3], ?_⟩
    · simp [mb_st, State.setCell, h1]
      omega
    · simp [mb_st, h4, mb_in_size, Nat.succ_mul]
      omega
theorem mb_top (s : State) (f : JFrame) (c cJ : ClassId) (N K : Nat) : ∀ i, mb_st (s.setTop f) c cJ N K i = (mb_st s c cJ N K i).setTop f
  | 0 => rfl
  | i + 1 => by simp only [mb_st, mb_top s f c cJ N K i, State.heap_setTop, State.pushCell_setTop, State.setCell_setTop]
theorem mb_old (s : State) (c cJ : ClassId) (N K : Nat) {a : Addr} (ha : a < s.heap.size) : ∀ i, (mb_st s c cJ N K i).heap[a]? = s.heap[a]?
  | 0 => State.heap_pushCell_of_lt _ _ ha
  | i + 1 => by
    have h1 := (mb_facts s c cJ N K i).1
    have hlt : a < (mb_st s c cJ N K i).heap.size := Nat.lt_of_lt_of_le ha (by rw [h1]; omega)
    show (((mb_st s c cJ N K i).pushCell (mb_in cJ K)).setCell s.heap.size _).heap[a]? = _
    rw [State.heap_setCell_other (Nat.ne_of_gt ha), State.heap_pushCell_of_lt (h := hlt)]
    exact mb_old s c cJ N K ha i
theorem mb_row (s : State) (c cJ : ClassId) (N K : Nat) : ∀ i j, j < i → (mb_st s c cJ N K i).heap[s.heap.size + 1 + j]? = some (mb_in cJ K)
  | 0, _, h => absurd h (Nat.not_lt_zero _)
  | i + 1, j, h => by
    have h1 := (mb_facts s c cJ N K i).1
    show (((mb_st s c cJ N K i).pushCell (mb_in cJ K)).setCell s.heap.size _).heap[s.heap.size + 1 + j]? = _
    rw [State.heap_setCell_other (show s.heap.size ≠ s.heap.size + 1 + j by omega)]
    by_cases hj : j < i
    · have hlt : s.heap.size + 1 + j < (mb_st s c cJ N K i).heap.size := by omega
      rw [State.heap_pushCell_of_lt (h := hlt)]
      exact mb_row s c cJ N K i j hj
    · have e : j = i := by omega
      subst e
      rw [← h1]
      exact State.heap_pushCell_size _ _
section MN
variable {E : CtlPost} {e : Env} {d : Bool} {acts : List Action} {s : State}
/-- what the machine's 'make' does with two lengths, the inner rows of longs -/
theorem mb_make {c cJ cc : ClassId} {kN kJ : Class} {n m : Int32} (hk : s.vm.classes[c]? = some kN) (hkind : kN.kind = .array cJ (.array .byte)) (hkJ : s.vm.classes[cJ]? = some kJ) (hkindJ : kJ.kind = .array cc .byte) (hn : ¬ n < 0) (hm : ¬ m < 0)
    (hl1 : ¬ n.toNatClampNeg > e.platform.arrayLengthLimit) (hh1 : ¬ n.toNatClampNeg * componentBytes (.array .byte) > e.platform.maxHeapBytes)
    (hl2 : ¬ m.toNatClampNeg > e.platform.arrayLengthLimit) (hh2 : ¬ m.toNatClampNeg * componentBytes .byte > e.platform.maxHeapBytes)
    (hc : s.heap.size + 1 + n.toNatClampNeg ≤ e.platform.maxCells) (hs : s.slotsUsed + n.toNatClampNeg + n.toNatClampNeg * m.toNatClampNeg ≤ e.platform.maxSlots)
    {Q : Addr → Pre} (hq : ∀ d' acts', Q s.heap.size d' acts' (mb_st s c cJ n.toNatClampNeg m.toNatClampNeg n.toNatClampNeg)) : wp (multianewarray.make c [n, m]) Q E e d acts s := by
  generalize hN : n.toNatClampNeg = N at *
  generalize hM : m.toNatClampNeg = M at *
  have hfind : ([m].find? (· < 0)) = none := by simp [hm]
  rw [multianewarray.make]
  simp only [wp_bind', W.ite, hn, if_false, wp_pure', W.theClass, hk, hkind, Option.some.injEq, exists_eq_left', hN]
  refine mn_newArray hk hkind hl1 hh1 rfl rfl (by omega) (by have := Nat.zero_le (N * M); omega) ?_
  rw [mb_out_new c N s.heap.size]
  simp only [hfind]
  rw [ite_self, wp_bind', Std.Legacy.Range.forIn_eq_forIn_range']
  have hsz : ([:N] : Std.Legacy.Range).size = N := by simp [Std.Legacy.Range.size]
  rw [hsz]
  show wp (forIn (List.range' 0 N 1) PUnit.unit _) _ E e d acts _
  refine wp_forIn_inv (fun rest s' => ∃ i, i ≤ N ∧ rest = List.range' i (N - i) ∧ s' = mb_st s c cJ N M i) _ _ ⟨0, Nat.zero_le _, rfl, rfl⟩ ?_ ?_
  · rintro x rest s' d' acts' Q' ⟨i, hi, hl, rfl⟩ hnext
    have hlt : i < N := by
      rcases Nat.lt_or_ge i N with h | h
      · exact h
      · rw [show N - i = 0 by omega] at hl
        simp at hl
    obtain ⟨rfl, hrest⟩ : x = i ∧ rest = List.range' (i + 1) (N - (i + 1)) := by
      rw [show N - i = (N - (i + 1)) + 1 by omega, List.range'_succ] at hl
      exact ⟨(List.cons.inj hl).1, (List.cons.inj hl).2⟩
    obtain ⟨f1, f2, f3, f4⟩ := mb_facts s c cJ N M x
    have hmul : x * M + M ≤ N * M := by
      have := Nat.mul_le_mul_right M (show x + 1 ≤ N from hlt)
      rw [Nat.succ_mul] at this
      exact this
    have hlt0 : s.heap.size < (mb_st s c cJ N M x).heap.size := by rw [f1]; omega
    simp only [wp_bind']
    rw [multianewarray.make]
    simp only [wp_bind', W.ite, hm, if_false, wp_pure', W.theClass, f3, hkJ, hkindJ, Option.some.injEq, exists_eq_left', hM]
    refine mn_newArray (by rw [f3]; exact hkJ) hkindJ hl2 hh2 rfl rfl (by rw [f1]; omega) (by rw [f4]; omega) ?_
    rw [show ({ cls := cJ, slots := Array.replicate M (defaultValue .byte), vm := .none } : Cell) = mb_in cJ M from mb_in_new cJ M]
    simp only [wp_bind', W.writeLoc, wp_pure']
    refine ⟨mb_out c N s.heap.size x, by rw [State.heap_pushCell_of_lt (h := hlt0)]; exact f2, by simp [mb_out, arrV], by rw [mb_out_size]; exact hlt, ?_, hnext _ _ _ ⟨x + 1, hlt, hrest, ?_⟩⟩
    · simp [mb_out, arrV, State.fitsSlot, State.slotType?, f3, hk, hkind, fits]
    · rw [f1, mb_out_put]
      rfl
  · rintro s' d' acts' ⟨i, hi, hl, rfl⟩
    have hiN : i = N := by
      rcases Nat.lt_or_ge i N with h | h
      · rw [show N - i = (N - (i + 1)) + 1 by omega, List.range'_succ] at hl
        cases hl
      · omega
    subst hiN
    simp only [wp_pure']
    exact hq _ _
end MN
section MS
variable {p : Program} {l : Launch} {e : Env} {R : Room} {s : State} {m : MethodId} {args : Array Value} {below : List Frame} {meth : Method} {c : Code} {locs : List Loc} {cells slots : Nat}
theorem mb_stand {T : State} (X : Stand p l e R s m args below meth c T locs cells slots) (cN cJ : ClassId) (N K : Nat) :
    ∀ i, Stand p l e R s m args below meth c (mb_st T cN cJ N K i) (locs ++ (List.range i).map fun j => ⟨T.heap.size, j⟩) (cells + 1 + i) (slots + N + i * K)
  | 0 => by
    have h := X.pushed (mb_out cN N T.heap.size 0)
    rw [mb_out_size] at h
    simpa [mb_st] using h
  | i + 1 => by
    have Xi := mb_stand X cN cJ N K i
    obtain ⟨f1, f2, -, -⟩ := mb_facts T cN cJ N K i
    have hlt : T.heap.size < (mb_st T cN cJ N K i).heap.size := by rw [f1]; omega
    have hcell : ((mb_st T cN cJ N K i).pushCell (mb_in cJ K)).heap[T.heap.size]? = some (mb_out cN N T.heap.size i) := by
      rw [State.heap_pushCell_of_lt (h := hlt)]
      exact f2
    have h := (Xi.pushed (mb_in cJ K)).stored hcell i (.ref (T.heap.size + 1 + i))
    rw [mb_in_size, mb_out_put] at h
    have e2 : (locs ++ (List.range (i + 1)).map fun j => (⟨T.heap.size, j⟩ : Loc)) = (locs ++ (List.range i).map fun j => (⟨T.heap.size, j⟩ : Loc)) ++ [⟨T.heap.size, i⟩] := by
      simp [List.range_succ, List.append_assoc]
    have e3 : slots + N + (i + 1) * K = slots + N + i * K + K := by
      rw [Nat.succ_mul]
      omega
    rw [e2, e3]
    exact h
theorem mb_step {T : State} (X : Stand p l e R s m args below meth c T locs cells slots) (hexec : p.tables.exec = Jvm.exec) {own : String} {index : Nat} {cN cJ : ClassId}
    (hown : s.vm.findClass own = some m.cls) (hclink : (Cond.classLink own index "[[B").before args s = true) (hNN : cv_NB cN cJ s)
    {g : JFrame} (hg : g.method = m) (hdg : decode c.code g.pc = .ok (.multianewarray index 2, 4)) {n k : Int32} {rest : List Value} (hstack : g.stack = .int k :: .int n :: rest)
    (hn : ¬ n < 0) (hk : ¬ k < 0) (hb1 : n.toNatClampNeg * 4 ≤ 536870912) (hb2 : k.toNatClampNeg * 1 ≤ 536870912)
    (hcells : cells + (1 + n.toNatClampNeg) ≤ R.cells) (hslots : slots + (n.toNatClampNeg + n.toNatClampNeg * k.toNatClampNeg) ≤ R.slots) :
    ∃ vm₁ : Vm, Stand p l e R s m args below meth c (mb_st (T.setVm vm₁) cN cJ n.toNatClampNeg k.toNatClampNeg n.toNatClampNeg) locs (cells + 1 + n.toNatClampNeg) (slots + n.toNatClampNeg + n.toNatClampNeg * k.toNatClampNeg) ∧
      ∀ target, Steps p.tables e below ((mb_st (T.setVm vm₁) cN cJ n.toNatClampNeg k.toNatClampNeg n.toNatClampNeg).setTop { g with pc := g.pc + 4, stack := .ref T.heap.size :: rest }) target → Steps p.tables e below (T.setTop g) target := by
  subst hg
  have hpl : e.platform.magicAccessors = ({} : Platform).magicAccessors := by rw [X.admits.platform]
  obtain ⟨kN, kJ, cc, hkN, hkindN, hnameN, hkJ, hkindJ⟩ := hNN
  obtain ⟨c0, hfc0, hcl⟩ := Cond.classLink_spec hown hclink e.platform hpl
  cases hnameN.symm.trans hfc0
  obtain ⟨hg₁, hwarm₁, hready₁⟩ := State.classEntry (e := e) X.warmed hcl
  generalize T.vm.noted g.method.cls index (.cls cN) = vm₁ at hg₁ hwarm₁ hready₁
  have hal : s.vm.Alike vm₁ := hwarm₁.alike
  obtain ⟨kN₁, hkN₁, heN⟩ := hal.2.2 _ _ hkN
  obtain ⟨kJ₁, hkJ₁, heJ⟩ := hal.2.2 _ _ hkJ
  have hkindN₁ : kN₁.kind = .array cJ (.array .byte) := by rw [heN]; exact hkindN
  have hkindJ₁ : kJ₁.kind = .array cc .byte := by rw [heJ]; exact hkindJ
  have X₁ := X.noted hwarm₁
  have XF := mb_stand X₁ cN cJ n.toNatClampNeg k.toNatClampNeg n.toNatClampNeg
  obtain ⟨hr1, hr2⟩ := X.roomAbove hcells hslots
  refine ⟨vm₁, XF.dropFresh (fun x hx => ?_), fun target hrest => ?_⟩
  · obtain ⟨j, -, rfl⟩ := List.mem_map.mp hx
    exact X.heapGrown
  have hl1 : ¬ n.toNatClampNeg > e.platform.arrayLengthLimit := by rw [Launch.admits_arrayLengthLimit X.admits]; omega
  have hh1 : ¬ n.toNatClampNeg * componentBytes (.array .byte) > e.platform.maxHeapBytes := by
    rw [Launch.admits_maxHeapBytes X.admits]
    show ¬ n.toNatClampNeg * 4 > 536870912
    omega
  have hl2 : ¬ k.toNatClampNeg > e.platform.arrayLengthLimit := by rw [Launch.admits_arrayLengthLimit X.admits]; omega
  have hh2 : ¬ k.toNatClampNeg * componentBytes .byte > e.platform.maxHeapBytes := by
    rw [Launch.admits_maxHeapBytes X.admits]
    show ¬ k.toNatClampNeg * 1 > 536870912
    omega
  jvm_step X.here [hexec, hdg]
  simp only [multianewarray.sem, wp_bind', W.resolveClassAt_links (State.method?_setTop g X.here.top) hg₁]
  rw [W.popN, if_neg (by decide)]
  refine ⟨g, State.topJava?_setTop' (s := T.setVm vm₁) g X.here.top, [.int n, .int k], rest, rfl, hstack, ?_⟩
  simp only [List.mapM_cons, List.mapM_nil, wp_bind', wp_pure']
  refine mb_make hkN₁ hkindN₁ hkJ₁ hkindJ₁ hn hk hl1 hh1 hl2 hh2 (by show T.heap.size + 1 + _ ≤ _; omega) (by show T.slotsUsed + _ + _ ≤ _; omega) (fun d' acts' => ?_)
  have eS : ((T.setTop g).setVm vm₁).setTop { g with stack := rest } = (T.setVm vm₁).setTop { g with stack := rest } := by
    show ((T.setVm vm₁).setTop g).setTop _ = _
    rw [State.setTop_setTop]
  rw [eS, mb_top]
  simp only [wp_bind', W.mark, W.pushRef, State.topJava?_setTop' _ XF.here.top, Option.some.injEq, exists_eq_left', State.setTop_setTop, State.heap_setTop]
  intro acts
  simp [jvm, XF.here.top]
  exact hrest
end MS
section MW
variable {p : Program} {l : Launch} {e : Env} {R : Room} {s : State} {m : MethodId} {args : Array Value} {below : List Frame} {meth : Method} {c : Code} {H : Heap} {locs : List Loc} {cells slots : Nat} {Q : State → Prop}
variable {cc : ByteArray} {pc : Nat} {ls : Array Slot} {rest : List Value} {D : va_G} {cl : List vw_C} {A : Nat → Prop} {tys : List (ClassId × FieldType)} {ws : va_W} {H0 : Heap}
theorem cv_mnb7 (hexec : p.tables.exec = Jvm.exec) (hb : c.code = cc) {own : String} {index : Nat} {cN cJ : ClassId} (hown : s.vm.findClass own = some m.cls) (hclink : (Cond.classLink own index "[[B").before args s = true) (hNN : cv_NB cN cJ s)
    (hK : va_K D cl tys s) (hP : va_P D cl ws H) (hD : va_D A ws) (hS : va_S A H0 H locs) (hA : ∀ q, H0.size ≤ q → A q) (t0 : Nat) (ht0 : tys[t0]? = some (cJ, .byte)) (t1 : Nat) (ht1 : tys[t1]? = some (cN, .array .byte))
    {n k : Int32} {K' : Nat} (hn : n = 7) (hk : ¬ k < 0) (hk2 : k.toNatClampNeg = K') (hsm : K' ≤ 60000) (hcells : cells + 8 ≤ R.cells) (hslots : slots + (7 + 7 * K') ≤ R.slots) (hdg : decode cc pc = .ok (.multianewarray index 2, 4))
    (kk : ∀ (q q1 q2 q3 q4 q5 q6 q7 : Nat) (nF : Nat → Option Nat) (H1 : Heap), nF 0 = some q1 → nF 1 = some q2 → nF 2 = some q3 → nF 3 = some q4 → nF 4 = some q5 → nF 5 = some q6 → nF 6 = some q7 →
      va_P D cl (ws ++ [(q, .inl (cN, 7, .inr (.inr (.inr (.inr nF))))), (q1, .inl (cJ, K', .inl (fun _ => 0))), (q2, .inl (cJ, K', .inl (fun _ => 0))), (q3, .inl (cJ, K', .inl (fun _ => 0))), (q4, .inl (cJ, K', .inl (fun _ => 0))), (q5, .inl (cJ, K', .inl (fun _ => 0))), (q6, .inl (cJ, K', .inl (fun _ => 0))), (q7, .inl (cJ, K', .inl (fun _ => 0)))]) H1 →
      va_D A (ws ++ [(q, .inl (cN, 7, .inr (.inr (.inr (.inr nF))))), (q1, .inl (cJ, K', .inl (fun _ => 0))), (q2, .inl (cJ, K', .inl (fun _ => 0))), (q3, .inl (cJ, K', .inl (fun _ => 0))), (q4, .inl (cJ, K', .inl (fun _ => 0))), (q5, .inl (cJ, K', .inl (fun _ => 0))), (q6, .inl (cJ, K', .inl (fun _ => 0))), (q7, .inl (cJ, K', .inl (fun _ => 0)))]) → va_S A H0 H1 locs →
      W p l e R s m args below meth c H1 locs (cells + 8) (slots + (7 + 7 * K')) Q (F0 m (pc + 4) ls (.ref q :: rest))) : W p l e R s m args below meth c H locs cells slots Q (F0 m pc ls (.int k :: .int n :: rest)) := by
  subst hn
  subst hk2
  intro T hT Xs
  have e4 : (7 : Int32).toNatClampNeg = 7 := rfl
  obtain ⟨vm₁, X', step⟩ := mb_step Xs hexec hown hclink hNN (g := F0 m pc ls (.int k :: .int 7 :: rest)) rfl (by rw [hb]; exact hdg) rfl (by decide) hk (by decide) (by omega) (by rw [e4]; omega) (by rw [e4]; omega)
  rw [e4] at X' step
  have hTh : (T.setVm vm₁).heap = H := hT
  obtain ⟨f1, f2, -, -⟩ := mb_facts (T.setVm vm₁) cN cJ 7 k.toNatClampNeg 7
  have fo := fun (x : Nat) (hx : x < H.size) => mb_old (T.setVm vm₁) cN cJ 7 k.toNatClampNeg (a := x) (by rw [hTh]; exact hx) 7
  have fr := fun (j : Nat) (hj : j < 7) => mb_row (T.setVm vm₁) cN cJ 7 k.toNatClampNeg 7 j hj
  rw [hTh] at f1 f2 fr
  simp only [hTh] at fo
  generalize hF : mb_st (T.setVm vm₁) cN cJ 7 k.toNatClampNeg 7 = F at X' step f1 f2 fo fr
  have hrow : vp_cell cJ (k.toNatClampNeg, .inl (fun _ => 0)) = mb_in cJ k.toNatClampNeg := rfl
  have hP0 : va_P D cl ws F.heap := hP.kept (fun k9 x hx => fo x.1 ((hP k9 x hx).lt))
  have hAn : ∀ i : Nat, A (H.size + i) := fun i => hA _ (by have := hS.1; omega)
  have hPn : va_P D cl [(H.size, .inl (cN, 7, .inr (.inr (.inr (.inr (fun j => if j < 7 then some (H.size + 1 + j) else none)))))), (H.size + 1 + 0, .inl (cJ, k.toNatClampNeg, .inl (fun _ => 0))), (H.size + 1 + 1, .inl (cJ, k.toNatClampNeg, .inl (fun _ => 0))), (H.size + 1 + 2, .inl (cJ, k.toNatClampNeg, .inl (fun _ => 0))), (H.size + 1 + 3, .inl (cJ, k.toNatClampNeg, .inl (fun _ => 0))), (H.size + 1 + 4, .inl (cJ, k.toNatClampNeg, .inl (fun _ => 0))), (H.size + 1 + 5, .inl (cJ, k.toNatClampNeg, .inl (fun _ => 0))), (H.size + 1 + 6, .inl (cJ, k.toNatClampNeg, .inl (fun _ => 0)))] F.heap := by
    intro i q hq
    match i, hq with
    | 0, hq => cases hq; exact f2
    | 1, hq => cases hq; exact fr 0 (by decide)
    | 2, hq => cases hq; exact fr 1 (by decide)
    | 3, hq => cases hq; exact fr 2 (by decide)
    | 4, hq => cases hq; exact fr 3 (by decide)
    | 5, hq => cases hq; exact fr 4 (by decide)
    | 6, hq => cases hq; exact fr 5 (by decide)
    | 7, hq => cases hq; exact fr 6 (by decide)
    | i + 8, hq => simp at hq
  have key : ∀ (i : Nat) (q : Nat × va_E), ([(H.size, .inl (cN, 7, .inr (.inr (.inr (.inr (fun j => if j < 7 then some (H.size + 1 + j) else none)))))), (H.size + 1 + 0, .inl (cJ, k.toNatClampNeg, .inl (fun _ => 0))), (H.size + 1 + 1, .inl (cJ, k.toNatClampNeg, .inl (fun _ => 0))), (H.size + 1 + 2, .inl (cJ, k.toNatClampNeg, .inl (fun _ => 0))), (H.size + 1 + 3, .inl (cJ, k.toNatClampNeg, .inl (fun _ => 0))), (H.size + 1 + 4, .inl (cJ, k.toNatClampNeg, .inl (fun _ => 0))), (H.size + 1 + 5, .inl (cJ, k.toNatClampNeg, .inl (fun _ => 0))), (H.size + 1 + 6, .inl (cJ, k.toNatClampNeg, .inl (fun _ => 0)))] : va_W)[i]? = some q → q.1 = H.size + i := by
    intro i q hq
    match i, hq with
    | 0, hq => cases hq; rfl
    | 1, hq => cases hq; show _ = H.size + 1; omega
    | 2, hq => cases hq; show _ = H.size + 2; omega
    | 3, hq => cases hq; show _ = H.size + 3; omega
    | 4, hq => cases hq; show _ = H.size + 4; omega
    | 5, hq => cases hq; show _ = H.size + 5; omega
    | 6, hq => cases hq; show _ = H.size + 6; omega
    | 7, hq => cases hq; show _ = H.size + 7; omega
    | i + 8, hq => simp at hq
  have hDn : va_D A [(H.size, .inl (cN, 7, .inr (.inr (.inr (.inr (fun j => if j < 7 then some (H.size + 1 + j) else none)))))), (H.size + 1 + 0, .inl (cJ, k.toNatClampNeg, .inl (fun _ => 0))), (H.size + 1 + 1, .inl (cJ, k.toNatClampNeg, .inl (fun _ => 0))), (H.size + 1 + 2, .inl (cJ, k.toNatClampNeg, .inl (fun _ => 0))), (H.size + 1 + 3, .inl (cJ, k.toNatClampNeg, .inl (fun _ => 0))), (H.size + 1 + 4, .inl (cJ, k.toNatClampNeg, .inl (fun _ => 0))), (H.size + 1 + 5, .inl (cJ, k.toNatClampNeg, .inl (fun _ => 0))), (H.size + 1 + 6, .inl (cJ, k.toNatClampNeg, .inl (fun _ => 0)))] := by
    refine ⟨fun i j x y hx hy hxy => ?_, fun i q hq => ?_⟩
    · have h1 := key i x hx
      have h2 := key j y hy
      omega
    · rw [key i q hq]
      exact hAn i
  have K := kk H.size (H.size + 1 + 0) (H.size + 1 + 1) (H.size + 1 + 2) (H.size + 1 + 3) (H.size + 1 + 4) (H.size + 1 + 5) (H.size + 1 + 6) (fun j => if j < 7 then some (H.size + 1 + j) else none) F.heap rfl rfl rfl rfl rfl rfl rfl (hP0.app hPn) (hD.app hDn (fun i j x y hx hy hxy => by
    have h1 := (hP i x hx).lt
    have h2 := key j y hy
    omega)) ⟨by have := hS.1; omega, fun x h1 h2 => by
      rw [fo x (Nat.lt_of_lt_of_le h1 hS.1)]
      exact hS.2.1 x h1 h2, hS.2.2⟩
  obtain ⟨t, a1, b1⟩ := K F rfl (by
    have hw : slots + (7 + 7 * k.toNatClampNeg) = slots + 7 + 7 * k.toNatClampNeg := by omega
    rw [hw]
    exact X')
  refine ⟨t, step t ?_, b1⟩
  have e : T.heap.size = H.size := by rw [hT]
  rw [e]
  exact a1
end MW

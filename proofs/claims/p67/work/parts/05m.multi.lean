/-! new long[4][k]: the outer row and its four rows -/
def mn_out (c : ClassId) (N h0 i : Nat) : Cell := arrV c N (fun j => va_rf (if j < i then some (h0 + 1 + j) else none))
def mn_in (cJ : ClassId) (K : Nat) : Cell := arrV cJ K (fun _ => .long 0)
def mn_st (s : State) (c cJ : ClassId) (N K : Nat) : Nat → State
  | 0 => s.pushCell (mn_out c N s.heap.size 0)
  | i + 1 => ((mn_st s c cJ N K i).pushCell (mn_in cJ K)).setCell s.heap.size (mn_out c N s.heap.size (i + 1))
theorem mn_out_size (c : ClassId) (N h0 i : Nat) : (mn_out c N h0 i).slots.size = N := arrV_size _ _ _
theorem mn_in_size (cJ : ClassId) (K : Nat) : (mn_in cJ K).slots.size = K := arrV_size _ _ _
theorem mn_out_put (c : ClassId) (N h0 i : Nat) : (mn_out c N h0 i).setSlot i (.ref (h0 + 1 + i)) = mn_out c N h0 (i + 1) := by
  unfold mn_out
  rw [arrV_store]
  refine congrArg (arrV c N) (funext fun j => ?_)
  unfold updV
  by_cases e : j = i
  · subst e
    rw [if_pos rfl, if_pos (Nat.lt_succ_self j)]
    rfl
  · rw [if_neg e]
    show va_rf (if j < i then some (h0 + 1 + j) else none) = va_rf (if j < i + 1 then some (h0 + 1 + j) else none)
    by_cases h : j < i
    · rw [if_pos h, if_pos (Nat.lt_succ_of_lt h)]
    · rw [if_neg h, if_neg (by omega)]
theorem mn_out_new (c : ClassId) (N h0 : Nat) : ({ cls := c, slots := Array.replicate N .null, vm := .none } : Cell) = mn_out c N h0 0 := by
  rw [arrV_new]
  unfold mn_out
  refine congrArg (arrV c N) (funext fun j => ?_)
  rw [if_neg (Nat.not_lt_zero j)]
  rfl
theorem mn_in_new (cJ : ClassId) (K : Nat) : ({ cls := cJ, slots := Array.replicate K (.long 0), vm := .none } : Cell) = mn_in cJ K := arrV_new _ _ _
theorem mn_facts (s : State) (c cJ : ClassId) (N K : Nat) : ∀ i, (mn_st s c cJ N K i).heap.size = s.heap.size + 1 + i ∧ (mn_st s c cJ N K i).heap[s.heap.size]? = some (mn_out c N s.heap.size i) ∧ (mn_st s c cJ N K i).vm = s.vm ∧ (mn_st s c cJ N K i).slotsUsed = s.slotsUsed + N + i * K
  | 0 => ⟨by simp [mn_st], by simp [mn_st], rfl, by simp [mn_st, mn_out_size]⟩
  | i + 1 => by
    obtain ⟨h1, h2, h3, h4⟩ := mn_facts s c cJ N K i
    have hlt : s.heap.size < (mn_st s c cJ N K i).heap.size := by omega
    have hc : ((mn_st s c cJ N K i).pushCell (mn_in cJ K)).heap[s.heap.size]? = some (mn_out c N s.heap.size i) := by
      rw [State.heap_pushCell_of_lt (h := hlt)]
      exact h2
    refine ⟨?_, State.heap_setCell_self hc, by simp [mn_st, h3], ?_⟩
    · simp [mn_st, State.setCell, h1]
      omega
    · simp [mn_st, h4, mn_in_size, Nat.succ_mul]
      omega
theorem mn_top (s : State) (f : JFrame) (c cJ : ClassId) (N K : Nat) : ∀ i, mn_st (s.setTop f) c cJ N K i = (mn_st s c cJ N K i).setTop f
  | 0 => rfl
  | i + 1 => by simp only [mn_st, mn_top s f c cJ N K i, State.heap_setTop, State.pushCell_setTop, State.setCell_setTop]
theorem mn_old (s : State) (c cJ : ClassId) (N K : Nat) {a : Addr} (ha : a < s.heap.size) : ∀ i, (mn_st s c cJ N K i).heap[a]? = s.heap[a]?
  | 0 => State.heap_pushCell_of_lt _ _ ha
  | i + 1 => by
    have h1 := (mn_facts s c cJ N K i).1
    have hlt : a < (mn_st s c cJ N K i).heap.size := Nat.lt_of_lt_of_le ha (by rw [h1]; omega)
    show (((mn_st s c cJ N K i).pushCell (mn_in cJ K)).setCell s.heap.size _).heap[a]? = _
    rw [State.heap_setCell_other (Nat.ne_of_gt ha), State.heap_pushCell_of_lt (h := hlt)]
    exact mn_old s c cJ N K ha i
theorem mn_row (s : State) (c cJ : ClassId) (N K : Nat) : ∀ i j, j < i → (mn_st s c cJ N K i).heap[s.heap.size + 1 + j]? = some (mn_in cJ K)
  | 0, _, h => absurd h (Nat.not_lt_zero _)
  | i + 1, j, h => by
    have h1 := (mn_facts s c cJ N K i).1
    show (((mn_st s c cJ N K i).pushCell (mn_in cJ K)).setCell s.heap.size _).heap[s.heap.size + 1 + j]? = _
    rw [State.heap_setCell_other (show s.heap.size ≠ s.heap.size + 1 + j by omega)]
    by_cases hj : j < i
    · have hlt : s.heap.size + 1 + j < (mn_st s c cJ N K i).heap.size := by omega
      rw [State.heap_pushCell_of_lt (h := hlt)]
      exact mn_row s c cJ N K i j hj
    · have e : j = i := by omega
      subst e
      rw [← h1]
      exact State.heap_pushCell_size _ _
section MN
variable {E : CtlPost} {e : Env} {d : Bool} {acts : List Action} {s : State}
theorem mn_newArray {c comp : ClassId} {k : Class} {type : FieldType} {len : Nat} {init : Value} (hk : s.vm.classes[c]? = some k) (hkind : k.kind = .array comp type)
    (hlimit : ¬ len > e.platform.arrayLengthLimit) (hheap : ¬ len * componentBytes type > e.platform.maxHeapBytes) (hfit : fits type init = true) (hdef : init.isDefault = true) {Q : Addr → Pre}
    (h1 : s.heap.size < e.platform.maxCells) (h2 : s.slotsUsed + len ≤ e.platform.maxSlots)
    (hq : Q s.heap.size d acts (s.pushCell { cls := c, slots := Array.replicate len init, vm := .none })) : wp (Jvm.newArray c len init) Q E e d acts s := by
  have hda : allocActs (Array.replicate len init) s.heap.size acts = acts := by
    have hall : ((Array.replicate len init).all (·.isDefault)) = true := by
      rw [Array.all_replicate]
      split <;> simp [hdef]
    unfold allocActs
    rw [if_pos hall]
  simp only [Jvm.newArray, Jvm.arrayFits, wp_bind', W.ask, W.ite, hlimit, if_false, wp_pure', W.theClass, hk, hkind, hheap, W.alloc, W.stop, Option.some.injEq, exists_eq_left', Array.size_replicate, hda]
  rw [if_neg (by omega)]
  refine ⟨h1, h2, fun i v hv => ?_, hq⟩
  rw [Array.getElem?_replicate] at hv
  split at hv
  · cases hv
    simp [State.fitsSlot, State.slotType?, hk, hkind, hfit]
  · cases hv
/-- what the machine's 'make' does with two lengths, the inner rows of longs -/
theorem mn_make {c cJ cc : ClassId} {kN kJ : Class} {n m : Int32} (hk : s.vm.classes[c]? = some kN) (hkind : kN.kind = .array cJ (.array .long)) (hkJ : s.vm.classes[cJ]? = some kJ) (hkindJ : kJ.kind = .array cc .long) (hn : ¬ n < 0) (hm : ¬ m < 0)
    (hl1 : ¬ n.toNatClampNeg > e.platform.arrayLengthLimit) (hh1 : ¬ n.toNatClampNeg * componentBytes (.array .long) > e.platform.maxHeapBytes)
    (hl2 : ¬ m.toNatClampNeg > e.platform.arrayLengthLimit) (hh2 : ¬ m.toNatClampNeg * componentBytes .long > e.platform.maxHeapBytes)
    (hc : s.heap.size + 1 + n.toNatClampNeg ≤ e.platform.maxCells) (hs : s.slotsUsed + n.toNatClampNeg + n.toNatClampNeg * m.toNatClampNeg ≤ e.platform.maxSlots)
    {Q : Addr → Pre} (hq : ∀ d' acts', Q s.heap.size d' acts' (mn_st s c cJ n.toNatClampNeg m.toNatClampNeg n.toNatClampNeg)) : wp (multianewarray.make c [n, m]) Q E e d acts s := by
  generalize hN : n.toNatClampNeg = N at *
  generalize hM : m.toNatClampNeg = M at *
  have hfind : ([m].find? (· < 0)) = none := by simp [hm]
  rw [multianewarray.make]
  simp only [wp_bind', W.ite, hn, if_false, wp_pure', W.theClass, hk, hkind, Option.some.injEq, exists_eq_left', hN]
  refine mn_newArray hk hkind hl1 hh1 rfl rfl (by omega) (by have := Nat.zero_le (N * M); omega) ?_
  rw [mn_out_new c N s.heap.size]
  simp only [hfind]
  rw [ite_self, wp_bind', Std.Legacy.Range.forIn_eq_forIn_range']
  have hsz : ([:N] : Std.Legacy.Range).size = N := by simp [Std.Legacy.Range.size]
  rw [hsz]
  show wp (forIn (List.range' 0 N 1) PUnit.unit _) _ E e d acts _
  refine wp_forIn_inv (fun rest s' => ∃ i, i ≤ N ∧ rest = List.range' i (N - i) ∧ s' = mn_st s c cJ N M i) _ _ ⟨0, Nat.zero_le _, rfl, rfl⟩ ?_ ?_
  · rintro x rest s' d' acts' Q' ⟨i, hi, hl, rfl⟩ hnext
    have hlt : i < N := by
      rcases Nat.lt_or_ge i N with h | h
      · exact h
      · rw [show N - i = 0 by omega] at hl
        simp at hl
    obtain ⟨rfl, hrest⟩ : x = i ∧ rest = List.range' (i + 1) (N - (i + 1)) := by
      rw [show N - i = (N - (i + 1)) + 1 by omega, List.range'_succ] at hl
      exact ⟨(List.cons.inj hl).1, (List.cons.inj hl).2⟩
    obtain ⟨f1, f2, f3, f4⟩ := mn_facts s c cJ N M x
    have hmul : x * M + M ≤ N * M := by
      have := Nat.mul_le_mul_right M (show x + 1 ≤ N from hlt)
      rw [Nat.succ_mul] at this
      exact this
    have hlt0 : s.heap.size < (mn_st s c cJ N M x).heap.size := by rw [f1]; omega
    simp only [wp_bind']
    rw [multianewarray.make]
    simp only [wp_bind', W.ite, hm, if_false, wp_pure', W.theClass, f3, hkJ, hkindJ, Option.some.injEq, exists_eq_left', hM]
    refine mn_newArray (by rw [f3]; exact hkJ) hkindJ hl2 hh2 rfl rfl (by rw [f1]; omega) (by rw [f4]; omega) ?_
    rw [show ({ cls := cJ, slots := Array.replicate M (defaultValue .long), vm := .none } : Cell) = mn_in cJ M from mn_in_new cJ M]
    simp only [wp_bind', W.writeLoc, wp_pure']
    refine ⟨mn_out c N s.heap.size x, by rw [State.heap_pushCell_of_lt (h := hlt0)]; exact f2, by simp [mn_out, arrV], by rw [mn_out_size]; exact hlt, ?_, hnext _ _ _ ⟨x + 1, hlt, hrest, ?_⟩⟩
    · simp [mn_out, arrV, State.fitsSlot, State.slotType?, f3, hk, hkind, fits]
    · rw [f1, mn_out_put]
      rfl
  · rintro s' d' acts' ⟨i, hi, hl, rfl⟩
    have hiN : i = N := by
      rcases Nat.lt_or_ge i N with h | h
      · rw [show N - i = (N - (i + 1)) + 1 by omega, List.range'_succ] at hl
        cases hl
      · omega
    subst hiN
    simp only [wp_pure']
    exact hq _ _
end MN
section MS
variable {p : Program} {l : Launch} {e : Env} {R : Room} {s : State} {m : MethodId} {args : Array Value} {below : List Frame} {meth : Method} {c : Code} {locs : List Loc} {cells slots : Nat}
theorem mn_stand {T : State} (X : Stand p l e R s m args below meth c T locs cells slots) (cN cJ : ClassId) (N K : Nat) :
    ∀ i, Stand p l e R s m args below meth c (mn_st T cN cJ N K i) (locs ++ (List.range i).map fun j => ⟨T.heap.size, j⟩) (cells + 1 + i) (slots + N + i * K)
  | 0 => by
    have h := X.pushed (mn_out cN N T.heap.size 0)
    rw [mn_out_size] at h
    simpa [mn_st] using h
  | i + 1 => by
    have Xi := mn_stand X cN cJ N K i
    obtain ⟨f1, f2, -, -⟩ := mn_facts T cN cJ N K i
    have hlt : T.heap.size < (mn_st T cN cJ N K i).heap.size := by rw [f1]; omega
    have hcell : ((mn_st T cN cJ N K i).pushCell (mn_in cJ K)).heap[T.heap.size]? = some (mn_out cN N T.heap.size i) := by
      rw [State.heap_pushCell_of_lt (h := hlt)]
      exact f2
    have h := (Xi.pushed (mn_in cJ K)).stored hcell i (.ref (T.heap.size + 1 + i))
    rw [mn_in_size, mn_out_put] at h
    have e2 : (locs ++ (List.range (i + 1)).map fun j => (⟨T.heap.size, j⟩ : Loc)) = (locs ++ (List.range i).map fun j => (⟨T.heap.size, j⟩ : Loc)) ++ [⟨T.heap.size, i⟩] := by
      simp [List.range_succ, List.append_assoc]
    have e3 : slots + N + (i + 1) * K = slots + N + i * K + K := by
      rw [Nat.succ_mul]
      omega
    rw [e2, e3]
    exact h
theorem mn_step {T : State} (X : Stand p l e R s m args below meth c T locs cells slots) (hexec : p.tables.exec = Jvm.exec) {own : String} {index : Nat} {cN cJ : ClassId}
    (hown : s.vm.findClass own = some m.cls) (hclink : (Cond.classLink own index "[[J").before args s = true) (hNN : cv_NN cN cJ s)
    {g : JFrame} (hg : g.method = m) (hdg : decode c.code g.pc = .ok (.multianewarray index 2, 4)) {n k : Int32} {rest : List Value} (hstack : g.stack = .int k :: .int n :: rest)
    (hn : ¬ n < 0) (hk : ¬ k < 0) (hb1 : n.toNatClampNeg * 4 ≤ 536870912) (hb2 : k.toNatClampNeg * 8 ≤ 536870912)
    (hcells : cells + (1 + n.toNatClampNeg) ≤ R.cells) (hslots : slots + (n.toNatClampNeg + n.toNatClampNeg * k.toNatClampNeg) ≤ R.slots) :
    ∃ vm₁ : Vm, Stand p l e R s m args below meth c (mn_st (T.setVm vm₁) cN cJ n.toNatClampNeg k.toNatClampNeg n.toNatClampNeg) locs (cells + 1 + n.toNatClampNeg) (slots + n.toNatClampNeg + n.toNatClampNeg * k.toNatClampNeg) ∧
      ∀ target, Steps p.tables e below ((mn_st (T.setVm vm₁) cN cJ n.toNatClampNeg k.toNatClampNeg n.toNatClampNeg).setTop { g with pc := g.pc + 4, stack := .ref T.heap.size :: rest }) target → Steps p.tables e below (T.setTop g) target := by
  subst hg
  have hpl : e.platform.magicAccessors = ({} : Platform).magicAccessors := by rw [X.admits.platform]
  obtain ⟨kN, kJ, cc, hkN, hkindN, hnameN, hkJ, hkindJ⟩ := hNN
  obtain ⟨c0, hfc0, hcl⟩ := Cond.classLink_spec hown hclink e.platform hpl
  cases hnameN.symm.trans hfc0
  obtain ⟨hg₁, hwarm₁, hready₁⟩ := State.classEntry (e := e) X.warmed hcl
  generalize T.vm.noted g.method.cls index (.cls cN) = vm₁ at hg₁ hwarm₁ hready₁
  have hal : s.vm.Alike vm₁ := hwarm₁.alike
  obtain ⟨kN₁, hkN₁, heN⟩ := hal.2.2 _ _ hkN
  obtain ⟨kJ₁, hkJ₁, heJ⟩ := hal.2.2 _ _ hkJ
  have hkindN₁ : kN₁.kind = .array cJ (.array .long) := by rw [heN]; exact hkindN
  have hkindJ₁ : kJ₁.kind = .array cc .long := by rw [heJ]; exact hkindJ
  have X₁ := X.noted hwarm₁
  have XF := mn_stand X₁ cN cJ n.toNatClampNeg k.toNatClampNeg n.toNatClampNeg
  obtain ⟨hr1, hr2⟩ := X.roomAbove hcells hslots
  refine ⟨vm₁, XF.dropFresh (fun x hx => ?_), fun target hrest => ?_⟩
  · obtain ⟨j, -, rfl⟩ := List.mem_map.mp hx
    exact X.heapGrown
  have hl1 : ¬ n.toNatClampNeg > e.platform.arrayLengthLimit := by rw [Launch.admits_arrayLengthLimit X.admits]; omega
  have hh1 : ¬ n.toNatClampNeg * componentBytes (.array .long) > e.platform.maxHeapBytes := by
    rw [Launch.admits_maxHeapBytes X.admits]
    show ¬ n.toNatClampNeg * 4 > 536870912
    omega
  have hl2 : ¬ k.toNatClampNeg > e.platform.arrayLengthLimit := by rw [Launch.admits_arrayLengthLimit X.admits]; omega
  have hh2 : ¬ k.toNatClampNeg * componentBytes .long > e.platform.maxHeapBytes := by
    rw [Launch.admits_maxHeapBytes X.admits]
    show ¬ k.toNatClampNeg * 8 > 536870912
    omega
  jvm_step X.here [hexec, hdg]
  simp only [multianewarray.sem, wp_bind', W.resolveClassAt_links (State.method?_setTop g X.here.top) hg₁]
  rw [W.popN, if_neg (by decide)]
  refine ⟨g, State.topJava?_setTop' (s := T.setVm vm₁) g X.here.top, [.int n, .int k], rest, rfl, hstack, ?_⟩
  simp only [List.mapM_cons, List.mapM_nil, wp_bind', wp_pure']
  refine mn_make hkN₁ hkindN₁ hkJ₁ hkindJ₁ hn hk hl1 hh1 hl2 hh2 (by show T.heap.size + 1 + _ ≤ _; omega) (by show T.slotsUsed + _ + _ ≤ _; omega) (fun d' acts' => ?_)
  have eS : ((T.setTop g).setVm vm₁).setTop { g with stack := rest } = (T.setVm vm₁).setTop { g with stack := rest } := by
    show ((T.setVm vm₁).setTop g).setTop _ = _
    rw [State.setTop_setTop]
  rw [eS, mn_top]
  simp only [wp_bind', W.mark, W.pushRef, State.topJava?_setTop' _ XF.here.top, Option.some.injEq, exists_eq_left', State.setTop_setTop, State.heap_setTop]
  intro acts
  simp [jvm, XF.here.top]
  exact hrest
end MS
section MW
variable {p : Program} {l : Launch} {e : Env} {R : Room} {s : State} {m : MethodId} {args : Array Value} {below : List Frame} {meth : Method} {c : Code} {H : Heap} {locs : List Loc} {cells slots : Nat} {Q : State → Prop}
variable {cc : ByteArray} {pc : Nat} {ls : Array Slot} {rest : List Value} {D : va_G} {cl : List vw_C} {A : Nat → Prop} {tys : List (ClassId × FieldType)} {ws : va_W} {H0 : Heap}
theorem cv_mna4 (hexec : p.tables.exec = Jvm.exec) (hb : c.code = cc) {own : String} {index : Nat} {cN cJ : ClassId} (hown : s.vm.findClass own = some m.cls) (hclink : (Cond.classLink own index "[[J").before args s = true) (hNN : cv_NN cN cJ s)
    (hK : va_K D cl tys s) (hP : va_P D cl ws H) (hD : va_D A ws) (hS : va_S A H0 H locs) (hA : ∀ q, H0.size ≤ q → A q) (t0 : Nat) (ht0 : tys[t0]? = some (cJ, .long)) (t1 : Nat) (ht1 : tys[t1]? = some (cN, .array .long))
    {n k : Int32} {K' : Nat} (hn : n = 4) (hk : ¬ k < 0) (hk2 : k.toNatClampNeg = K') (hsm : K' ≤ 60000) (hcells : cells + 5 ≤ R.cells) (hslots : slots + (4 + 4 * K') ≤ R.slots) (hdg : decode cc pc = .ok (.multianewarray index 2, 4))
    (kk : ∀ (q q1 q2 q3 q4 : Nat) (nF : Nat → Option Nat) (H1 : Heap), nF 0 = some q1 → nF 1 = some q2 → nF 2 = some q3 → nF 3 = some q4 →
      va_P D cl (ws ++ [(q, .inl (cN, 4, .inr (.inr (.inr (.inr nF))))), (q1, .inl (cJ, K', .inr (.inl (fun _ => 0)))), (q2, .inl (cJ, K', .inr (.inl (fun _ => 0)))), (q3, .inl (cJ, K', .inr (.inl (fun _ => 0)))), (q4, .inl (cJ, K', .inr (.inl (fun _ => 0))))]) H1 →
      va_D A (ws ++ [(q, .inl (cN, 4, .inr (.inr (.inr (.inr nF))))), (q1, .inl (cJ, K', .inr (.inl (fun _ => 0)))), (q2, .inl (cJ, K', .inr (.inl (fun _ => 0)))), (q3, .inl (cJ, K', .inr (.inl (fun _ => 0)))), (q4, .inl (cJ, K', .inr (.inl (fun _ => 0))))]) → va_S A H0 H1 locs →
      W p l e R s m args below meth c H1 locs (cells + 5) (slots + (4 + 4 * K')) Q (F0 m (pc + 4) ls (.ref q :: rest))) : W p l e R s m args below meth c H locs cells slots Q (F0 m pc ls (.int k :: .int n :: rest)) := by
  subst hn
  subst hk2
  intro T hT Xs
  have e4 : (4 : Int32).toNatClampNeg = 4 := rfl
  obtain ⟨vm₁, X', step⟩ := mn_step Xs hexec hown hclink hNN (g := F0 m pc ls (.int k :: .int 4 :: rest)) rfl (by rw [hb]; exact hdg) rfl (by decide) hk (by decide) (by omega) (by rw [e4]; omega) (by rw [e4]; omega)
  rw [e4] at X' step
  have hTh : (T.setVm vm₁).heap = H := hT
  obtain ⟨f1, f2, -, -⟩ := mn_facts (T.setVm vm₁) cN cJ 4 k.toNatClampNeg 4
  have fo := fun (x : Nat) (hx : x < H.size) => mn_old (T.setVm vm₁) cN cJ 4 k.toNatClampNeg (a := x) (by rw [hTh]; exact hx) 4
  have fr := fun (j : Nat) (hj : j < 4) => mn_row (T.setVm vm₁) cN cJ 4 k.toNatClampNeg 4 j hj
  rw [hTh] at f1 f2 fr
  simp only [hTh] at fo
  generalize hF : mn_st (T.setVm vm₁) cN cJ 4 k.toNatClampNeg 4 = F at X' step f1 f2 fo fr
  have hrow : vp_cell cJ (k.toNatClampNeg, .inr (.inl (fun _ => 0))) = mn_in cJ k.toNatClampNeg := rfl
  have hP0 : va_P D cl ws F.heap := hP.kept (fun k9 x hx => fo x.1 ((hP k9 x hx).lt))
  have hAn : ∀ i : Nat, A (H.size + i) := fun i => hA _ (by have := hS.1; omega)
  have hPn : va_P D cl [(H.size, .inl (cN, 4, .inr (.inr (.inr (.inr (fun j => if j < 4 then some (H.size + 1 + j) else none)))))), (H.size + 1 + 0, .inl (cJ, k.toNatClampNeg, .inr (.inl (fun _ => 0)))), (H.size + 1 + 1, .inl (cJ, k.toNatClampNeg, .inr (.inl (fun _ => 0)))), (H.size + 1 + 2, .inl (cJ, k.toNatClampNeg, .inr (.inl (fun _ => 0)))), (H.size + 1 + 3, .inl (cJ, k.toNatClampNeg, .inr (.inl (fun _ => 0))))] F.heap := by
    intro i q hq
    match i, hq with
    | 0, hq => cases hq; exact f2
    | 1, hq => cases hq; exact fr 0 (by decide)
    | 2, hq => cases hq; exact fr 1 (by decide)
    | 3, hq => cases hq; exact fr 2 (by decide)
    | 4, hq => cases hq; exact fr 3 (by decide)
    | i + 5, hq => simp at hq
  have hDn : va_D A [(H.size, .inl (cN, 4, .inr (.inr (.inr (.inr (fun j => if j < 4 then some (H.size + 1 + j) else none)))))), (H.size + 1 + 0, .inl (cJ, k.toNatClampNeg, .inr (.inl (fun _ => 0)))), (H.size + 1 + 1, .inl (cJ, k.toNatClampNeg, .inr (.inl (fun _ => 0)))), (H.size + 1 + 2, .inl (cJ, k.toNatClampNeg, .inr (.inl (fun _ => 0)))), (H.size + 1 + 3, .inl (cJ, k.toNatClampNeg, .inr (.inl (fun _ => 0))))] := by
    have key : ∀ (i : Nat) (q : Nat × va_E), ([(H.size, .inl (cN, 4, .inr (.inr (.inr (.inr (fun j => if j < 4 then some (H.size + 1 + j) else none)))))), (H.size + 1 + 0, .inl (cJ, k.toNatClampNeg, .inr (.inl (fun _ => 0)))), (H.size + 1 + 1, .inl (cJ, k.toNatClampNeg, .inr (.inl (fun _ => 0)))), (H.size + 1 + 2, .inl (cJ, k.toNatClampNeg, .inr (.inl (fun _ => 0)))), (H.size + 1 + 3, .inl (cJ, k.toNatClampNeg, .inr (.inl (fun _ => 0))))] : va_W)[i]? = some q → q.1 = H.size + i := by
      intro i q hq
      match i, hq with
      | 0, hq => cases hq; rfl
      | 1, hq => cases hq; rfl
      | 2, hq => cases hq; rfl
      | 3, hq => cases hq; rfl
      | 4, hq => cases hq; rfl
      | i + 5, hq => simp at hq
    refine ⟨fun i j x y hx hy hxy => ?_, fun i q hq => ?_⟩
    · have h1 := key i x hx
      have h2 := key j y hy
      omega
    · rw [key i q hq]
      exact hAn i
  have hge : ∀ (i : Nat) (q : Nat × va_E), ([(H.size, .inl (cN, 4, .inr (.inr (.inr (.inr (fun j => if j < 4 then some (H.size + 1 + j) else none)))))), (H.size + 1 + 0, .inl (cJ, k.toNatClampNeg, .inr (.inl (fun _ => 0)))), (H.size + 1 + 1, .inl (cJ, k.toNatClampNeg, .inr (.inl (fun _ => 0)))), (H.size + 1 + 2, .inl (cJ, k.toNatClampNeg, .inr (.inl (fun _ => 0)))), (H.size + 1 + 3, .inl (cJ, k.toNatClampNeg, .inr (.inl (fun _ => 0))))] : va_W)[i]? = some q → H.size ≤ q.1 := by
    intro i q hq
    match i, hq with
    | 0, hq => cases hq; exact Nat.le_refl _
    | 1, hq => cases hq; show H.size ≤ H.size + 1 + 0; omega
    | 2, hq => cases hq; show H.size ≤ H.size + 1 + 1; omega
    | 3, hq => cases hq; show H.size ≤ H.size + 1 + 2; omega
    | 4, hq => cases hq; show H.size ≤ H.size + 1 + 3; omega
    | i + 5, hq => simp at hq
  have K := kk H.size (H.size + 1 + 0) (H.size + 1 + 1) (H.size + 1 + 2) (H.size + 1 + 3) (fun j => if j < 4 then some (H.size + 1 + j) else none) F.heap rfl rfl rfl rfl (hP0.app hPn) (hD.app hDn (fun i j x y hx hy hxy => by
    have h1 := (hP i x hx).lt
    have h2 := hge j y hy
    omega)) ⟨by have := hS.1; omega, fun x h1 h2 => by
      rw [fo x (Nat.lt_of_lt_of_le h1 hS.1)]
      exact hS.2.1 x h1 h2, hS.2.2⟩
  obtain ⟨t, a1, b1⟩ := K F rfl (by
    have hw : slots + (4 + 4 * k.toNatClampNeg) = slots + 4 + 4 * k.toNatClampNeg := by omega
    rw [hw]
    exact X')
  refine ⟨t, step t ?_, b1⟩
  have e : T.heap.size = H.size := by rw [hT]
  rw [e]
  exact a1
end MW

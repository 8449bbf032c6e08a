/-! what holds of the state between two calls, by parts of the heap: each address has a tag (below 20: of the one side, 20: of the other) -/
theorem met_of {l : Launch} {y : MethodName} {ws : List Cond} {rm : Room} {Pc' : Array Value → State → Prop} {Qc' : Array Value → State → Outcome → State → Prop} {mc ms : Nat} {free' : Addr → Prop}
    (h : ∀ a st, Pc' a st → ∃ (Pc : Array Value → State → Prop) (Qc : Array Value → State → Outcome → State → Prop) (free : Addr → Prop), Met l y ws rm Pc Qc mc ms free ∧ Pc a st ∧ (∀ o t, Qc a st o t → Qc' a st o t) ∧ ∀ q, free q → free' q) : Met l y ws rm Pc' Qc' mc ms free' := by
  intro p e h1 h2 h3 s m args below hf ha hp hk
  obtain ⟨Pc, Qc, free, hM, hPc, hQ, hfr⟩ := h args s hp
  obtain ⟨n, o, w1, w2, w3, w4, L, hL, hq⟩ := hM p e h1 h2 h3 s m args below hf ha hPc hk
  exact ⟨n, o, w1, w2, w3, hQ _ _ w4, L, hL, fun q hq' => hfr _ (hq q hq')⟩
def TT (tg : Nat → Nat) (L : List Nat) : Nat → Prop := fun q => tg q ∈ L
def hold (D : va_G) (Φ : va_W → Prop) (T : Nat → Prop) (H : Heap) : Prop := ∃ w, Φ w ∧ va_P D vwCl w H ∧ va_D T w
theorem va_D.same {T : Nat → Prop} {w w' : va_W} (h : va_D T w) (e : w'.map Prod.fst = w.map Prod.fst) : va_D T w' := by
  have hx : ∀ (k : Nat) (q : Nat × va_E), w'[k]? = some q → ∃ p : Nat × va_E, w[k]? = some p ∧ p.1 = q.1 := by
    intro k q hq
    have h1 : (w.map Prod.fst)[k]? = some q.1 := by rw [← e, List.getElem?_map, hq]; rfl
    rw [List.getElem?_map] at h1
    cases hw : w[k]? with
    | none => rw [hw] at h1; cases h1
    | some p => rw [hw] at h1; exact ⟨p, rfl, Option.some.inj h1⟩
  refine ⟨fun i j p q hi hj hpq => ?_, fun k q hk => ?_⟩
  · obtain ⟨p1, h1, e1⟩ := hx i p hi
    obtain ⟨p2, h2, e2⟩ := hx j q hj
    exact h.1 i j _ _ h1 h2 (by rw [e1, e2]; exact hpq)
  · obtain ⟨p1, h1, e1⟩ := hx k q hk
    rw [← e1]
    exact h.2 k _ h1
theorem va_D.tt {tg : Nat → Nat} {L1 L2 : List Nat} {w1 w2 : va_W} (h1 : va_D (TT tg L1) w1) (h2 : va_D (TT tg L2) w2) (hd : ∀ i ∈ L1, i ∉ L2) : va_D (TT tg (L1 ++ L2)) (w1 ++ w2) := by
  refine va_D.app (h1.weaken (fun _ _ _ h => List.mem_append_left _ h)) (h2.weaken (fun _ _ _ h => List.mem_append_right _ h)) (fun i j p q hi hj hpq => ?_)
  have a1 : tg p.1 ∈ L1 := h1.2 i p hi
  have a2 : tg q.1 ∈ L2 := h2.2 j q hj
  rw [← hpq] at a2
  exact hd _ a1 a2
theorem tt_A {tg : Nat → Nat} {L : List Nat} {W : va_W} {sz : Nat} (hD : va_D (TT tg L) W) : ∀ q, va_A W sz q → tg q ∈ L ∨ sz ≤ q := by
  rintro q (⟨k, e, h⟩ | h)
  · exact Or.inl (hD.2 k (q, e) h)
  · exact Or.inr h
def AX (tg : Nat → Nat) (sz : Nat) : Nat → Prop := fun q => tg q < 20 ∨ sz ≤ q
def AM (tg : Nat → Nat) (sz : Nat) : Nat → Prop := fun q => tg q = 20 ∨ sz ≤ q
theorem ax_of {tg : Nat → Nat} {L : List Nat} {W : va_W} {sz : Nat} (hD : va_D (TT tg L) W) (hL : ∀ i ∈ L, i < 20) : ∀ q, va_A W sz q → AX tg sz q := by
  intro q h
  rcases tt_A hD q h with h | h
  · exact Or.inl (hL _ h)
  · exact Or.inr h
theorem am_of {tg : Nat → Nat} {W : va_W} {sz : Nat} (hD : va_D (TT tg [20]) W) : ∀ q, va_A W sz q → AM tg sz q := by
  intro q h
  rcases tt_A hD q h with h | h
  · exact Or.inl (List.mem_singleton.mp h)
  · exact Or.inr h
theorem hold.go {D : va_G} {Φ : va_W → Prop} {tg : Nat → Nat} {i : Nat} {H H1 : Heap} (h : hold D Φ (TT tg [i]) H) (hk : ∀ q : Nat, q < H.size → tg q = i → H1[q]? = H[q]?) : hold D Φ (TT tg [i]) H1 := by
  obtain ⟨w, h1, h2, h3⟩ := h
  exact ⟨w, h1, fun k q hq => (h2 k q hq).kept (hk q.1 (h2 k q hq).lt (List.mem_singleton.mp (h3.2 k q hq))), h3⟩
theorem tt_keep {tg : Nat → Nat} {L : List Nat} {W : va_W} {i : Nat} {st t : State} (hF : va_F (va_A W st.heap.size) st t) (hD : va_D (TT tg L) W) (hi : i ∉ L) : ∀ q : Nat, q < st.heap.size → tg q = i → t.heap[q]? = st.heap[q]? := by
  intro q hq ht
  refine hF.2 q hq (fun hA => ?_)
  rcases tt_A hD q hA with h | h
  · rw [ht] at h; exact hi h
  · omega
theorem hold.frame {D : va_G} {Φ : va_W → Prop} {tg : Nat → Nat} {i : Nat} {st t : State} {W : va_W} {L : List Nat} (h : hold D Φ (TT tg [i]) st.heap) (hF : va_F (va_A W st.heap.size) st t) (hD : va_D (TT tg L) W) (hi : i ∉ L) : hold D Φ (TT tg [i]) t.heap :=
  h.go (tt_keep hF hD hi)
theorem va_F.wide {A B : Nat → Prop} {st t : State} (h : va_F A st t) (hAB : ∀ q, A q → B q) : va_F B st t := ⟨h.1, fun q h1 h2 => h.2 q h1 (fun h3 => h2 (hAB q h3))⟩
theorem cv_FX.narrow {tR tF : Nat} {aK aV : Nat → Nat} {A B : Nat → Prop} {U : State} {H : Heap} (h : cv_FX tR tF aK aV A U H) (hAB : ∀ q, B q → A q) : cv_FX tR tF aK aV B U H := by
  obtain ⟨h1, h2, h3, h4, h5, h6, h7, h8, h9, hk⟩ := h
  exact ⟨h1.narrow hAB, h2.narrow hAB, h3.narrow hAB, h4.narrow hAB, h5, h6, h7.narrow hAB, h8.narrow hAB, h9.narrow hAB, hk⟩
theorem va_D.new {tg : Nat → Nat} {W W' w : va_W} {sz : Nat} (hD : va_D (va_A W sz) W') (n : Nat) (e : (W'.take n).map Prod.fst = W.map Prod.fst) (is : List Nat) (hn : va_nd is = true) (hs : is.map (fun i => W'[i]?) = w.map some) (hge : ∀ i ∈ is, n ≤ i) (htg : ∀ q, sz ≤ q → tg q = 15) : va_D (TT tg [15]) w := by
  have h1 := hD.sub is hn hs
  refine ⟨h1.1, fun k q hk => ?_⟩
  rcases h1.2 k q hk with ⟨k2, e2, h2⟩ | h2
  · exfalso
    have h3 : (W.map Prod.fst)[k2]? = some q.1 := by rw [List.getElem?_map, h2]; rfl
    rw [← e, List.getElem?_map, List.getElem?_take] at h3
    have h5 : (is.map (fun i => W'[i]?))[k]? = some (some q) := by rw [hs, List.getElem?_map, hk]; rfl
    rw [List.getElem?_map] at h5
    by_cases hk2 : k2 < n
    · rw [if_pos hk2] at h3
      cases hp : W'[k2]? with
      | none => rw [hp] at h3; cases h3
      | some p =>
        rw [hp] at h3
        cases hi : is[k]? with
        | none => rw [hi] at h5; cases h5
        | some i =>
          rw [hi] at h5
          have h6 : W'[i]? = some q := Option.some.inj h5
          have h7 := hD.1 k2 i p q hp h6 (Option.some.inj h3)
          have h8 := hge i (List.mem_of_getElem? hi)
          omega
    · rw [if_neg hk2] at h3; cases h3
  · exact List.mem_singleton.mpr (htg _ h2)
/-- the tags out of one row of cells -/
def tgOf (S0 : Nat) (W : va_W) (tb : List Nat) : Nat → Nat := fun q => if q < S0 then 99 else match (W.map Prod.fst).findIdx? (fun a => a == q) with
  | some i => tb.getD i 15
  | none => 15
theorem tg_at {A : Nat → Prop} {S0 : Nat} {W : va_W} {tb : List Nat} (hD : va_D A W) (hA : ∀ q, A q → S0 ≤ q) {i : Nat} {p : Nat × va_E} (h : W[i]? = some p) : tgOf S0 W tb p.1 = tb.getD i 15 := by
  have hp : S0 ≤ p.1 := hA _ (hD.2 i p h)
  have hx : (W.map Prod.fst).findIdx? (fun a => a == p.1) = some i := by
    rw [List.findIdx?_eq_some_iff_getElem]
    have hl : i < W.length := (List.getElem?_eq_some_iff.mp h).1
    have he : W[i] = p := (List.getElem?_eq_some_iff.mp h).2
    refine ⟨by rw [List.length_map]; exact hl, by rw [List.getElem_map, he]; simp, fun j hj => ?_⟩
    rw [List.getElem_map]
    intro hc
    have hc2 : (W[j]'(by omega)).1 = p.1 := by simpa using hc
    have := hD.1 j i _ _ (List.getElem?_eq_some_iff.mpr ⟨by omega, rfl⟩) h hc2
    omega
  unfold tgOf
  rw [if_neg (by omega), hx]
theorem va_D.tag {A : Nat → Prop} {S0 : Nat} {W w : va_W} {tb : List Nat} {k : Nat} (hD : va_D A W) (hA : ∀ q, A q → S0 ≤ q) (is : List Nat) (hn : va_nd is = true) (hs : is.map (fun i => W[i]?) = w.map some) (hk : ∀ i ∈ is, tb.getD i 15 = k) : va_D (TT (tgOf S0 W tb) [k]) w := by
  have h1 := hD.sub is hn hs
  refine ⟨h1.1, fun j q hj => ?_⟩
  have h5 : (is.map (fun i => W[i]?))[j]? = some (some q) := by rw [hs, List.getElem?_map, hj]; rfl
  rw [List.getElem?_map] at h5
  cases hi : is[j]? with
  | none => rw [hi] at h5; cases h5
  | some i =>
    rw [hi] at h5
    have h6 : W[i]? = some q := Option.some.inj h5
    refine List.mem_singleton.mpr ?_
    rw [tg_at hD hA h6]
    exact hk i (List.mem_of_getElem? hi)
theorem tg_old {S0 : Nat} {W : va_W} {tb : List Nat} (q : Nat) (h : tgOf S0 W tb q < 21) : S0 ≤ q := by
  unfold tgOf at h
  by_cases hq : q < S0
  · rw [if_pos hq] at h; omega
  · omega
theorem tg_new {S0 : Nat} {D : va_G} {W : va_W} {tb : List Nat} {H : Heap} (hP : va_P D vwCl W H) (hS : S0 ≤ H.size) (q : Nat) (h : H.size ≤ q) : tgOf S0 W tb q = 15 := by
  have hx : (W.map Prod.fst).findIdx? (fun a => a == q) = none := by
    rw [List.findIdx?_eq_none_iff]
    intro x hx
    obtain ⟨p, hp, rfl⟩ := List.mem_map.mp hx
    obtain ⟨i, hi⟩ := List.getElem?_of_mem hp
    have := (hP i p hi).lt
    simp only [beq_eq_false_iff_ne, ne_eq]
    omega
  unfold tgOf
  rw [if_neg (by omega), hx]

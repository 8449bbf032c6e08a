set_option maxHeartbeats 4000000 in
theorem law_next {p : Program} {l : Launch} {e : Env} {s : State} {m : MethodId} {below : List Frame} {meth : Method} {c : Code} {b L : Nat} {xs : Nat → Int32} (hL : L ≤ 3072) (C0 : lw_At p s m meth c b L xs) {dC : Nat → ClassId} {dI : Nat → Nat → Nat} {cyI cyB cyJ cyZ cyH cyN cyM : ClassId} {tR tF : Nat} {aK aV : Nat → Nat} {tg : Nat → Nat} {SZ x0 m0 : Nat} (hFIX : FIX dC dI cyI cyB cyJ cyZ cyH cyN cyM tR tF aK aV tg SZ s) {i : Int32} (hi0 : 0 ≤ i.toInt) (hi : i.toInt ≤ 3072) {ls : Array Slot} (hl : lv_has ls 4 [(3, .int i), (2, .ref m0), (1, .ref x0), (0, .ref b)]) {H : Heap} {locs : List Loc} {cells slots : Nat} (kk : ∀ (j : Int32) (ls : Array Slot), j.toInt = i.toInt + 6 → lv_has ls 4 [(3, .int j), (2, .ref m0), (1, .ref x0), (0, .ref b)] → W p l e room_1 s m #[Value.ref b] below meth c H locs cells slots (lw_Z below #[Value.ref b] s) (F0 m 18 ls [])) : W p l e room_1 s m #[Value.ref b] below meth c H locs cells slots (lw_Z below #[Value.ref b] s) (F0 m 1930 ls []) := by
  obtain ⟨hx, hb, hr, hml, hown, hts0, hX, hbl, hlocks, hgv⟩ := id C0
  refine lv_iinc (v := i + 6) (lv' := [(3, .int (i + 6)), (2, .ref m0), (1, .ref x0), (0, .ref b)]) hx hb dL_law_1930 hl (k := 0) rfl (by rw [show Int32.ofInt 6 = (6 : Int32) from by decide]) (by decide) rfl (fun ls hl => ?_)
  refine lv_goto (tgt := 18) hx hb dL_law_1933 (by decide) ?_
  exact kk (i + 6) ls (by rw [cv_addI (by have h6 : (6 : Int32).toInt = 6 := rfl; omega) (by have h6 : (6 : Int32).toInt = 6 := rfl; omega)]; rfl) hl
set_option maxHeartbeats 4000000 in
theorem law_exit {p : Program} {l : Launch} {e : Env} {s : State} {m : MethodId} {below : List Frame} {meth : Method} {c : Code} {b L : Nat} {xs : Nat → Int32} (hL : L ≤ 3072) (C0 : lw_At p s m meth c b L xs) {dC : Nat → ClassId} {dI : Nat → Nat → Nat} {cyI cyB cyJ cyZ cyH cyN cyM : ClassId} {tR tF : Nat} {aK aV : Nat → Nat} {tg : Nat → Nat} {SZ : Nat} (hFIX : FIX dC dI cyI cyB cyJ cyZ cyH cyN cyM tR tF aK aV tg SZ s) {ls : Array Slot} {H : Heap} {locs : List Loc} {cells slots : Nat} (hS : va_S (fun q : Nat => s.heap.size ≤ q) s.heap H locs) (h1 : cells ≤ 600000) (h2 : slots ≤ 7302250) : W p l e room_1 s m #[Value.ref b] below meth c H locs cells slots (lw_Z below #[Value.ref b] s) (F0 m 1936 ls []) := by
  obtain ⟨hx, hb, hr, hml, hown, hts0, hX, hbl, hlocks, hgv⟩ := id C0
  refine lv_iconst (v := 1) hx hb dL_law_1936 (by decide) ?_
  refine va_forget (fun q hq => hS.2.2 q hq) ?_
  refine W.widen (k := 600000) (n := 7302250) h1 h2 ?_
  exact lw_ret hx hb hr hlocks dL_law_1937

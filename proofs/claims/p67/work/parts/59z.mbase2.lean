/-- the same below n, from n on -/
def lo (n : Nat) (f g : Nat → Int32) : Prop := ∀ j, j < n → g j = f j
def hi (n : Nat) (f g : Nat → Int32) : Prop := ∀ j, n ≤ j → g j = f j
theorem lo_rfl {n : Nat} {f : Nat → Int32} : lo n f f := fun _ _ => rfl
theorem hi_rfl {n : Nat} {f : Nat → Int32} : hi n f f := fun _ _ => rfl
theorem lo_trans {n : Nat} {f g h : Nat → Int32} (a : lo n f g) (b : lo n g h) : lo n f h := fun j hj => (b j hj).trans (a j hj)
theorem lo_upd {n : Nat} {f g g' : Nat → Int32} {k x : Int32} (h : lo n f g) (e : g' = upd g k.toNatClampNeg x) (hk : (n : Int) ≤ k.toInt) : lo n f g' := by
  intro j hj
  rw [e, pk_un (by
    have : (k.toNatClampNeg : Int) = k.toInt := by show ((k.toInt.toNat : Nat) : Int) = _; omega
    omega)]
  exact h j hj
theorem hi_upd {n : Nat} {f g g' : Nat → Int32} {k x : Int32} (h : hi n f g) (e : g' = upd g k.toNatClampNeg x) (h0 : 0 ≤ k.toInt) (hk : k.toInt < (n : Int)) : hi n f g' := by
  intro j hj
  rw [e, pk_un (by
    have : (k.toNatClampNeg : Int) = k.toInt := by show ((k.toInt.toNat : Nat) : Int) = _; omega
    omega)]
  exact h j hj
/-- a HALL of the reference: the h th in its rows -/
def HQ (h : Nat) (fli fh ft fl fa : Nat → Int32) : Prop := ((fh (4 * h)).toInt = 0 ∨ (2 ≤ (fh (4 * h)).toInt ∧ (fh (4 * h)).toInt ≤ 7)) ∧ (0 ≤ (fh (4 * h + 1)).toInt ∧ (fh (4 * h + 1)).toInt ≤ 6) ∧ (0 ≤ (fh (4 * h + 3)).toInt ∧ (fh (4 * h + 3)).toInt ≤ 40) ∧ pm (fh (4 * h)).toInt (fun j => ft (7 * h + j)) ∧ lk (fh (4 * h)).toInt (fh (4 * h + 1)).toInt (fun j => fl (24 * h + j)) ∧ ak (fh (4 * h)).toInt (fh (4 * h + 3)).toInt (fun j => fa (80 * h + j)) ∧ (0 < (fli h).toInt → 2 ≤ (fh (4 * h)).toInt)
/-- hall 0, as the methods ask for it -/
theorem HQ.r {fli fh ft fl fa : Nat → Int32} (q : HQ 0 fli fh ft fl fa) : ((fh 0).toInt = 0 ∨ (2 ≤ (fh 0).toInt ∧ (fh 0).toInt ≤ 7)) ∧ (0 ≤ (fh 1).toInt ∧ (fh 1).toInt ≤ 6) ∧ (0 ≤ (fh 3).toInt ∧ (fh 3).toInt ≤ 40) ∧ pm (fh 0).toInt ft ∧ lk (fh 0).toInt (fh 1).toInt fl ∧ ak (fh 0).toInt (fh 3).toInt fa ∧ (0 < (fli 0).toInt → 2 ≤ (fh 0).toInt) := by
  have e1 : (fun j => ft (7 * 0 + j)) = ft := funext fun j => congrArg ft (Nat.zero_add j)
  have e2 : (fun j => fl (24 * 0 + j)) = fl := funext fun j => congrArg fl (Nat.zero_add j)
  have e3 : (fun j => fa (80 * 0 + j)) = fa := funext fun j => congrArg fa (Nat.zero_add j)
  obtain ⟨a, b, c, d, e, f, g⟩ := q
  rw [e1] at d
  rw [e2] at e
  rw [e3] at f
  exact ⟨a, b, c, d, e, f, g⟩
theorem HQ.i {fli fh ft fl fa : Nat → Int32} (a : (fh 0).toInt = 0 ∨ (2 ≤ (fh 0).toInt ∧ (fh 0).toInt ≤ 7)) (b : 0 ≤ (fh 1).toInt ∧ (fh 1).toInt ≤ 6) (c : 0 ≤ (fh 3).toInt ∧ (fh 3).toInt ≤ 40) (d : pm (fh 0).toInt ft) (e : lk (fh 0).toInt (fh 1).toInt fl) (f : ak (fh 0).toInt (fh 3).toInt fa) (g : 0 < (fli 0).toInt → 2 ≤ (fh 0).toInt) : HQ 0 fli fh ft fl fa := by
  have e1 : (fun j => ft (7 * 0 + j)) = ft := funext fun j => congrArg ft (Nat.zero_add j)
  have e2 : (fun j => fl (24 * 0 + j)) = fl := funext fun j => congrArg fl (Nat.zero_add j)
  have e3 : (fun j => fa (80 * 0 + j)) = fa := funext fun j => congrArg fa (Nat.zero_add j)
  refine ⟨a, b, c, ?_, ?_, ?_, g⟩
  · rw [e1]; exact d
  · rw [e2]; exact e
  · rw [e3]; exact f
/-- what a HALL is hangs on its own numbers alone -/
theorem HQ.same {h k : Nat} {fli fh ft fl fa gli gh gt gl ga : Nat → Int32} (q : HQ h fli fh ft fl fa) (e1 : gli k = fli h) (e2 : ∀ j, j < 4 → gh (4 * k + j) = fh (4 * h + j)) (e3 : ∀ j, j < 7 → gt (7 * k + j) = ft (7 * h + j)) (e4 : ∀ j, j < 24 → gl (24 * k + j) = fl (24 * h + j)) (e5 : ∀ j, j < 80 → ga (80 * k + j) = fa (80 * h + j)) : HQ k gli gh gt gl ga := by
  obtain ⟨a, b, c, d, e, f, g⟩ := q
  have h0 : gh (4 * k) = fh (4 * h) := e2 0 (by decide)
  have h1 := e2 1 (by decide)
  have h3 := e2 3 (by decide)
  unfold HQ
  rw [h0, h1, h3, e1]
  refine ⟨a, b, c, pm_cong d (fun j hj => e3 j (by omega)), ?_, ?_, g⟩
  · intro l hl
    have w := e l hl
    have z0 : gl (24 * k + 4 * l) = fl (24 * h + 4 * l) := e4 _ (by omega)
    have z1 : gl (24 * k + (4 * l + 1)) = fl (24 * h + (4 * l + 1)) := e4 _ (by omega)
    have z2 : gl (24 * k + (4 * l + 2)) = fl (24 * h + (4 * l + 2)) := e4 _ (by omega)
    show (0 ≤ (gl (24 * k + 4 * l)).toInt ∧ (gl (24 * k + 4 * l)).toInt < _) ∧ (0 ≤ (gl (24 * k + (4 * l + 1))).toInt ∧ (gl (24 * k + (4 * l + 1))).toInt < _) ∧ (1 ≤ (gl (24 * k + (4 * l + 2))).toInt ∧ (gl (24 * k + (4 * l + 2))).toInt ≤ 6)
    rw [z0, z1, z2]
    exact w
  · intro l hl
    have w := f l hl
    have z0 : ga (80 * k + 2 * l) = fa (80 * h + 2 * l) := e5 _ (by omega)
    have z1 : ga (80 * k + (2 * l + 1)) = fa (80 * h + (2 * l + 1)) := e5 _ (by omega)
    show (ga (80 * k + 2 * l)).toInt = -1 ∨ ((0 ≤ (ga (80 * k + 2 * l)).toInt ∧ (ga (80 * k + 2 * l)).toInt < _) ∧ (0 ≤ (ga (80 * k + (2 * l + 1))).toInt ∧ (ga (80 * k + (2 * l + 1))).toInt < _))
    rw [z0, z1]
    exact w
/-- an act more, in hall 0 -/
theorem ak_more {pl n : Int} {f f1 f2 : Nat → Int32} {i j a b : Int32} (h : ak pl n f) (e1 : f1 = upd f i.toNatClampNeg a) (e2 : f2 = upd f1 j.toNatClampNeg b) (n0 : 0 ≤ n) (hi : i.toInt = 2 * n) (hj : j.toInt = 2 * n + 1) (hab : a.toInt = -1 ∨ ((0 ≤ a.toInt ∧ a.toInt < pl) ∧ (0 ≤ b.toInt ∧ b.toInt < pl))) : ak pl (n + 1) f2 := by
  intro k hk
  have ii : i.toNatClampNeg = 2 * n.toNat := cv_at (by omega)
  have ij : j.toNatClampNeg = 2 * n.toNat + 1 := cv_at (by omega)
  rw [e2, e1, ii, ij]
  by_cases q : (k : Int) < n
  · rw [pk_un (by omega), pk_un (by omega), pk_un (by omega), pk_un (by omega)]
    exact h k q
  · rw [show k = n.toNat by omega, pk_un (by omega), pk_us, pk_us]
    exact hab
theorem ak_less {pl n n' : Int} {f : Nat → Int32} (h : ak pl n f) (hn : n' ≤ n) : ak pl n' f := fun k hk => h k (by omega)
/-- copyRow -/
def cpr (m a b k : Nat) (f g : Nat → Int32) : Prop := ∀ i, g i = if m * b ≤ i ∧ i < m * b + k then f (i - m * b + m * a) else f i
theorem cpr_zero {m a b : Nat} {f : Nat → Int32} : cpr m a b 0 f f := fun i => by rw [if_neg (by omega)]
theorem cpr_step {m a b n : Nat} {f g g' : Nat → Int32} {i j k k' x : Int32} (h : cpr m a b k.toInt.toNat f g) (ex : x = g j.toNatClampNeg) (e : g' = upd g i.toNatClampNeg x) (k0 : 0 ≤ k.toInt) (hk : k.toInt < (m : Int)) (hi : i.toInt = ((m * b : Nat) : Int) + k.toInt) (hj : j.toInt = ((m * a : Nat) : Int) + k.toInt) (hab : m * a + m ≤ m * b ∨ m * b + m ≤ m * a) (hk' : k'.toInt = k.toInt + 1) : cpr m a b k'.toInt.toNat f g' := by
  have ii : i.toNatClampNeg = m * b + k.toInt.toNat := cv_at (by omega)
  have ij : j.toNatClampNeg = m * a + k.toInt.toNat := cv_at (by omega)
  intro v
  rw [e, ii]
  by_cases q : v = m * b + k.toInt.toNat
  · rw [q, pk_us, ex, ij, h, if_neg (by omega), if_pos (by omega)]
    congr 1
    omega
  · rw [pk_un q, h]
    by_cases w : m * b ≤ v ∧ v < m * b + k.toInt.toNat
    · rw [if_pos w, if_pos (by omega)]
    · rw [if_neg w, if_neg (by omega)]
theorem cpr_end {m a b k n : Nat} {f g : Nat → Int32} (h : cpr m a b k f g) (e : k = n) : cpr m a b n f g := e ▸ h
theorem cpr_hit {m a b : Nat} {f g : Nat → Int32} (h : cpr m a b m f g) : ∀ j, j < m → g (m * b + j) = f (m * a + j) := by
  intro j hj
  rw [h, if_pos (by omega)]
  congr 1
  omega
theorem cpr_miss {m a b i : Nat} {f g : Nat → Int32} (h : cpr m a b m f g) (hi : i < m * b ∨ m * b + m ≤ i) : g i = f i := by
  rw [h, if_neg (by omega)]
/-- what row(), write(), paste() of the reference say and do -/
def rmq (p0 p1 p2 : Int32) (w n w' n' : Nat → Int32) : Prop := ((0 ≤ p0.toInt ∧ p0.toInt < 4) ∧ (0 ≤ p1.toInt ∧ p1.toInt < 4) ∧ 0 ≤ p2.toInt ∧ p2.toInt ≤ 60 → w' = upd w p0.toNatClampNeg p1 ∧ n' = upd n p0.toNatClampNeg p2) ∧ (¬ ((0 ≤ p0.toInt ∧ p0.toInt < 4) ∧ (0 ≤ p1.toInt ∧ p1.toInt < 4) ∧ 0 ≤ p2.toInt ∧ p2.toInt ≤ 60) → w' = w ∧ n' = n)
def wrm (p0 p1 : Int32) (w n : Nat → Int32) : Int32 := if 0 ≤ p0.toInt ∧ p0.toInt < 4 then (if (w p0.toNatClampNeg).toInt = -1 then -6 else if 0 ≤ p1.toInt ∧ p1.toInt < (n p0.toNatClampNeg).toInt then 0 else -7) else -2
def psm (p0 p1 p2 p3 p4 : Int32) (w n : Nat → Int32) : Int32 := if (0 ≤ p0.toInt ∧ p0.toInt < 4) ∧ (0 ≤ p2.toInt ∧ p2.toInt < 4) then (if (w p0.toNatClampNeg).toInt = -1 ∨ (w p2.toNatClampNeg).toInt = -1 then -6 else if (w p0.toNatClampNeg).toInt ≠ (w p2.toNatClampNeg).toInt then -8 else if 0 ≤ p1.toInt ∧ 0 ≤ p3.toInt ∧ 0 ≤ p4.toInt ∧ p1.toInt + p4.toInt ≤ (n p0.toNatClampNeg).toInt ∧ p3.toInt + p4.toInt ≤ (n p2.toNatClampNeg).toInt then 0 else -7) else -2
/-- what is read: the HALL in the reference's fifth rows -/
def RI (b : Int) (h0 t0 l0 fh ft fl : Nat → Int32) : Prop := lo 16 h0 fh ∧ lo 28 t0 ft ∧ lo 96 l0 fl ∧ (2 ≤ (fh 16).toInt ∧ (fh 16).toInt ≤ 7) ∧ (0 ≤ (fh 17).toInt ∧ (fh 17).toInt ≤ 6) ∧ (fh 19).toInt = 0 ∧ (b = 0 → pm (fh 16).toInt (fun j => ft (28 + j))) ∧ lk (fh 16).toInt (fh 17).toInt (fun j => fl (96 + j))
def RJ (b n : Int) (h0 t0 l0 fh ft fl : Nat → Int32) : Prop := (n = 0 ∧ lo 16 h0 fh ∧ lo 28 t0 ft ∧ lo 96 l0 fl ∧ (fh 16).toInt = 0 ∧ (fh 17).toInt = 0 ∧ (fh 19).toInt = 0 ∧ idr 7 (fun j => ft (28 + j))) ∨ (1 ≤ n ∧ RI b h0 t0 l0 fh ft fl)
section RS
variable {b b' n n' : Int} {h0 t0 l0 fh ft fl fh' ft' fl' : Nat → Int32}
theorem RI.pl (h : RI b h0 t0 l0 fh ft fl) : (2 ≤ (fh 16).toInt ∧ (fh 16).toInt ≤ 7) ∧ (0 ≤ (fh 17).toInt ∧ (fh 17).toInt ≤ 6) := ⟨h.2.2.2.1, h.2.2.2.2.1⟩
theorem RI.lw (h : RI b h0 t0 l0 fh ft fl) : lk (fh 16).toInt (fh 17).toInt (fun j => fl (96 + j)) := h.2.2.2.2.2.2.2
theorem RI.bad (h : RI b h0 t0 l0 fh ft fl) (hb : b' = 0 → b = 0) : RI b' h0 t0 l0 fh ft fl := by
  obtain ⟨a1, a2, a3, a4, a5, a6, a7, a8⟩ := h
  exact ⟨a1, a2, a3, a4, a5, a6, fun q => a7 (hb q), a8⟩
theorem RI.hang (h : RI b h0 t0 l0 fh ft fl) (hl : lo 28 ft ft') (hp : b' = 0 → pm (fh 16).toInt (fun j => ft' (28 + j))) : RI b' h0 t0 l0 fh ft' fl := by
  obtain ⟨a1, a2, a3, a4, a5, a6, a7, a8⟩ := h
  exact ⟨a1, lo_trans a2 hl, a3, a4, a5, a6, hp, a8⟩
theorem RI.law (h : RI b h0 t0 l0 fh ft fl) (h1 : lo 16 fh fh') (h2 : fh' 16 = fh 16) (h3 : (fh' 17).toInt = (fh 17).toInt + 1) (h4 : fh' 19 = fh 19) (h5 : (fh 17).toInt ≤ 5) (h6 : lo 96 fl fl') (h7 : lk (fh 16).toInt ((fh 17).toInt + 1) (fun j => fl' (96 + j))) (hb : b' = 0 → b = 0) : RI b' h0 t0 l0 fh' ft fl' := by
  obtain ⟨a1, a2, a3, a4, a5, a6, a7, a8⟩ := h
  unfold RI
  rw [h2, h3, h4]
  exact ⟨lo_trans a1 h1, a2, lo_trans a3 h6, a4, ⟨by omega, by omega⟩, a6, fun q => a7 (hb q), h7⟩
theorem RI.leap {x : Int32} (h : RI b h0 t0 l0 fh ft fl) (e : fh' = upd fh 18 x) (hb : b' = 0 → b = 0) : RI b' h0 t0 l0 fh' ft fl := by
  obtain ⟨a1, a2, a3, a4, a5, a6, a7, a8⟩ := h
  have e16 : fh' 16 = fh 16 := by rw [e]; exact pk_un (by decide)
  have e17 : fh' 17 = fh 17 := by rw [e]; exact pk_un (by decide)
  have e19 : fh' 19 = fh 19 := by rw [e]; exact pk_un (by decide)
  unfold RI
  rw [e16, e17, e19]
  exact ⟨fun j hj => by rw [e, pk_un (by omega)]; exact a1 j hj, a2, a3, a4, a5, a6, fun q => a7 (hb q), a8⟩
theorem RJ.r (h : RJ b n h0 t0 l0 fh ft fl) (hn : n ≠ 0) : RI b h0 t0 l0 fh ft fl := by
  rcases h with h | h
  · exact absurd h.1 hn
  · exact h.2
theorem RJ.first {x : Int32} (h : RJ b n h0 t0 l0 fh ft fl) (hn : n = 0) (e : fh' = upd fh 16 x) (hx : 2 ≤ x.toInt ∧ x.toInt ≤ 7) : RI b' h0 t0 l0 fh' ft fl := by
  rcases h with ⟨-, a1, a2, a3, a4, a5, a6, a7⟩ | h
  · have e16 : fh' 16 = x := by rw [e, pk_us]
    have e17 : fh' 17 = fh 17 := by rw [e]; exact pk_un (by decide)
    have e19 : fh' 19 = fh 19 := by rw [e]; exact pk_un (by decide)
    unfold RI
    rw [e16, e17, e19, a5]
    exact ⟨fun j hj => by rw [e, pk_un (by omega)]; exact a1 j hj, a2, a3, hx, ⟨by decide, by decide⟩, a6, fun _ => idr_pm a7 hx.2, fun l hl => by omega⟩
  · exact absurd h.1 (by omega)
theorem RJ.more (h : RI b h0 t0 l0 fh ft fl) (hb : b' = 0 → b = 0) (hn : 1 ≤ n) : RJ b' n h0 t0 l0 fh ft fl := Or.inr ⟨hn, h.bad hb⟩
theorem RJ.bad (h : RJ b n h0 t0 l0 fh ft fl) (hb : b' = 0 → b = 0) : RJ b' n h0 t0 l0 fh ft fl := by
  rcases h with h | h
  · exact Or.inl h
  · exact Or.inr ⟨h.1, h.2.bad hb⟩
theorem RJ.lo (h : RJ b n h0 t0 l0 fh ft fl) : lo 16 h0 fh ∧ lo 28 t0 ft ∧ lo 96 l0 fl := by
  rcases h with ⟨-, a1, a2, a3, -⟩ | ⟨-, a1, a2, a3, -⟩
  · exact ⟨a1, a2, a3⟩
  · exact ⟨a1, a2, a3⟩
theorem RJ.leap {x : Int32} (h : RJ b n h0 t0 l0 fh ft fl) (e : fh' = upd fh 18 x) : RJ b n h0 t0 l0 fh' ft fl := by
  rcases h with ⟨a0, a1, a2, a3, a4, a5, a6, a7⟩ | h
  · left
    have e16 : fh' 16 = fh 16 := by rw [e]; exact pk_un (by decide)
    have e17 : fh' 17 = fh 17 := by rw [e]; exact pk_un (by decide)
    have e19 : fh' 19 = fh 19 := by rw [e]; exact pk_un (by decide)
    rw [e16, e17, e19]
    exact ⟨a0, fun j hj => by rw [e, pk_un (by omega)]; exact a1 j hj, a2, a3, a4, a5, a6, a7⟩
  · exact Or.inr ⟨h.1, h.2.leap e (fun q => q)⟩
theorem RJ.q {fli fa : Nat → Int32} (h : RJ 0 (fli 4).toInt h0 t0 l0 fh ft fl) : HQ 4 fli fh ft fl fa := by
  rcases h with ⟨a0, a1, a2, a3, a4, a5, a6, a7⟩ | ⟨a0, a1, a2, a3, a4, a5, a6, a7, a8⟩
  · refine ⟨Or.inl a4, ⟨?_, ?_⟩, ⟨?_, ?_⟩, ?_, ?_, ?_, fun q => ?_⟩
    · show 0 ≤ (fh 17).toInt; omega
    · show (fh 17).toInt ≤ 6; omega
    · show 0 ≤ (fh 19).toInt; omega
    · show (fh 19).toInt ≤ 40; omega
    · show pm (fh 16).toInt _; rw [a4]; exact ⟨fun j hj => by omega, fun v _ _ => by omega⟩
    · show lk (fh 16).toInt (fh 17).toInt _; rw [a5]; exact fun l hl => by omega
    · show ak (fh 16).toInt (fh 19).toInt _; rw [a6]; exact fun l hl => by omega
    · omega
  · refine ⟨Or.inr a4, a5, ⟨?_, ?_⟩, a7 rfl, a8, ?_, fun _ => a4.1⟩
    · show 0 ≤ (fh 19).toInt; omega
    · show (fh 19).toInt ≤ 40; omega
    · show ak (fh 16).toInt (fh 19).toInt _; rw [a6]; exact fun l hl => by omega
end RS
/-- hangLine -/
def HG (b p : Int) (l : Int32) (pl : Int) (f : Nat → Int32) : Prop := b = 0 → cb l 7 = p ∧ mw p l f ∧ rb pl p f
theorem HG.zero {b pl : Int} {f : Nat → Int32} : HG b 0 0 pl f := fun _ => ⟨by decide, mw_zero, rb_init⟩
theorem HG.no {b p : Int} {l : Int32} {pl : Int} {f : Nat → Int32} (h : b ≠ 0) : HG b p l pl f := fun q => absurd q h
theorem HG.step {b b' : Int} {l l' a r p q x y v : Int32} {pl : Int} {f f' : Nat → Int32} (h : HG b p.toInt l pl f) (ey : y = l >>> (v &&& 31)) (exy : x = y &&& 1) (hx : x.toInt ≠ 1) (ea : a = (1 : Int32) <<< (r &&& 31)) (e : l' = l ||| a) (ef : f' = upd f p.toNatClampNeg r) (hr : r.toInt = v.toInt) (hb : b = 0) (hl : 0 ≤ l.toInt ∧ l.toInt ≤ 127) (hh : 0 ≤ r.toInt ∧ r.toInt < pl) (h7 : pl ≤ 7) (p0 : 0 ≤ p.toInt) (hq : q.toInt = p.toInt + 1) : HG b' q.toInt l' pl f' := by
  intro _
  obtain ⟨c1, c2, c3⟩ := h hb
  have er : r = v := Int32.toInt_inj.mp hr
  have hbit : ¬ (l >>> (r &&& 31)) &&& 1 = 1 := by
    rw [er, ← ey, ← exy]
    intro z
    apply hx
    rw [z]
    rfl
  refine ⟨?_, mw_step c2 ea e ef hl ⟨hh.1, by omega⟩ p0 hq, rb_step c3 ef hh.1 hh.2 p0 hq⟩
  rw [cb_inc hbit ea e hl ⟨hh.1, by omega⟩, c1, hq]
theorem HG.pm {b : Int} {l p : Int32} {pl : Int} {f : Nat → Int32} (h : HG b p.toInt l pl f) (hb : b = 0) (hp : p.toInt = pl) (h0 : 0 ≤ pl) (h7 : pl ≤ 7) : pm pl f := by
  obtain ⟨c1, c2, c3⟩ := h hb
  exact mw_pm c2 c3 (by omega) hp h7 h0
/-- the first i numbers, from n on, are another row's -/
def agn (n : Nat) (i : Int) (f g : Nat → Int32) : Prop := ∀ j : Nat, (j : Int) < i → g (n + j) = f j
theorem agn_zero {n : Nat} {f g : Nat → Int32} : agn n 0 f g := fun j h => by omega
theorem agn_step {n : Nat} {i j k x : Int32} {f g g' : Nat → Int32} (h : agn n i.toInt f g) (ex : x = f i.toNatClampNeg) (e : g' = upd g k.toNatClampNeg x) (h0 : 0 ≤ i.toInt) (hk : k.toInt = (n : Int) + i.toInt) (hj : j.toInt = i.toInt + 1) : agn n j.toInt f g' := by
  intro v hv
  rw [e, cv_at (n := n + i.toInt.toNat) (x := k) (by omega)]
  by_cases q : v = i.toInt.toNat
  · rw [q, pk_us, ex]
    rfl
  · rw [pk_un (by omega)]
    exact h v (by omega)
theorem agn_pm {n : Nat} {i : Int} {pl : Int} {f g : Nat → Int32} (h : agn n i f g) (hf : pm pl f) (hi : pl ≤ i) : pm pl (fun j => g (n + j)) := pm_cong hf (fun j hj => h j (by omega))
def idn (n : Nat) (i : Int) (f : Nat → Int32) : Prop := ∀ j : Nat, (j : Int) < i → (f (n + j)).toInt = j
theorem idn_zero {n : Nat} {f : Nat → Int32} : idn n 0 f := fun j h => by omega
theorem idn_step {n : Nat} {i j k : Int32} {f f' : Nat → Int32} (h : idn n i.toInt f) (e : f' = upd f k.toNatClampNeg i) (h0 : 0 ≤ i.toInt) (hk : k.toInt = (n : Int) + i.toInt) (hj : j.toInt = i.toInt + 1) : idn n j.toInt f' := by
  intro v hv
  rw [e, cv_at (n := n + i.toInt.toNat) (x := k) (by omega)]
  by_cases q : v = i.toInt.toNat
  · rw [q, pk_us]; omega
  · rw [pk_un (by omega)]
    exact h v (by omega)
theorem lk_more {pl n : Int} {f f1 f2 f3 f4 : Nat → Int32} {i0 i1 i2 i3 a b c d : Int32} (h : lk pl n (fun j => f (96 + j))) (e1 : f1 = upd f i0.toNatClampNeg a) (e2 : f2 = upd f1 i1.toNatClampNeg b) (e3 : f3 = upd f2 i2.toNatClampNeg c) (e4 : f4 = upd f3 i3.toNatClampNeg d) (n0 : 0 ≤ n) (h0 : i0.toInt = 96 + 4 * n) (h1 : i1.toInt = 96 + 4 * n + 1) (h2 : i2.toInt = 96 + 4 * n + 2) (h3 : i3.toInt = 96 + 4 * n + 3) (ha : 0 ≤ a.toInt ∧ a.toInt < pl) (hb : 0 ≤ b.toInt ∧ b.toInt < pl) (hc : 1 ≤ c.toInt ∧ c.toInt ≤ 6) : lk pl (n + 1) (fun j => f4 (96 + j)) := by
  have j0 : i0.toNatClampNeg = 96 + 4 * n.toNat := cv_at (by omega)
  have j1 : i1.toNatClampNeg = 96 + (4 * n.toNat + 1) := cv_at (by omega)
  have j2 : i2.toNatClampNeg = 96 + (4 * n.toNat + 2) := cv_at (by omega)
  have j3 : i3.toNatClampNeg = 96 + (4 * n.toNat + 3) := cv_at (by omega)
  have at_ : ∀ v, f4 (96 + v) = if v = 4 * n.toNat + 3 then d else if v = 4 * n.toNat + 2 then c else if v = 4 * n.toNat + 1 then b else if v = 4 * n.toNat then a else f (96 + v) := by
    intro v
    rw [e4, e3, e2, e1, j0, j1, j2, j3]
    unfold upd
    by_cases q3 : v = 4 * n.toNat + 3
    · rw [if_pos (by omega), if_pos q3]
    · rw [if_neg (by omega), if_neg q3]
      by_cases q2 : v = 4 * n.toNat + 2
      · rw [if_pos (by omega), if_pos q2]
      · rw [if_neg (by omega), if_neg q2]
        by_cases q1 : v = 4 * n.toNat + 1
        · rw [if_pos (by omega), if_pos q1]
        · rw [if_neg (by omega), if_neg q1]
          by_cases q0 : v = 4 * n.toNat
          · rw [if_pos (by omega), if_pos q0]
          · rw [if_neg (by omega), if_neg q0]
  intro l hl
  show (0 ≤ (f4 (96 + 4 * l)).toInt ∧ (f4 (96 + 4 * l)).toInt < pl) ∧ (0 ≤ (f4 (96 + (4 * l + 1))).toInt ∧ (f4 (96 + (4 * l + 1))).toInt < pl) ∧ (1 ≤ (f4 (96 + (4 * l + 2))).toInt ∧ (f4 (96 + (4 * l + 2))).toInt ≤ 6)
  by_cases q : (l : Int) < n
  · have w := h l q
    rw [at_, at_, at_, if_neg (by omega), if_neg (by omega), if_neg (by omega), if_neg (by omega), if_neg (by omega), if_neg (by omega), if_neg (by omega), if_neg (by omega), if_neg (by omega), if_neg (by omega), if_neg (by omega), if_neg (by omega)]
    exact w
  · have el : l = n.toNat := by omega
    rw [at_, at_, at_, el]
    rw [if_neg (by omega), if_neg (by omega), if_neg (by omega), if_pos rfl, if_neg (by omega), if_neg (by omega), if_pos rfl, if_neg (by omega), if_pos rfl]
    exact ⟨ha, hb, hc⟩
def hz (n : Nat) (i : Int) (f : Nat → Int32) : Prop := ∀ j : Nat, (j : Int) < i → (f (n + j)).toInt = 0
theorem hz_zero {n : Nat} {f : Nat → Int32} : hz n 0 f := fun j h => by omega
theorem hz_step {n : Nat} {i j k : Int32} {f f' : Nat → Int32} (h : hz n i.toInt f) (e : f' = upd f k.toNatClampNeg 0) (h0 : 0 ≤ i.toInt) (hk : k.toInt = (n : Int) + i.toInt) (hj : j.toInt = i.toInt + 1) : hz n j.toInt f' := by
  intro v hv
  rw [e, cv_at (n := n + i.toInt.toNat) (x := k) (by omega)]
  by_cases q : v = i.toInt.toNat
  · rw [q, pk_us]; rfl
  · rw [pk_un (by omega)]
    exact h v (by omega)
theorem nx_step {a a0 x : Int32} {t : Int} (h : (a = a0 ∨ a0.toInt + 1 ≤ a.toInt) ∧ a.toInt ≤ t) (e : x.toInt = a.toInt + 1) (ht : a.toInt < t) : (x = a0 ∨ a0.toInt + 1 ≤ x.toInt) ∧ x.toInt ≤ t := by
  refine ⟨Or.inr ?_, by omega⟩
  rcases h.1 with q | q
  · rw [e, q]; exact Int.le_refl _
  · omega
theorem nx_at {a a0 : Int32} {t m : Int} (h : (a = a0 ∨ a0.toInt + 1 ≤ a.toInt) ∧ a.toInt ≤ t) (hm : m ≤ a0.toInt) : m ≤ a.toInt ∧ a.toInt ≤ t := by
  refine ⟨?_, h.2⟩
  rcases h.1 with q | q
  · rw [q]; exact hm
  · omega
theorem nx_end {a a0 : Int32} {t m l u : Int} {f : Nat → Int32} (h : (a = a0 ∨ a0.toInt + 1 ≤ a.toInt) ∧ a.toInt ≤ t) (h1 : a0.toInt < t ∧ l ≤ (f a0.toNatClampNeg).toInt ∧ (f a0.toNatClampNeg).toInt ≤ u) (h2 : ¬ (a.toInt < t ∧ l ≤ (f a.toNatClampNeg).toInt ∧ (f a.toNatClampNeg).toInt ≤ u)) (hm : m ≤ a0.toInt) : m + 1 ≤ a.toInt := by
  rcases h.1 with q | q
  · rw [q] at h2
    exact absurd h1 h2
  · omega
theorem hz_next {n : Nat} {i k : Int32} {f f' : Nat → Int32} (h : hz n i.toInt f) (e : f' = upd f k.toNatClampNeg 0) (h0 : 0 ≤ i.toInt) (hk : k.toInt = (n : Int) + i.toInt) : hz n (i.toInt + 1) f' := by
  intro v hv
  rw [e, cv_at (n := n + i.toInt.toNat) (x := k) (by omega)]
  by_cases q : v = i.toInt.toNat
  · rw [q, pk_us]; rfl
  · rw [pk_un (by omega)]
    exact h v (by omega)

/-- a row of all HEADS of n PLACES, each once -/
def pm (n : Int) (f : Nat → Int32) : Prop := (∀ j : Nat, (j : Int) < n → 0 ≤ (f j).toInt ∧ (f j).toInt < n) ∧ ∀ v : Int, 0 ≤ v → v < n → ∃ j : Nat, (j : Int) < n ∧ (f j).toInt = v
theorem pm_cong {n : Int} {f g : Nat → Int32} (h : pm n f) (e : ∀ j : Nat, (j : Int) < n → g j = f j) : pm n g := by
  refine ⟨fun j hj => by rw [e j hj]; exact h.1 j hj, fun v h0 h1 => ?_⟩
  obtain ⟨j, hj, q⟩ := h.2 v h0 h1
  exact ⟨j, hj, by rw [e j hj]; exact q⟩
theorem pm_swap {n : Int} {f g g' : Nat → Int32} {a b x y : Int32} (h : pm n f) (ex : x = f a.toNatClampNeg) (ey : y = f b.toNatClampNeg) (e1 : g = upd f a.toNatClampNeg y) (e2 : g' = upd g b.toNatClampNeg x) (ha0 : 0 ≤ a.toInt) (ha : a.toInt < n) (hb0 : 0 ≤ b.toInt) (hb : b.toInt < n) : pm n g' := by
  have ia : (a.toNatClampNeg : Int) = a.toInt := by show ((a.toInt.toNat : Nat) : Int) = _; omega
  have ib : (b.toNatClampNeg : Int) = b.toInt := by show ((b.toInt.toNat : Nat) : Int) = _; omega
  have hx := h.1 a.toNatClampNeg (by omega)
  have hy := h.1 b.toNatClampNeg (by omega)
  rw [← ex] at hx
  rw [← ey] at hy
  have gb : g' b.toNatClampNeg = x := by rw [e2, pk_us]
  have ga : a.toNatClampNeg ≠ b.toNatClampNeg → g' a.toNatClampNeg = y := fun q => by rw [e2, pk_un q, e1, pk_us]
  have go : ∀ j, j ≠ a.toNatClampNeg → j ≠ b.toNatClampNeg → g' j = f j := fun j h1 h2 => by rw [e2, pk_un h2, e1, pk_un h1]
  refine ⟨fun j hj => ?_, fun v h0 h1 => ?_⟩
  · by_cases q : j = b.toNatClampNeg
    · rw [q, gb]; exact hx
    · by_cases q2 : j = a.toNatClampNeg
      · rw [q2, ga (by rw [← q2]; exact q)]; exact hy
      · rw [go j q2 q]; exact h.1 j hj
  · obtain ⟨j, hj, e⟩ := h.2 v h0 h1
    by_cases q : j = b.toNatClampNeg
    · by_cases q2 : a.toNatClampNeg = b.toNatClampNeg
      · refine ⟨b.toNatClampNeg, by omega, ?_⟩
        rw [gb, ex, q2, ← q]; exact e
      · refine ⟨a.toNatClampNeg, by omega, ?_⟩
        rw [ga q2, ey, ← q]; exact e
    · by_cases q2 : j = a.toNatClampNeg
      · refine ⟨b.toNatClampNeg, by omega, ?_⟩
        rw [gb, ex, ← q2]; exact e
      · exact ⟨j, hj, by rw [go j q2 q]; exact e⟩
/-- the LAWS of a HALL, its acts -/
def lk (pl n : Int) (f : Nat → Int32) : Prop := ∀ l : Nat, (l : Int) < n → (0 ≤ (f (4 * l)).toInt ∧ (f (4 * l)).toInt < pl) ∧ (0 ≤ (f (4 * l + 1)).toInt ∧ (f (4 * l + 1)).toInt < pl) ∧ (1 ≤ (f (4 * l + 2)).toInt ∧ (f (4 * l + 2)).toInt ≤ 6)
def ak (pl n : Int) (f : Nat → Int32) : Prop := ∀ k : Nat, (k : Int) < n → (f (2 * k)).toInt = -1 ∨ ((0 ≤ (f (2 * k)).toInt ∧ (f (2 * k)).toInt < pl) ∧ (0 ≤ (f (2 * k + 1)).toInt ∧ (f (2 * k + 1)).toInt < pl))
theorem cv_at {x : Int32} {n : Nat} (h : x.toInt = (n : Int)) : x.toNatClampNeg = n := by
  show x.toInt.toNat = n
  omega
theorem lk_0 {pl n : Int} {f : Nat → Int32} {l i x : Int32} (h : lk pl n f) (ex : x = f i.toNatClampNeg) (h0 : 0 ≤ l.toInt) (hl : l.toInt < n) (hi : i.toInt = 4 * l.toInt) : 0 ≤ x.toInt ∧ x.toInt < pl := by
  have q := h l.toInt.toNat (by omega)
  rw [ex, cv_at (n := 4 * l.toInt.toNat) (by omega)]
  exact q.1
theorem lk_1 {pl n : Int} {f : Nat → Int32} {l i x : Int32} (h : lk pl n f) (ex : x = f i.toNatClampNeg) (h0 : 0 ≤ l.toInt) (hl : l.toInt < n) (hi : i.toInt = 4 * l.toInt + 1) : 0 ≤ x.toInt ∧ x.toInt < pl := by
  have q := h l.toInt.toNat (by omega)
  rw [ex, cv_at (n := 4 * l.toInt.toNat + 1) (by omega)]
  exact q.2.1
theorem lk_2 {pl n : Int} {f : Nat → Int32} {l i x : Int32} (h : lk pl n f) (ex : x = f i.toNatClampNeg) (h0 : 0 ≤ l.toInt) (hl : l.toInt < n) (hi : i.toInt = 4 * l.toInt + 2) : 1 ≤ x.toInt ∧ x.toInt ≤ 6 := by
  have q := h l.toInt.toNat (by omega)
  rw [ex, cv_at (n := 4 * l.toInt.toNat + 2) (by omega)]
  exact q.2.2
theorem ak_0 {pl n : Int} {f : Nat → Int32} {k i j x y : Int32} (h : ak pl n f) (ex : x = f i.toNatClampNeg) (ey : y = f j.toNatClampNeg) (h0 : 0 ≤ k.toInt) (hk : k.toInt < n) (hi : i.toInt = 2 * k.toInt) (hj : j.toInt = 2 * k.toInt) (hx : x.toInt ≠ -1) : 0 ≤ y.toInt ∧ y.toInt < pl := by
  have q := h k.toInt.toNat (by omega)
  rw [cv_at (n := 2 * k.toInt.toNat) (by omega)] at ex ey
  rw [← ex] at q
  rw [ey, ← ex]
  rcases q with q | q
  · exact absurd q hx
  · exact q.1
theorem ak_1 {pl n : Int} {f : Nat → Int32} {k i j x y : Int32} (h : ak pl n f) (ex : x = f i.toNatClampNeg) (ey : y = f j.toNatClampNeg) (h0 : 0 ≤ k.toInt) (hk : k.toInt < n) (hi : i.toInt = 2 * k.toInt) (hj : j.toInt = 2 * k.toInt + 1) (hx : x.toInt ≠ -1) : 0 ≤ y.toInt ∧ y.toInt < pl := by
  have q := h k.toInt.toNat (by omega)
  rw [cv_at (n := 2 * k.toInt.toNat) (by omega)] at ex
  rw [cv_at (n := 2 * k.toInt.toNat + 1) (by omega)] at ey
  rw [← ex] at q
  rw [ey]
  rcases q with q | q
  · exact absurd q hx
  · exact q.2
/-- the first i numbers are those of another row -/
def agr (i : Int) (f g : Nat → Int32) : Prop := ∀ j : Nat, (j : Int) < i → g j = f j
theorem agr_zero {f g : Nat → Int32} : agr 0 f g := fun j h => by omega
theorem agr_step {i j x : Int32} {f g g' : Nat → Int32} (h : agr i.toInt f g) (ex : x = f i.toNatClampNeg) (e : g' = upd g i.toNatClampNeg x) (h0 : 0 ≤ i.toInt) (hj : j.toInt = i.toInt + 1) : agr j.toInt f g' := by
  intro k hk
  rw [e]
  by_cases q : k = i.toNatClampNeg
  · rw [q, pk_us, ex]
  · rw [pk_un q]
    refine h k ?_
    have : (i.toNatClampNeg : Int) = i.toInt := by show ((i.toInt.toNat : Nat) : Int) = _; omega
    omega
theorem agr_pm {n i : Int} {f g : Nat → Int32} (h : agr i f g) (hf : pm n f) (hi : n ≤ i) : pm n g := pm_cong hf (fun j hj => h j (by omega))
/-- to look for what is there: the place of it isn't behind -/
theorem pm_ne {f : Nat → Int32} {p x : Int32} {v : Int} {j0 : Nat} (ex : x = f p.toNatClampNeg) (hj : (f j0).toInt = v) (hx : x.toInt ≠ v) (h0 : 0 ≤ p.toInt) (hp : p.toInt ≤ (j0 : Int)) : p.toInt + 1 ≤ (j0 : Int) := by
  rcases Int.lt_or_le p.toInt (j0 : Int) with q | q
  · omega
  · exfalso
    apply hx
    rw [ex, cv_at (n := j0) (by omega)]
    exact hj
theorem and1 {x : Int32} (h : ¬ x &&& 1 = 1) : x &&& 1 = 0 := by
  have q := cv_andR (x := x) (y := 1) (m := 1) (by decide) (by decide)
  rcases (show (x &&& 1).toInt = 0 ∨ (x &&& 1).toInt = 1 by omega) with e | e
  · exact Int32.toInt_inj.mp e
  · exact absurd (Int32.toInt_inj.mp e) h
theorem cb_inc {k k' h a : Int32} (hb : ¬ (k >>> (h &&& 31)) &&& 1 = 1) (ea : a = (1 : Int32) <<< (h &&& 31)) (e : k' = k ||| a) (hk : 0 ≤ k.toInt ∧ k.toInt ≤ 127) (hh : 0 ≤ h.toInt ∧ h.toInt ≤ 6) : cb k' 7 = cb k 7 + 1 := by
  obtain ⟨n, -, e1, e2⟩ := cv_nn hk.1
  obtain ⟨g, -, e3, e4⟩ := cv_nn hh.1
  have q := and1 hb
  rw [e, ea, e1, e3, cb_or (by omega) (by omega) 7 (by omega), if_pos ⟨by omega, by rw [← e1, ← e3]; exact q⟩]
theorem cb_low : ∀ n, n < 128 → n ≠ 0 → cb (nI n &&& (nI n - 1)) 7 = cb (nI n) 7 - 1 := by decide +kernel
theorem cb_lowI {v w x : Int32} (ew : w = v - 1) (ex : x = v &&& w) (hv : 0 ≤ v.toInt ∧ v.toInt ≤ 127) (h0 : v.toInt ≠ 0) : cb x 7 = cb v 7 - 1 := by
  obtain ⟨n, -, e1, e2⟩ := cv_nn hv.1
  rw [ex, ew, e1]
  exact cb_low n (by omega) (by omega)
theorem cb_mono (k : Int32) : ∀ {n m : Nat}, n ≤ m → cb k n ≤ cb k m := by
  intro n m h
  induction m with
  | zero => rw [Nat.le_zero.mp h]; exact Int.le_refl _
  | succ m ih =>
    rcases Nat.lt_or_ge n (m + 1) with q | q
    · have := ih (by omega)
      show cb k n ≤ cb k m + _
      split <;> omega
    · rw [show n = m + 1 by omega]; exact Int.le_refl _
theorem cb_full (k : Int32) : ∀ {n : Nat}, cb k n = n → ∀ j, j < n → ¬ (k >>> (nI j &&& 31)) &&& 1 = 0
  | 0, _, j, hj => absurd hj (Nat.not_lt_zero _)
  | n + 1, h, j, hj => by
    have h1 : cb k n + (if (k >>> (nI n &&& 31)) &&& 1 = 0 then 0 else 1) = ((n + 1 : Nat) : Int) := h
    have h2 := cb_le k n
    by_cases q : (k >>> (nI n &&& 31)) &&& 1 = 0
    · rw [if_pos q] at h1; omega
    · rw [if_neg q] at h1
      rcases Nat.lt_or_ge j n with g | g
      · exact cb_full k (n := n) (by omega) j g
      · rw [show j = n by omega]; exact q
theorem cb_none (k : Int32) : ∀ {n : Nat}, cb k n = 0 → ∀ j, j < n → (k >>> (nI j &&& 31)) &&& 1 = 0
  | 0, _, j, hj => absurd hj (Nat.not_lt_zero _)
  | n + 1, h, j, hj => by
    have h1 : cb k n + (if (k >>> (nI n &&& 31)) &&& 1 = 0 then 0 else 1) = 0 := h
    have h2 := cb_le k n
    by_cases q : (k >>> (nI n &&& 31)) &&& 1 = 0
    · rw [if_pos q] at h1
      rcases Nat.lt_or_ge j n with g | g
      · exact cb_none k (n := n) (by omega) j g
      · rw [show j = n by omega]; exact q
    · rw [if_neg q] at h1; omega
def fct (n : Int) : Int := ([1, 1, 2, 6, 24, 120, 720, 5040] : List Int).getD n.toNat 1
theorem fct_b {n : Int} (h0 : 0 ≤ n) (h : n ≤ 7) : 1 ≤ fct n ∧ fct n ≤ 5040 := by
  obtain ⟨k, rfl⟩ := Int.eq_ofNat_of_zero_le h0
  exact (by decide : ∀ k : Nat, k < 8 → 1 ≤ fct (k : Int) ∧ fct (k : Int) ≤ 5040) k (by omega)
theorem fct_s {n m : Int} (h0 : 0 ≤ n) (h : n ≤ 6) (e : m = n + 1) : fct m = m * fct n := by
  obtain ⟨k, rfl⟩ := Int.eq_ofNat_of_zero_le h0
  subst e
  exact (by decide : ∀ k : Nat, k < 7 → fct ((k : Int) + 1) = ((k : Int) + 1) * fct (k : Int)) k (by omega)
theorem cv_mulB {x y : Int32} (a b : Int) (hx0 : 0 ≤ x.toInt) (hx : x.toInt ≤ a) (hy0 : 0 ≤ y.toInt) (hy : y.toInt ≤ b) (hab : a * b < 2147483648) : (x * y).toInt = x.toInt * y.toInt ∧ 0 ≤ x.toInt * y.toInt ∧ x.toInt * y.toInt ≤ a * b := by
  have h1 : x.toInt * y.toInt ≤ a * b := Int.mul_le_mul hx hy hy0 (Int.le_trans hx0 hx)
  have h0 : 0 ≤ x.toInt * y.toInt := Int.mul_nonneg hx0 hy0
  exact ⟨cv_mulI (by omega) (by omega), h0, h1⟩
/-- rankOf: the numbers that were met so far -/
theorem rank_step {n m x n' less p pl : Int} (h : (n + 1) * fct (pl - p) ≤ fct pl) (hm : m = pl - p) (hx : x = n * m) (hn : n' = x + less) (hl : less ≤ m - 1) (hl0 : 0 ≤ less) (h0 : 0 ≤ n) (hp0 : 0 ≤ p) (hp : p < pl) (h7 : pl ≤ 7) : (n' + 1) * fct (pl - (p + 1)) ≤ fct pl ∧ 0 ≤ n' ∧ n' + 1 ≤ fct pl := by
  have e1 : fct m = m * fct (m - 1) := fct_s (by omega) (by omega) (by omega)
  have b1 := fct_b (n := m - 1) (by omega) (by omega)
  have e2 : pl - (p + 1) = m - 1 := by omega
  have e3 : (n + 1) * m = n * m + m := by rw [Int.add_mul, Int.one_mul]
  have h1 : n' + 1 ≤ (n + 1) * m := by rw [e3]; omega
  have h2 : (n' + 1) * fct (m - 1) ≤ (n + 1) * m * fct (m - 1) := Int.mul_le_mul_of_nonneg_right h1 (by omega)
  rw [hm.symm, e1, ← Int.mul_assoc] at h
  have hnm : 0 ≤ n * m := Int.mul_nonneg h0 (by omega)
  have h4 : (n' + 1) * fct (m - 1) ≤ fct pl := Int.le_trans h2 h
  have h5 : (n' + 1) * 1 ≤ (n' + 1) * fct (m - 1) := Int.mul_le_mul_of_nonneg_left b1.1 (by omega)
  rw [e2]
  refine ⟨h4, by omega, ?_⟩
  rw [Int.mul_one] at h5
  omega
theorem div_lt {r b k m : Int} (hk : k = r / b) (hb : 0 < b) (h : r < m * b) : k < m := by
  rw [hk]
  exact Int.ediv_lt_of_lt_mul hb h
/-- rowOf: what isn't hung yet, what is -/
def rc (pl p : Int) (l : Int32) (f : Nat → Int32) : Prop := ∀ v : Nat, (v : Int) < pl → ¬ (l >>> (nI v &&& 31)) &&& 1 = 0 ∨ ∃ j : Nat, (j : Int) < p ∧ (f j).toInt = v
def rb (pl p : Int) (f : Nat → Int32) : Prop := ∀ j : Nat, (j : Int) < p → 0 ≤ (f j).toInt ∧ (f j).toInt < pl
theorem row_tab : ∀ n, n < 8 → cb (((1 : Int32) <<< (nI n &&& 31)) - 1) n = n := by decide
theorem row_init {a b pl : Int32} (ea : a = (1 : Int32) <<< (pl &&& 31)) (eb : b = a - 1) (h0 : 0 ≤ pl.toInt) (h : pl.toInt ≤ 7) : cb b pl.toInt.toNat = pl.toInt := by
  obtain ⟨n, -, e1, e2⟩ := cv_nn h0
  rw [eb, ea, e2, e1]
  rw [e2] at h
  exact row_tab n (by omega)
theorem rc_init {b : Int32} {pl : Int} {f : Nat → Int32} (h : cb b pl.toNat = pl) (h0 : 0 ≤ pl) : rc pl 0 b f := fun v hv => Or.inl (cb_full b (n := pl.toNat) (by omega) v (by omega))
theorem rb_init {pl : Int} {f : Nat → Int32} : rb pl 0 f := fun j hj => by omega
theorem nI_self {h : Int32} (h0 : 0 ≤ h.toInt) : nI h.toInt.toNat = h := by
  obtain ⟨n, -, e1, e2⟩ := cv_nn h0
  rw [e2, e1]
  rfl
theorem cb_at1 {k h h' : Int32} (hb : (k >>> (h &&& 31)) &&& 1 = 1) (h0 : 0 ≤ h.toInt) (e : h'.toInt = h.toInt + 1) : cb k h'.toInt.toNat = cb k h.toInt.toNat + 1 := by
  rw [show h'.toInt.toNat = h.toInt.toNat + 1 by omega]
  show cb k h.toInt.toNat + (if (k >>> (nI h.toInt.toNat &&& 31)) &&& 1 = 0 then 0 else 1) = _
  rw [nI_self h0, hb, if_neg (by decide)]
theorem cb_at0 {k h h' : Int32} (hb : ¬ (k >>> (h &&& 31)) &&& 1 = 1) (h0 : 0 ≤ h.toInt) (e : h'.toInt = h.toInt + 1) : cb k h'.toInt.toNat = cb k h.toInt.toNat := by
  rw [show h'.toInt.toNat = h.toInt.toNat + 1 by omega]
  show cb k h.toInt.toNat + (if (k >>> (nI h.toInt.toNat &&& 31)) &&& 1 = 0 then 0 else 1) = _
  rw [nI_self h0, if_pos (and1 hb)]
  omega
theorem cb_lt {k : Int32} {a b : Nat} (h : cb k a < cb k b) : a < b := by
  rcases Nat.lt_or_ge a b with q | q
  · exact q
  · have := cb_mono k q
    omega
theorem clr_tab : ∀ k, k < 128 → ∀ h, h < 7 → ∀ j, j < 7 → ((nI k &&& (((1 : Int32) <<< (nI h &&& 31)) ^^^ (-1))) >>> (nI j &&& 31)) &&& 1 = if j = h then 0 else (nI k >>> (nI j &&& 31)) &&& 1 := by decide +kernel
theorem cb_clr {k h : Nat} (hk : k < 128) (hh : h < 7) : ∀ n, n ≤ 7 → cb (nI k &&& (((1 : Int32) <<< (nI h &&& 31)) ^^^ (-1))) n = cb (nI k) n - (if h < n ∧ ¬ (nI k >>> (nI h &&& 31)) &&& 1 = 0 then 1 else 0)
  | 0, _ => by rw [if_neg (by omega)]; rfl
  | n + 1, hn => by
    show cb _ n + _ = cb _ n + _ - _
    rw [cb_clr hk hh n (by omega), clr_tab k hk h hh n (by omega)]
    by_cases e : n = h
    · subst e
      rw [if_pos rfl, if_pos rfl]
      by_cases q : (nI k >>> (nI n &&& 31)) &&& 1 = 0
      · rw [if_neg (by omega), if_pos q, if_neg (fun z => z.2 q)]; omega
      · rw [if_neg (by omega), if_neg q, if_pos ⟨by omega, q⟩]; omega
    · rw [if_neg e]
      have e2 : (if h < n ∧ ¬ (nI k >>> (nI h &&& 31)) &&& 1 = 0 then (1 : Int) else 0) = if h < n + 1 ∧ ¬ (nI k >>> (nI h &&& 31)) &&& 1 = 0 then 1 else 0 := by
        by_cases q : h < n ∧ ¬ (nI k >>> (nI h &&& 31)) &&& 1 = 0
        · rw [if_pos q, if_pos ⟨by omega, q.2⟩]
        · rw [if_neg q, if_neg (fun z => q ⟨by omega, z.2⟩)]
      rw [e2]
      omega
theorem row_clr {l l' h a b : Int32} {pl : Int} (hb : (l >>> (h &&& 31)) &&& 1 = 1) (ea : a = (1 : Int32) <<< (h &&& 31)) (eb : b = a ^^^ (-1)) (e : l' = l &&& b) (hl : 0 ≤ l.toInt ∧ l.toInt ≤ 127) (h0 : 0 ≤ h.toInt) (hp : h.toInt < pl) (h7 : pl ≤ 7) : cb l' pl.toNat = cb l pl.toNat - 1 := by
  obtain ⟨n, -, e1, e2⟩ := cv_nn hl.1
  obtain ⟨g, -, e3, e4⟩ := cv_nn h0
  rw [e, eb, ea, e1, e3, cb_clr (by omega) (by omega) _ (by omega), if_pos ⟨by omega, by rw [← e1, ← e3, hb]; decide⟩]
theorem rc_step {l l' h a b p q : Int32} {pl : Int} {f f' : Nat → Int32} (hc : rc pl p.toInt l f) (ea : a = (1 : Int32) <<< (h &&& 31)) (eb : b = a ^^^ (-1)) (e : l' = l &&& b) (ef : f' = upd f p.toNatClampNeg h) (hl : 0 ≤ l.toInt ∧ l.toInt ≤ 127) (h0 : 0 ≤ h.toInt) (hp : h.toInt < pl) (h7 : pl ≤ 7) (p0 : 0 ≤ p.toInt) (hq : q.toInt = p.toInt + 1) : rc pl q.toInt l' f' := by
  obtain ⟨n, -, e1, e2⟩ := cv_nn hl.1
  obtain ⟨g, -, e3, e4⟩ := cv_nn h0
  have ip : (p.toNatClampNeg : Int) = p.toInt := by show ((p.toInt.toNat : Nat) : Int) = _; omega
  intro v hv
  by_cases qv : v = g
  · right
    refine ⟨p.toNatClampNeg, by omega, ?_⟩
    rw [ef, pk_us, e4, qv]
  · rcases hc v hv with w | ⟨j, hj, w⟩
    · left
      rw [e, eb, ea, e1, e3, clr_tab n (by omega) g (by omega) v (by omega), if_neg qv, ← e1]
      exact w
    · right
      refine ⟨j, by omega, ?_⟩
      rw [ef, pk_un (by omega)]
      exact w
theorem rb_step {h p q : Int32} {pl : Int} {f f' : Nat → Int32} (hb : rb pl p.toInt f) (ef : f' = upd f p.toNatClampNeg h) (h0 : 0 ≤ h.toInt) (hp : h.toInt < pl) (p0 : 0 ≤ p.toInt) (hq : q.toInt = p.toInt + 1) : rb pl q.toInt f' := by
  intro j hj
  rw [ef]
  by_cases w : j = p.toNatClampNeg
  · rw [w, pk_us]; exact ⟨h0, hp⟩
  · rw [pk_un w]
    refine hb j ?_
    have ip : (p.toNatClampNeg : Int) = p.toInt := by show ((p.toInt.toNat : Nat) : Int) = _; omega
    omega
theorem rc_pm {l p : Int32} {pl : Int} {f : Nat → Int32} (hc : rc pl p.toInt l f) (hb : rb pl p.toInt f) (hz : cb l pl.toNat = 0) (hp : p.toInt = pl) : pm pl f := by
  rw [hp] at hc hb
  refine ⟨hb, fun v h0 h1 => ?_⟩
  obtain ⟨n, rfl⟩ := Int.eq_ofNat_of_zero_le h0
  rcases hc n h1 with w | ⟨j, hj, w⟩
  · exact absurd (cb_none l hz n (by omega)) w
  · exact ⟨j, hj, w⟩
/-- laysLeaps -/
theorem na_full {f : Nat → Int32} : ∀ {n : Nat}, na f n = n → ∀ j, j < n → (f j).toInt = -1
  | 0, _, j, hj => absurd hj (Nat.not_lt_zero _)
  | n + 1, h, j, hj => by
    have h1 : na f n + (if (f n).toInt = -1 then 1 else 0) = ((n + 1 : Nat) : Int) := h
    have h2 := na_le f n
    by_cases q : (f n).toInt = -1
    · rw [if_pos q] at h1
      rcases Nat.lt_or_ge j n with g | g
      · exact na_full (n := n) (by omega) j g
      · rw [show j = n by omega]; exact q
    · rw [if_neg q] at h1; omega
theorem na_put1 {f : Nat → Int32} {k : Nat} {x : Int32} (h : (f k).toInt = -1) (hx : x.toInt ≠ -1) : ∀ n, k < n → na (upd f k x) n = na f n - 1
  | 0, hk => absurd hk (Nat.not_lt_zero _)
  | n + 1, hk => by
    rcases Nat.lt_or_ge k n with hlt | hge
    · show na (upd f k x) n + _ = na f n + _ - 1
      rw [na_put1 h hx n hlt, pk_un (show n ≠ k by omega)]
      omega
    · obtain rfl : k = n := by omega
      rw [na_upd, if_neg hx]
      show _ = na f k + _ - 1
      rw [if_pos h]
      omega
theorem na_fill {f f' : Nat → Int32} {i j : Int32} (h : na f i.toInt.toNat = i.toInt) (e : f' = upd f i.toNatClampNeg (-1)) (h0 : 0 ≤ i.toInt) (hj : j.toInt = i.toInt + 1) : na f' j.toInt.toNat = j.toInt := by
  rw [e, show j.toInt.toNat = i.toNatClampNeg + 1 by show _ = i.toInt.toNat + 1; omega, na_upd]
  show na f i.toInt.toNat + _ = _
  rw [h, if_pos (by decide)]
  omega
theorem na_first {f f' : Nat → Int32} {t i : Int32} {N : Int} (h : na f i.toInt.toNat = i.toInt) (hi : i.toInt = N) (e : f' = upd f t.toNatClampNeg 0) (t0 : 0 ≤ t.toInt) (ht : t.toInt < N) : na f' N.toNat = N - 1 := by
  have it : t.toNatClampNeg < N.toNat := by show t.toInt.toNat < N.toNat; omega
  rw [hi] at h
  rw [e, na_put1 (na_full (n := N.toNat) (by omega) _ it) (by decide) _ it, h]
theorem na_more {f f' : Nat → Int32} {t x v : Int32} {N r r' : Int} (h : na f N.toNat = N - r) (ex : x = f t.toNatClampNeg) (e : f' = upd f t.toNatClampNeg v) (hx : x.toInt = -1) (hv : v.toInt ≠ -1) (t0 : 0 ≤ t.toInt) (ht : t.toInt < N) (hr : r' = r + 1) : na f' N.toNat = N - r' := by
  have it : t.toNatClampNeg < N.toNat := by show t.toInt.toNat < N.toNat; omega
  rw [e, na_put1 (by rw [← ex]; exact hx) hv _ it, h]
  omega
theorem na_pos {f : Nat → Int32} {t x : Int32} {N r : Int} (h : na f N.toNat = N - r) (ex : x = f t.toNatClampNeg) (hx : x.toInt = -1) (t0 : 0 ≤ t.toInt) (ht : t.toInt < N) : r + 1 ≤ N := by
  have it : t.toNatClampNeg < N.toNat := by show t.toInt.toNat < N.toNat; omega
  have q := na_put1 (f := f) (k := t.toNatClampNeg) (x := 0) (by rw [← ex]; exact hx) (by decide) _ it
  have w := na_le (upd f t.toNatClampNeg 0) N.toNat
  omega
def qk (N r : Int) (f : Nat → Int32) : Prop := ∀ j : Nat, (j : Int) < r → 0 ≤ (f j).toInt ∧ (f j).toInt < N
theorem qk_one {N : Int} {f f' : Nat → Int32} {t : Int32} (e : f' = upd f (0 : Int32).toNatClampNeg t) (t0 : 0 ≤ t.toInt) (ht : t.toInt < N) : qk N 1 f' := by
  intro j hj
  rw [e, show j = (0 : Int32).toNatClampNeg by show j = 0; omega, pk_us]
  exact ⟨t0, ht⟩
theorem qk_more {N : Int} {f f' : Nat → Int32} {t r r' : Int32} (h : qk N r.toInt f) (e : f' = upd f r.toNatClampNeg t) (t0 : 0 ≤ t.toInt) (ht : t.toInt < N) (r0 : 0 ≤ r.toInt) (hr : r'.toInt = r.toInt + 1) : qk N r'.toInt f' := by
  intro j hj
  rw [e]
  by_cases w : j = r.toNatClampNeg
  · rw [w, pk_us]; exact ⟨t0, ht⟩
  · rw [pk_un w]
    refine h j ?_
    have ip : (r.toNatClampNeg : Int) = r.toInt := by show ((r.toInt.toNat : Nat) : Int) = _; omega
    omega
theorem qk_get {N r : Int} {f : Nat → Int32} {k x : Int32} (h : qk N r f) (ex : x = f k.toNatClampNeg) (k0 : 0 ≤ k.toInt) (hk : k.toInt < r) : 0 ≤ x.toInt ∧ x.toInt < N := by
  rw [ex]
  exact h _ (by show ((k.toInt.toNat : Nat) : Int) < r; omega)
def lm (N r : Int) (f : Nat → Int32) : Prop := ∀ j : Nat, (j : Int) < N → (f j).toInt ≤ r - 1
theorem lm_one {N : Int} {f f' : Nat → Int32} {t i : Int32} (h : na f i.toInt.toNat = i.toInt) (hi : i.toInt = N) (e : f' = upd f t.toNatClampNeg 0) : lm N 1 f' := by
  intro j hj
  rw [e]
  by_cases w : j = t.toNatClampNeg
  · rw [w, pk_us]; decide
  · rw [pk_un w, na_full (n := i.toInt.toNat) (by omega) j (by omega)]
    decide
theorem lm_more {N r r' : Int} {f f' : Nat → Int32} {t v : Int32} (h : lm N r f) (e : f' = upd f t.toNatClampNeg v) (hv : v.toInt ≤ r) (hr : r' = r + 1) : lm N r' f' := by
  intro j hj
  rw [e]
  by_cases w : j = t.toNatClampNeg
  · rw [w, pk_us]; omega
  · rw [pk_un w]
    have := h j hj
    omega
theorem lm_get {N r : Int} {f : Nat → Int32} {k x : Int32} (h : lm N r f) (ex : x = f k.toNatClampNeg) (k0 : 0 ≤ k.toInt) (hk : k.toInt < N) : x.toInt ≤ r - 1 := by
  rw [ex]
  exact h _ (by show ((k.toInt.toNat : Nat) : Int) < N; omega)
/-- whyNotRow: the bits are those of what was read -/
def mw (p : Int) (l : Int32) (f : Nat → Int32) : Prop := ∀ v : Nat, v < 7 → ¬ (l >>> (nI v &&& 31)) &&& 1 = 0 → ∃ j : Nat, (j : Int) < p ∧ (f j).toInt = v
theorem mw_zero {f : Nat → Int32} : mw 0 0 f := fun v hv h => absurd (cb_z0 v (by omega)) h
theorem mw_step {l l' h a p q : Int32} {f f' : Nat → Int32} (hm : mw p.toInt l f) (ea : a = (1 : Int32) <<< (h &&& 31)) (e : l' = l ||| a) (ef : f' = upd f p.toNatClampNeg h) (hl : 0 ≤ l.toInt ∧ l.toInt ≤ 127) (hh : 0 ≤ h.toInt ∧ h.toInt ≤ 6) (p0 : 0 ≤ p.toInt) (hq : q.toInt = p.toInt + 1) : mw q.toInt l' f' := by
  obtain ⟨n, -, e1, e2⟩ := cv_nn hl.1
  obtain ⟨g, -, e3, e4⟩ := cv_nn hh.1
  have ip : (p.toNatClampNeg : Int) = p.toInt := by show ((p.toInt.toNat : Nat) : Int) = _; omega
  intro v hv hb
  by_cases qv : v = g
  · refine ⟨p.toNatClampNeg, by omega, ?_⟩
    rw [ef, pk_us, e4, qv]
  · rw [e, ea, e1, e3, cb_bit n (by omega) g (by omega) v hv, if_neg qv, ← e1] at hb
    obtain ⟨j, hj, w⟩ := hm v hv hb
    refine ⟨j, by omega, ?_⟩
    rw [ef, pk_un (by omega)]
    exact w
theorem mw_pm {l p : Int32} {pl : Int} {f : Nat → Int32} (hm : mw p.toInt l f) (hb : rb pl p.toInt f) (hc : cb l 7 = pl) (hp : p.toInt = pl) (h7 : pl ≤ 7) (h0 : 0 ≤ pl) : pm pl f := by
  rw [hp] at hm hb
  refine ⟨hb, fun v v0 v1 => ?_⟩
  obtain ⟨n, rfl⟩ := Int.eq_ofNat_of_zero_le v0
  -- no bit from pl on is set
  have hz : ∀ k : Nat, k < 7 → pl ≤ (k : Int) → (l >>> (nI k &&& 31)) &&& 1 = 0 := by
    intro k hk hk2
    rcases Decidable.em ((l >>> (nI k &&& 31)) &&& 1 = 0) with q | q
    · exact q
    · obtain ⟨j, hj, w⟩ := hm k hk q
      have := hb j hj
      omega
  have hcp : ∀ m : Nat, m ≤ 7 → pl ≤ (m : Int) → cb l m = cb l pl.toNat := by
    intro m
    induction m with
    | zero => intro _ h; rw [show pl.toNat = 0 by omega]
    | succ m ih =>
      intro h1 h2
      rcases Int.lt_or_le (m : Int) pl with q | q
      · rw [show pl.toNat = m + 1 by omega]
      · show cb l m + _ = _
        rw [ih (by omega) q, if_pos (hz m (by omega) q)]
        omega
  have e := hcp 7 (by omega) h7
  have hf := cb_full l (n := pl.toNat) (by omega) n (by omega)
  exact hm n (by omega) hf
/-- what was seen, in a SLOT's numbers -/
def snM (pl n : Int) (s : Int32) (f : Nat → Int64) : Prop := sn pl n (fun j => f (60 * s.toInt.toNat + j))
theorem snm_zero {pl : Int} {s : Int32} {f : Nat → Int64} : snM pl 0 s f := sn_zero
theorem snm_mono {pl n n' : Int} {s : Int32} {f : Nat → Int64} (h : snM pl n s f) (hn : n' ≤ n) : snM pl n' s f := sn_mono h hn
theorem snm_step {pl : Int} {f : Nat → Int64} {s i j k y z : Int32} {a b c : Int64} (h : snM pl i.toInt s f) (hm : i.toInt % 3 = 0) (ea : a = f k.toNatClampNeg) (eb : b = f y.toNatClampNeg) (ec : c = f z.toNatClampNeg) (s0 : 0 ≤ s.toInt) (h0 : 0 ≤ i.toInt) (hk : k.toInt = 60 * s.toInt + i.toInt) (hy : y.toInt = k.toInt + 1) (hz : z.toInt = k.toInt + 2) (hj : j.toInt = i.toInt + 3) (ha : 0 ≤ a.toInt ∧ a.toInt < pl) (hb : 0 ≤ b.toInt ∧ b.toInt ≤ 999) (hc : 0 ≤ c.toInt ∧ c.toInt < pl) : snM pl j.toInt s f := by
  intro v h1 h2
  by_cases q : (v : Int) < i.toInt
  · exact h v h1 q
  · have hv : v = i.toInt.toNat := by omega
    rw [cv_at (n := 60 * s.toInt.toNat + v) (by omega)] at ea
    rw [cv_at (n := 60 * s.toInt.toNat + (v + 1)) (by omega)] at eb
    rw [cv_at (n := 60 * s.toInt.toNat + (v + 2)) (by omega)] at ec
    show (0 ≤ (f (60 * s.toInt.toNat + v)).toInt ∧ (f (60 * s.toInt.toNat + v)).toInt < pl) ∧ (0 ≤ (f (60 * s.toInt.toNat + (v + 1))).toInt ∧ (f (60 * s.toInt.toNat + (v + 1))).toInt ≤ 999) ∧ (0 ≤ (f (60 * s.toInt.toNat + (v + 2))).toInt ∧ (f (60 * s.toInt.toNat + (v + 2))).toInt < pl)
    rw [← ea, ← eb, ← ec]
    exact ⟨ha, hb, hc⟩
theorem snm_0 {pl n : Int} {f : Nat → Int64} {s i k : Int32} {a : Int64} (h : snM pl n s f) (ea : a = f k.toNatClampNeg) (hm : i.toInt % 3 = 0) (s0 : 0 ≤ s.toInt) (h0 : 0 ≤ i.toInt) (hn : i.toInt < n) (hk : k.toInt = 60 * s.toInt + i.toInt) : 0 ≤ a.toInt ∧ a.toInt < pl := by
  have q := h i.toInt.toNat (by omega) (by omega)
  rw [ea, cv_at (n := 60 * s.toInt.toNat + i.toInt.toNat) (by omega)]
  exact q.1
theorem snm_1 {pl n : Int} {f : Nat → Int64} {s i k : Int32} {a : Int64} (h : snM pl n s f) (ea : a = f k.toNatClampNeg) (hm : i.toInt % 3 = 0) (s0 : 0 ≤ s.toInt) (h0 : 0 ≤ i.toInt) (hn : i.toInt < n) (hk : k.toInt = 60 * s.toInt + i.toInt + 1) : 0 ≤ a.toInt ∧ a.toInt ≤ 999 := by
  have q := h i.toInt.toNat (by omega) (by omega)
  rw [ea, cv_at (n := 60 * s.toInt.toNat + (i.toInt.toNat + 1)) (by omega)]
  exact q.2.1
theorem snm_2 {pl n : Int} {f : Nat → Int64} {s i k : Int32} {a : Int64} (h : snM pl n s f) (ea : a = f k.toNatClampNeg) (hm : i.toInt % 3 = 0) (s0 : 0 ≤ s.toInt) (h0 : 0 ≤ i.toInt) (hn : i.toInt < n) (hk : k.toInt = 60 * s.toInt + i.toInt + 2) : 0 ≤ a.toInt ∧ a.toInt < pl := by
  have q := h i.toInt.toNat (by omega) (by omega)
  rw [ea, cv_at (n := 60 * s.toInt.toNat + (i.toInt.toNat + 2)) (by omega)]
  exact q.2.2
/-- each PLACE's own number -/
def idr (i : Int) (f : Nat → Int32) : Prop := ∀ j : Nat, (j : Int) < i → (f j).toInt = j
theorem idr_zero {f : Nat → Int32} : idr 0 f := fun j h => by omega
theorem idr_step {i j : Int32} {f f' : Nat → Int32} (h : idr i.toInt f) (e : f' = upd f i.toNatClampNeg i) (h0 : 0 ≤ i.toInt) (hj : j.toInt = i.toInt + 1) : idr j.toInt f' := by
  intro k hk
  have ii : (i.toNatClampNeg : Int) = i.toInt := by show ((i.toInt.toNat : Nat) : Int) = _; omega
  rw [e]
  by_cases q : k = i.toNatClampNeg
  · rw [q, pk_us]; omega
  · rw [pk_un q]; exact h k (by omega)
theorem idr_pm {n i : Int} {f : Nat → Int32} (h : idr i f) (hi : n ≤ i) : pm n f := by
  refine ⟨fun j hj => ?_, fun v h0 h1 => ?_⟩
  · have := h j (by omega)
    omega
  · obtain ⟨k, rfl⟩ := Int.eq_ofNat_of_zero_le h0
    exact ⟨k, h1, h k (by omega)⟩
theorem cv_bmodL {z : Int} (h1 : -9223372036854775808 ≤ z) (h2 : z < 9223372036854775808) : z.bmod (2 ^ 64) = z := by
  rw [Int.bmod_def]; omega
theorem cv_addL {x y : Int64} (h1 : -9223372036854775808 ≤ x.toInt + y.toInt) (h2 : x.toInt + y.toInt < 9223372036854775808) : (x + y).toInt = x.toInt + y.toInt := by
  rw [Int64.toInt_add]; exact cv_bmodL h1 h2
theorem cv_subL {x y : Int64} (h1 : -9223372036854775808 ≤ x.toInt - y.toInt) (h2 : x.toInt - y.toInt < 9223372036854775808) : (x - y).toInt = x.toInt - y.toInt := by
  rw [Int64.toInt_sub]; exact cv_bmodL h1 h2
theorem cv_mulL {x y : Int64} (h1 : -9223372036854775808 ≤ x.toInt * y.toInt) (h2 : x.toInt * y.toInt < 9223372036854775808) : (x * y).toInt = x.toInt * y.toInt := by
  rw [Int64.toInt_mul]; exact cv_bmodL h1 h2
theorem cv_remT {x y : Int64} (hy : y.toInt ≠ 0) : (x - x / y * y).toInt = x.toInt.tmod y.toInt := by
  have e : (x - x / y * y).toInt = (x.toInt.tmod y.toInt).bmod (2 ^ 64) := by
    rw [Int64.toInt_sub, Int64.toInt_mul, Int64.toInt_div, Int.bmod_mul_bmod, Int.sub_bmod_bmod, Int.tmod_def, Int.mul_comm]
  have h1 : (x.toInt.tmod y.toInt).natAbs < y.toInt.natAbs := by
    rw [Int.natAbs_tmod]
    exact Nat.mod_lt _ (by omega)
  have h2 := y.le_toInt
  have h3 := y.toInt_lt
  rw [e]
  exact cv_bmodL (by omega) (by omega)
theorem cv_remL {x y : Int64} (h0 : 0 ≤ x.toInt) (hy : 0 < y.toInt) : 0 ≤ (x - x / y * y).toInt ∧ (x - x / y * y).toInt < y.toInt ∧ (x - x / y * y).toInt ≤ x.toInt := by
  rw [cv_remT (by omega), Int.tmod_eq_emod_of_nonneg h0]
  refine ⟨Int.emod_nonneg _ (by omega), Int.emod_lt_of_pos _ hy, ?_⟩
  obtain ⟨a, ha⟩ := Int.eq_ofNat_of_zero_le h0
  obtain ⟨b, hb⟩ := Int.eq_ofNat_of_zero_le (show 0 ≤ y.toInt by omega)
  rw [ha, hb]
  exact_mod_cast Nat.mod_le a b
theorem cv_divL {x y : Int64} (h0 : 0 ≤ x.toInt) (hy : 0 < y.toInt) : (x / y).toInt = x.toInt / y.toInt := by
  have h1 : 0 ≤ x.toInt / y.toInt := Int.ediv_nonneg h0 (by omega)
  have h2 : x.toInt / y.toInt ≤ x.toInt := Int.ediv_le_self _ h0
  have h3 := x.toInt_lt
  rw [Int64.toInt_div, Int.tdiv_eq_ediv_of_nonneg h0]
  exact cv_bmodL (by omega) (by omega)
theorem mod_half {a b : Nat} (hb : 0 < b) (h : b < a) : 2 * (a % b) < a := by
  have h1 := Nat.mod_lt a hb
  have h2 := Nat.div_add_mod a b
  have h3 : 1 ≤ a / b := Nat.div_pos (by omega) hb
  have h4 : b * 1 ≤ b * (a / b) := Nat.mul_le_mul_left b h3
  omega
theorem cb_one : ∀ p, p < 7 → ∀ q, q < 7 → 1 ≤ cb (((1 : Int32) <<< (nI p &&& 31)) ||| ((1 : Int32) <<< (nI q &&& 31))) 7 ∧ 1 ≤ cb ((1 : Int32) <<< (nI p &&& 31)) 7 := by decide +kernel
theorem cb_two {a b c p q : Int32} (ea : a = (1 : Int32) <<< (p &&& 31)) (eb : b = (1 : Int32) <<< (q &&& 31)) (e : c = a ||| b) (hp : 0 ≤ p.toInt ∧ p.toInt ≤ 6) (hq : 0 ≤ q.toInt ∧ q.toInt ≤ 6) : 1 ≤ cb c 7 := by
  obtain ⟨n, -, e1, e2⟩ := cv_nn hp.1
  obtain ⟨g, -, e3, e4⟩ := cv_nn hq.1
  rw [e, ea, eb, e1, e3]
  exact (cb_one n (by omega) g (by omega)).1
theorem cb_sgl {a p : Int32} (ea : a = (1 : Int32) <<< (p &&& 31)) (hp : 0 ≤ p.toInt ∧ p.toInt ≤ 6) : 1 ≤ cb a 7 := by
  obtain ⟨n, -, e1, e2⟩ := cv_nn hp.1
  rw [ea, e1]
  exact (cb_one n (by omega) 0 (by omega)).2
theorem cb_all {k h : Int32} (hk : 7 ≤ cb k 7) (h0 : 0 ≤ h.toInt) (h7 : h.toInt ≤ 6) : (k >>> (h &&& 31)) &&& 1 = 1 := by
  rcases Decidable.em ((k >>> (h &&& 31)) &&& 1 = 1) with q | q
  · exact q
  · have h1 := cb_le k 7
    have h9 := cb_full k (n := 7) (by omega) h.toInt.toNat (by omega)
    rw [nI_self h0] at h9
    exact absurd (and1 q) h9
theorem lots_step {a a' y : Int64} {k j : Int32} (h : 1 ≤ a.toInt ∧ a.toInt ≤ 6 ^ k.toInt.toNat) (e : a' = a * y) (hy : 1 ≤ y.toInt ∧ y.toInt ≤ 6) (h0 : 0 ≤ k.toInt) (hk : k.toInt < 12) (hj : j.toInt = k.toInt + 1) : 1 ≤ a'.toInt ∧ a'.toInt ≤ 6 ^ j.toInt.toNat := by
  have h1 : (6 : Int) ^ k.toInt.toNat ≤ 6 ^ 11 := by
    have : (6 : Nat) ^ k.toInt.toNat ≤ 6 ^ 11 := Nat.pow_le_pow_right (by decide) (by omega)
    exact_mod_cast this
  have h2 : (6 : Int) ^ 11 = 362797056 := by decide
  have h3 : a.toInt * y.toInt ≤ 6 ^ k.toInt.toNat * 6 := Int.mul_le_mul h.2 hy.2 (by omega) (by omega)
  have h4 : 1 * 1 ≤ a.toInt * y.toInt := Int.mul_le_mul h.1 hy.1 (by decide) (by omega)
  rw [e, cv_mulL (by omega) (by omega), show j.toInt.toNat = k.toInt.toNat + 1 by omega, Int.pow_succ]
  exact ⟨by omega, h3⟩
theorem lots_end {a : Int64} {k : Int32} (h : 1 ≤ a.toInt ∧ a.toInt ≤ 6 ^ k.toInt.toNat) (hk : k.toInt ≤ 12) : 1 ≤ a.toInt ∧ a.toInt ≤ 2176782336 := by
  have h1 : (6 : Int) ^ k.toInt.toNat ≤ 6 ^ 12 := by
    have : (6 : Nat) ^ k.toInt.toNat ≤ 6 ^ 12 := Nat.pow_le_pow_right (by decide) (by omega)
    exact_mod_cast this
  have h2 : (6 : Int) ^ 12 = 2176782336 := by decide
  omega

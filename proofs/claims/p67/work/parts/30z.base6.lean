/-- how many of the bits 0 .. n less 1 are set -/
def cb (k : Int32) : Nat → Int
  | 0 => 0
  | n + 1 => cb k n + (if (k >>> (nI n &&& 31)) &&& 1 = 0 then 0 else 1)
theorem cb_le (k : Int32) : ∀ n, 0 ≤ cb k n ∧ cb k n ≤ n
  | 0 => ⟨Int.le_refl _, Int.le_refl _⟩
  | n + 1 => by
    have h := cb_le k n
    show 0 ≤ cb k n + _ ∧ cb k n + _ ≤ _
    split <;> omega
theorem cb_z0 : ∀ n, n < 32 → ((0 : Int32) >>> (nI n &&& 31)) &&& 1 = 0 := by decide
theorem cb_zero : ∀ n, n ≤ 7 → cb 0 n = 0
  | 0, _ => rfl
  | n + 1, h => by
    show cb 0 n + _ = 0
    rw [cb_zero n (by omega), if_pos (cb_z0 n (by omega))]
    rfl
theorem cb_bit : ∀ k, k < 128 → ∀ h, h < 7 → ∀ j, j < 7 → ((nI k ||| ((1 : Int32) <<< (nI h &&& 31))) >>> (nI j &&& 31)) &&& 1 = if j = h then 1 else (nI k >>> (nI j &&& 31)) &&& 1 := by decide +kernel
theorem cb_or {k h : Nat} (hk : k < 128) (hh : h < 7) : ∀ n, n ≤ 7 → cb (nI k ||| ((1 : Int32) <<< (nI h &&& 31))) n = cb (nI k) n + (if h < n ∧ (nI k >>> (nI h &&& 31)) &&& 1 = 0 then 1 else 0)
  | 0, _ => by rw [if_neg (by omega)]; rfl
  | n + 1, hn => by
    show cb _ n + _ = cb _ n + _ + _
    rw [cb_or hk hh n (by omega), cb_bit k hk h hh n (by omega)]
    by_cases e : n = h
    · subst e
      rw [if_pos rfl, if_neg (by decide : ¬ (1 : Int32) = 0)]
      by_cases q : (nI k >>> (nI n &&& 31)) &&& 1 = 0
      · rw [if_neg (by omega), if_pos q, if_pos ⟨by omega, q⟩]
      · rw [if_neg (by omega), if_neg q, if_neg (fun z => q z.2)]
        omega
    · rw [if_neg e]
      have e2 : (if h < n ∧ (nI k >>> (nI h &&& 31)) &&& 1 = 0 then (1 : Int) else 0) = if h < n + 1 ∧ (nI k >>> (nI h &&& 31)) &&& 1 = 0 then 1 else 0 := by
        by_cases q : h < n ∧ (nI k >>> (nI h &&& 31)) &&& 1 = 0
        · rw [if_pos q, if_pos ⟨by omega, q.2⟩]
        · rw [if_neg q, if_neg (fun z => q ⟨by omega, z.2⟩)]
      rw [e2]
      omega
theorem cb_put {u u' pl kn kn' h a b c : Int32} (hu : u.toInt = pl.toInt - cb kn pl.toInt.toNat) (ea : a = kn >>> (h &&& 31)) (eb : b = a &&& 1) (ec : c = (1 : Int32) <<< (h &&& 31)) (ed : kn' = kn ||| c) (hb : b.toInt = 0) (hk : 0 ≤ kn.toInt ∧ kn.toInt ≤ 127) (h0 : 0 ≤ h.toInt) (hp : h.toInt < pl.toInt) (h7 : pl.toInt ≤ 7) (e : u'.toInt = u.toInt - 1) : u'.toInt = pl.toInt - cb kn' pl.toInt.toNat := by
  obtain ⟨k, -, e1, e2⟩ := cv_nn hk.1
  obtain ⟨g, -, e3, e4⟩ := cv_nn h0
  have hb0 : b = 0 := Int32.toInt_inj.mp hb
  have q : (nI k >>> (nI g &&& 31)) &&& 1 = 0 := by rw [← hb0, eb, ea, e1, e3]
  rw [ed, ec, e1, e3, cb_or (by omega) (by omega) _ (by omega), if_pos ⟨by omega, q⟩]
  rw [e1] at hu
  omega
/-- what was seen, three numbers each, the first n -/
def sn (pl n : Int) (f : Nat → Int64) : Prop := ∀ j : Nat, j % 3 = 0 → (j : Int) < n → (0 ≤ (f j).toInt ∧ (f j).toInt < pl) ∧ (0 ≤ (f (j + 1)).toInt ∧ (f (j + 1)).toInt ≤ 999) ∧ (0 ≤ (f (j + 2)).toInt ∧ (f (j + 2)).toInt < pl)
theorem sn_zero {pl : Int} {f : Nat → Int64} : sn pl 0 f := fun j _ h => by omega
theorem sn_mono {pl n n' : Int} {f : Nat → Int64} (h : sn pl n f) (hn : n' ≤ n) : sn pl n' f := fun j h1 h2 => h j h1 (by omega)
theorem sn_at {i y : Int32} {d : Nat} (h0 : 0 ≤ i.toInt) (hy : y.toInt = i.toInt + d) : y.toNatClampNeg = i.toNatClampNeg + d := by
  show y.toInt.toNat = i.toInt.toNat + d
  omega
theorem sn_step {pl : Int} {f : Nat → Int64} {i j y z : Int32} {a b c : Int64} (h : sn pl i.toInt f) (hm : i.toInt % 3 = 0) (ea : a = f i.toNatClampNeg) (eb : b = f y.toNatClampNeg) (ec : c = f z.toNatClampNeg) (h0 : 0 ≤ i.toInt) (hy : y.toInt = i.toInt + 1) (hz : z.toInt = i.toInt + 2) (hj : j.toInt = i.toInt + 3) (ha : 0 ≤ a.toInt ∧ a.toInt < pl) (hb : 0 ≤ b.toInt ∧ b.toInt ≤ 999) (hc : 0 ≤ c.toInt ∧ c.toInt < pl) : sn pl j.toInt f := by
  intro k h1 h2
  by_cases q : (k : Int) < i.toInt
  · exact h k h1 q
  · have hk : k = i.toNatClampNeg := by
      show k = i.toInt.toNat
      omega
    rw [sn_at (d := 1) h0 (by omega)] at eb
    rw [sn_at (d := 2) h0 (by omega)] at ec
    rw [hk, ← ea, ← eb, ← ec]
    exact ⟨ha, hb, hc⟩
theorem sn_get {pl n : Int} {f : Nat → Int64} {i : Int32} (h : sn pl n f) (h0 : 0 ≤ i.toInt) (hm : i.toInt % 3 = 0) (hn : i.toInt < n) : (0 ≤ (f i.toNatClampNeg).toInt ∧ (f i.toNatClampNeg).toInt < pl) ∧ (0 ≤ (f (i.toNatClampNeg + 1)).toInt ∧ (f (i.toNatClampNeg + 1)).toInt ≤ 999) ∧ (0 ≤ (f (i.toNatClampNeg + 2)).toInt ∧ (f (i.toNatClampNeg + 2)).toInt < pl) :=
  h _ (by show i.toInt.toNat % 3 = 0; omega) (by show ((i.toInt.toNat : Nat) : Int) < n; omega)
theorem rg_push {lo hi : Int} {i j x : Int32} {f f' : Nat → Int32} (h : rg lo hi i.toInt.toNat f) (e : f' = upd f i.toNatClampNeg x) (hx : lo ≤ x.toInt ∧ x.toInt ≤ hi) (h0 : 0 ≤ i.toInt) (hj : j.toInt = i.toInt + 1) : rg lo hi j.toInt.toNat f' := by
  intro k hk
  rw [e]
  by_cases q : k = i.toNatClampNeg
  · rw [q, pk_us]; exact hx
  · rw [pk_un q]
    refine h k ?_
    have : i.toNatClampNeg = i.toInt.toNat := rfl
    omega
theorem rg_fewer {lo hi : Int} {n m : Nat} {f : Nat → Int32} (h : rg lo hi n f) (hm : m ≤ n) : rg lo hi m f := fun j hj => h j (by omega)

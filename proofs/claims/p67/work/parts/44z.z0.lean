theorem rg_z0 {lo hi : Int} {n : Nat} (h0 : lo ≤ 0) (h1 : 0 ≤ hi) : rg lo hi n (fun _ => 0) := fun _ _ => ⟨h0, h1⟩

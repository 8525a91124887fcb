/-! Two runs become one: the model's side. -/
theorem zB.G_rng {b : BoatS} (hB : zB b) {i : Int} (i0 : 0 ≤ i) (i1 : i < zR b) : 1 ≤ zG b i ∧ zG b i ≤ 6000 := by
  have hi := hB.2.2.2.1.2.2.1 i i0 i1
  have h0 := hB.1.1
  have h120 := hB.1.2.1
  rw [hi.2.2.2.2.1]
  obtain ⟨p, p0, p1, hp⟩ := hi.2.2.2.2.2
  constructor
  · have e1 : xS (fun q => if q = p then 1 else 0) 0 (zn b).toNat = 1 := by
      rw [xS_point (f := fun q => if q = p then 1 else 0) (k := p) (zn b).toNat 0 p0 (by omega) (fun q _ _ z => if_neg z), if_pos rfl]
    rw [← e1]
    refine xS_le _ _ (fun q q0 q1 => ?_)
    have hq := hB.1.2.2 q q0 (by omega)
    by_cases z : q = p
    · rw [if_pos z, if_pos (by rw [z]; exact hp)]; omega
    · rw [if_neg z]; split <;> omega
  · have e2 : xS (fun q => if zH b q = zF b i then zW b q else 0) 0 (zn b).toNat ≤ 50 * ((zn b).toNat : Int) := xS_bound 50 _ _ (fun q q0 q1 => by
      have hq := hB.1.2.2 q q0 (by omega)
      split <;> omega)
    omega
/-- two weights together -/
theorem zB.G_two {b : BoatS} (hB : zB b) {i j : Int} (i0 : 0 ≤ i) (ij : i < j) (j1 : j < zR b) : 2 ≤ zG b i + zG b j ∧ zG b i + zG b j ≤ 6000 := by
  have h1 := hB.G_rng i0 (by omega)
  have h2 := hB.G_rng (i := j) (by omega) j1
  have h3 := (zB_join hB i0 ij j1).G_rng (i := i) i0 (by show i < zR b - 1; omega)
  have e2 : zRem (x_up (zG b) i (zG b i + zG b j)) j (zR b) i = zG b i + zG b j := by unfold zRem; rw [if_neg (by omega), z_upS]
  have h4 : zRem (x_up (zG b) i (zG b i + zG b j)) j (zR b) i ≤ 6000 := h3.2
  omega

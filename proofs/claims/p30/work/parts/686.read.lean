/-! What can be asked of parcels, runs, numbers. -/
theorem xS_ind {P : Int → Prop} [∀ p, Decidable (P p)] {n : Int} (hn : 0 ≤ n) : 0 ≤ xS (fun q => if P q then 1 else 0) 0 n.toNat ∧ xS (fun q => if P q then 1 else 0) 0 n.toNat ≤ n := by
  constructor
  · exact xS_nonneg _ _ (fun q _ _ => by split <;> omega)
  · have := xS_le (f := fun q => if P q then 1 else 0) (g := fun _ => 1) n.toNat 0 (fun q _ _ => by split <;> omega)
    rw [xS_one] at this
    omega
theorem zRank_inj {K H : Int → Int} {n h p r : Int} (p0 : 0 ≤ p) (p1 : p < n) (hp : H p = h) (r0 : 0 ≤ r) (r1 : r < n) (hr : H r = h) (e : xS (fun q => if H q = h ∧ zl K q p then 1 else 0) 0 n.toNat = xS (fun q => if H q = h ∧ zl K q r then 1 else 0) 0 n.toNat) : p = r := by
  have key : ∀ p r, 0 ≤ p → p < n → H p = h → zl K p r → xS (fun q => if H q = h ∧ zl K q p then 1 else 0) 0 n.toNat < xS (fun q => if H q = h ∧ zl K q r then 1 else 0) 0 n.toNat := fun p r p0 p1 hp hl => by
    have e1 : xS (fun q => if q = p then 1 else 0) 0 n.toNat = 1 := by
      rw [xS_point (f := fun q => if q = p then 1 else 0) (k := p) n.toNat 0 p0 (by omega) (fun q _ _ z => if_neg z), if_pos rfl]
    have e2 := xS_add (fun q => if H q = h ∧ zl K q p then 1 else 0) (fun q => if q = p then 1 else 0) n.toNat 0
    have e3 : xS (fun q => (if H q = h ∧ zl K q p then 1 else 0) + (if q = p then 1 else 0)) 0 n.toNat ≤ xS (fun q => if H q = h ∧ zl K q r then 1 else 0) 0 n.toNat := xS_le _ _ (fun q _ _ => by
      by_cases z : q = p
      · subst z
        rw [if_neg (fun w => zl_irr w.2), if_pos rfl, if_pos ⟨hp, hl⟩]; omega
      · rw [if_neg z]
        by_cases w : H q = h ∧ zl K q p
        · rw [if_pos w, if_pos ⟨w.1, zl_trans w.2 hl⟩]; omega
        · rw [if_neg w]; split <;> omega)
    omega
  refine Classical.byContradiction fun ne => ?_
  by_cases a : zl K p r
  · have := key p r p0 p1 hp a; omega
  · have := key r p r0 r1 hr (zl_tri a ne); omega

/-! The two lightest runs. -/
theorem z0_lightL {b : BoatS} (hB : zB b) {v : Int} (hv : xin v) : ∀ (m fu : Nat) (r l : Int), 0 ≤ l → l + (m : Int) = zR b → m < fu → zMin (fun i => ¬ i = v) (zl (zG b)) l r → ∃ t, f0_lightestBut_L4 b v fu r l = some t ∧ zMin (fun i => ¬ i = v) (zl (zG b)) (zR b) t
  | 0, 0, _, _, _, _, h, _ => by omega
  | m + 1, 0, _, _, _, _, h, _ => by omega
  | 0, fu + 1, r, l, l0, hl, _, hz => by
    have hR := hB.R_le
    have h120 := hB.1.2.1
    unfold f0_lightestBut_L4
    rw [z_bind (show f2_size 120 (g0_flts b) = some (zR b) from rfl), z_ltF ⟨by omega, by omega⟩ ⟨by omega, by omega⟩ (by omega)]
    rw [show l = zR b by omega] at hz
    exact ⟨r, rfl, hz⟩
  | m + 1, fu + 1, r, l, l0, hl, h, hz => by
    have hR := hB.R_le
    have h120 := hB.1.2.1
    have hge := zMin_ge hz
    unfold f0_lightestBut_L4
    rw [z_bind (show f2_size 120 (g0_flts b) = some (zR b) from rfl), z_ltT ⟨by omega, by omega⟩ ⟨by omega, by omega⟩ (by omega)]
    by_cases e : l = v
    · rw [z_eqT ⟨by omega, by omega⟩ e]
      exact z0_lightL hB hv m fu r (l + 1) (by omega) (by omega) (by omega) (zMin_no hz (fun w => w e))
    · rw [z_eqF ⟨by omega, by omega⟩ hv e]
      by_cases g : r = -1
      · rw [z_eqT ⟨by omega, by omega⟩ g]
        exact z0_lightL hB hv m fu l (l + 1) (by omega) (by omega) (by omega) (zMin_new l0 (by rw [g] at hz; exact hz) e)
      · have g1 := hB.G_rng l0 (by omega)
        have g2 := hB.G_rng (i := r) (by omega) (by omega)
        rw [z_eqF ⟨by omega, by omega⟩ (by decide) g, z_bind (hB.getG l0 (by omega)), z_bind (hB.getG (i := r) (by omega) (by omega))]
        by_cases w : zG b l < zG b r
        · rw [z_ltT ⟨by omega, by omega⟩ ⟨by omega, by omega⟩ w]
          exact z0_lightL hB hv m fu l (l + 1) (by omega) (by omega) (by omega) (zMin_take (fun _ _ _ => zl_trans) l0 hz g e (Or.inl w))
        · rw [z_ltF ⟨by omega, by omega⟩ ⟨by omega, by omega⟩ w]
          exact z0_lightL hB hv m fu r (l + 1) (by omega) (by omega) (by omega) (zMin_keep hz g (by unfold zl; omega))
theorem z0_light {b : BoatS} (hB : zB b) {v : Int} (hv : xin v) : ∃ t, f0_lightestBut b v = some t ∧ zMin (fun i => ¬ i = v) (zl (zG b)) (zR b) t := by
  have hR := hB.R_le
  have h0 := hB.R0
  have h120 := hB.1.2.1
  exact z0_lightL hB hv (zR b).toNat xFU (-1) 0 (by omega) (by omega) (by unfold xFU; omega) zMin_0
/-- the class alone: which two -/
theorem z0_joinLight {b : BoatS} (hB : zB b) (h2 : 2 ≤ zR b) : ∃ r s i j, zMin (fun i => ¬ i = -1) (zl (zG b)) (zR b) r ∧ zMin (fun i => ¬ i = r) (zl (zG b)) (zR b) s ∧ 0 ≤ i ∧ i < j ∧ j < zR b ∧ ((r = i ∧ s = j) ∨ (r = j ∧ s = i)) ∧ f0_joinLightest b = some (zF b i, bJoin b i j) := by
  have hRl := hB.R_le
  have h120 := hB.1.2.1
  obtain ⟨r, e1, hr⟩ := z0_light hB (v := -1) (by decide)
  have nr := zMin_some hr (q := 0) (by decide) (by omega) (by decide)
  have rr := zMin_rng hr nr
  obtain ⟨s, e2, hs⟩ := z0_light hB (v := r) ⟨by omega, by omega⟩
  have ns : ¬ s = -1 := by
    by_cases g : r = 0
    · exact zMin_some hs (q := 1) (by decide) (by omega) (by omega)
    · exact zMin_some hs (q := 0) (by decide) (by omega) (by omega)
  have rs := zMin_rng hs ns
  have xr : xin (zF b r) := hB.xF r rr.1 rr.2.1
  have xs : xin (zF b s) := hB.xF s rs.1 rs.2.1
  unfold f0_joinLightest
  rw [z_bind e1, z_bind e2, z_bind (hB.getF rr.1 rr.2.1), z_bind (hB.getF rs.1 rs.2.1)]
  rcases Int.lt_trichotomy r s with q | q | q
  · have lt := hB.2.2.2.1.2.1 r s rr.1 q rs.2.1
    rw [z_bind2 (z0_join hB rr.1 q rs.2.1 (Or.inl ⟨rfl, rfl⟩))]
    dsimp only
    rw [z_bind (z_min xr xs), if_neg (by omega)]
    exact ⟨r, s, r, s, hr, hs, rr.1, q, rs.2.1, Or.inl ⟨rfl, rfl⟩, rfl⟩
  · exact absurd q.symm rs.2.2
  · have lt := hB.2.2.2.1.2.1 s r rs.1 q rr.2.1
    rw [z_bind2 (z0_join hB rs.1 q rr.2.1 (Or.inr ⟨rfl, rfl⟩))]
    dsimp only
    rw [z_bind (z_min xr xs), if_pos (by omega)]
    exact ⟨r, s, s, r, hr, hs, rs.1, q, rr.2.1, Or.inr ⟨rfl, rfl⟩, rfl⟩

/-! The two lightest runs. -/
theorem z0_lightL {b : BoatS} (hB : zB b) {v : Int} (hv : xin v) : ∀ (m fu : Nat) (r l : Int), 0 ≤ l → l + (m : Int) = zR b → m < fu → zMin (fun i => ¬ i = v) (zl (zG b)) l r → ∃ t, f0_lightestBut_L4 b v fu r l = some t ∧ zMin (fun i => ¬ i = v) (zl (zG b)) (zR b) t
  | 0, 0, _, _, _, _, h, _ => by omega
  | m + 1, 0, _, _, _, _, h, _ => by omega
  | 0, fu + 1, r, l, l0, hl, _, hz => by
    have hR := hB.R_le
    have h120 := hB.1.2.1
    unfold f0_lightestBut_L4
    rw [z_bind (show f2_size 120 (g0_flts b) = some (zR b) from rfl), z_ltF ⟨by omega, by omega⟩ ⟨by omega, by omega⟩ (by omega)]
    rw [show l = zR b by omega] at hz
    exact ⟨r, rfl, hz⟩
  | m + 1, fu + 1, r, l, l0, hl, h, hz => by
    have hR := hB.R_le
    have h120 := hB.1.2.1
    have hge := zMin_ge hz
    unfold f0_lightestBut_L4
    rw [z_bind (show f2_size 120 (g0_flts b) = some (zR b) from rfl), z_ltT ⟨by omega, by omega⟩ ⟨by omega, by omega⟩ (by omega)]
    by_cases e : l = v
    · rw [z_eqT ⟨by omega, by omega⟩ e]
      exact z0_lightL hB hv m fu r (l + 1) (by omega) (by omega) (by omega) (zMin_no hz (fun w => w e))
    · rw [z_eqF ⟨by omega, by omega⟩ hv e]
      by_cases g : r = -1
      · rw [z_eqT ⟨by omega, by omega⟩ g]
        exact z0_lightL hB hv m fu l (l + 1) (by omega) (by omega) (by omega) (zMin_new l0 (by rw [g] at hz; exact hz) e)
      · have g1 := hB.G_rng l0 (by omega)
        have g2 := hB.G_rng (i := r) (by omega) (by omega)
        rw [z_eqF ⟨by omega, by omega⟩ (by decide) g, z_bind (hB.getG l0 (by omega)), z_bind (hB.getG (i := r) (by omega) (by omega))]
        by_cases w : zG b l < zG b r
        · rw [z_ltT ⟨by omega, by omega⟩ ⟨by omega, by omega⟩ w]
          exact z0_lightL hB hv m fu l (l + 1) (by omega) (by omega) (by omega) (zMin_take (fun _ _ _ => zl_trans) l0 hz g e (Or.inl w))
        · rw [z_ltF ⟨by omega, by omega⟩ ⟨by omega, by omega⟩ w]
          exact z0_lightL hB hv m fu r (l + 1) (by omega) (by omega) (by omega) (zMin_keep hz g (by unfold zl; omega))
theorem z0_light {b : BoatS} (hB : zB b) {v : Int} (hv : xin v) : ∃ t, f0_lightestBut b v = some t ∧ zMin (fun i => ¬ i = v) (zl (zG b)) (zR b) t := by
  have hR := hB.R_le
  have h0 := hB.R0
  have h120 := hB.1.2.1
  exact z0_lightL hB hv (zR b).toNat xFU (-1) 0 (by omega) (by omega) (by unfold xFU; omega) zMin_0
theorem z5_lightL {b : BoatS} {x : ModS} (hB : zB b) (hR : zRel b (g5_now x)) {v : Int} (hv : xin v) : ∀ (m fu : Nat) (r l : Int), 0 ≤ l → l + (m : Int) = zR b → m < fu → zMin (fun i => ¬ zF b i = v) (zl (zG b)) l r → ∃ t, f5_lightest_L4 x v fu (if r = -1 then -1 else zF b r) l = some (if t = -1 then -1 else zF b t) ∧ zMin (fun i => ¬ zF b i = v) (zl (zG b)) (zR b) t
  | 0, 0, _, _, _, _, h, _ => by omega
  | m + 1, 0, _, _, _, _, h, _ => by omega
  | 0, fu + 1, r, l, l0, hl, _, hz => by
    have hRl := hB.R_le
    have h120 := hB.1.2.1
    have e8 : x_ld 730 (g5_now x) 8 = some (zR b) := by rw [z_ldT (by decide) (by decide), hR.2.2.2.2.2.2.2.2.1]
    unfold f5_lightest_L4
    rw [z_bind e8, z_ltF ⟨by omega, by omega⟩ ⟨by omega, by omega⟩ (by omega)]
    rw [show l = zR b by omega] at hz
    exact ⟨r, rfl, hz⟩
  | m + 1, fu + 1, r, l, l0, hl, h, hz => by
    have hRl := hB.R_le
    have h120 := hB.1.2.1
    have hge := zMin_ge hz
    have e8 : x_ld 730 (g5_now x) 8 = some (zR b) := by rw [z_ldT (by decide) (by decide), hR.2.2.2.2.2.2.2.2.1]
    have en : f5_numberAt x l = some (zF b l) := by
      unfold f5_numberAt
      rw [z_bind (z_ldT (by omega) (by show _ < (730 : Int); omega)), (hR.2.2.2.2.2.2.2.2.2 l l0 (by omega)).1]
    have hw : ∀ i, 0 ≤ i → i < zR b → f5_weightOf x (zF b i) = some (zG b i) := fun i i0 i1 => by
      have hi := hB.2.2.2.1.2.2.1 i i0 i1
      rw [z5_weightOf hR.1 hB.1 hi.1 (hB.xF i i0 i1), hi.2.2.2.2.1]
    have xl : xin (zF b l) := hB.xF l l0 (by show l < zR b; omega)
    unfold f5_lightest_L4
    rw [z_bind e8, z_ltT ⟨by omega, by omega⟩ ⟨by omega, by omega⟩ (by omega), z_bind en]
    by_cases e : zF b l = v
    · rw [z_eqT xl e]
      exact z5_lightL hB hR hv m fu r (l + 1) (by omega) (by omega) (by omega) (zMin_no hz (fun w => w e))
    · rw [z_eqF xl hv e]
      by_cases g : r = -1
      · rw [if_pos g, z_eqT (by decide) rfl, z_bind en]
        have := z5_lightL hB hR hv m fu l (l + 1) (by omega) (by omega) (by omega) (zMin_new l0 (by rw [g] at hz; exact hz) e)
        rw [if_neg (show ¬ l = -1 by omega)] at this
        exact this
      · have g1 := hB.G_rng l0 (by omega)
        have g2 := hB.G_rng (i := r) (by omega) (by omega)
        have hr := hB.2.2.2.1.2.2.1 r (by omega) (by omega)
        have xr : xin (zF b r) := hB.xF r (by omega) (by show r < zR b; omega)
        rw [if_neg g, z_eqF xr (by decide) (by omega), z_bind en, z_bind (hw l l0 (by omega)), z_bind (hw r (by omega) (by omega))]
        by_cases w : zG b l < zG b r
        · rw [z_ltT ⟨by omega, by omega⟩ ⟨by omega, by omega⟩ w, z_bind en]
          have := z5_lightL hB hR hv m fu l (l + 1) (by omega) (by omega) (by omega) (zMin_take (fun _ _ _ => zl_trans) l0 hz g e (Or.inl w))
          rw [if_neg (show ¬ l = -1 by omega)] at this
          exact this
        · rw [z_ltF ⟨by omega, by omega⟩ ⟨by omega, by omega⟩ w]
          have := z5_lightL hB hR hv m fu r (l + 1) (by omega) (by omega) (by omega) (zMin_keep hz g (by unfold zl; omega))
          rw [if_neg g] at this
          exact this
theorem z5_light {b : BoatS} {x : ModS} (hB : zB b) (hR : zRel b (g5_now x)) {v : Int} (hv : xin v) : ∃ t, f5_lightest x v = some (if t = -1 then -1 else zF b t) ∧ zMin (fun i => ¬ zF b i = v) (zl (zG b)) (zR b) t := by
  have hRl := hB.R_le
  have h0 := hB.R0
  have h120 := hB.1.2.1
  have e := z5_lightL hB hR hv (zR b).toNat xFU (-1) 0 (by omega) (by omega) (by unfold xFU; omega) zMin_0
  rw [if_pos rfl] at e
  exact e
/-- the class alone: which two -/
theorem z0_joinLight {b : BoatS} (hB : zB b) (h2 : 2 ≤ zR b) : ∃ r s i j, zMin (fun i => ¬ i = -1) (zl (zG b)) (zR b) r ∧ zMin (fun i => ¬ i = r) (zl (zG b)) (zR b) s ∧ 0 ≤ i ∧ i < j ∧ j < zR b ∧ ((r = i ∧ s = j) ∨ (r = j ∧ s = i)) ∧ f0_joinLightest b = some (zF b i, bJoin b i j) := by
  have hRl := hB.R_le
  have h120 := hB.1.2.1
  obtain ⟨r, e1, hr⟩ := z0_light hB (v := -1) (by decide)
  have nr := zMin_some hr (q := 0) (by decide) (by omega) (by decide)
  have rr := zMin_rng hr nr
  obtain ⟨s, e2, hs⟩ := z0_light hB (v := r) ⟨by omega, by omega⟩
  have ns : ¬ s = -1 := by
    by_cases g : r = 0
    · exact zMin_some hs (q := 1) (by decide) (by omega) (by omega)
    · exact zMin_some hs (q := 0) (by decide) (by omega) (by omega)
  have rs := zMin_rng hs ns
  have xr : xin (zF b r) := hB.xF r rr.1 rr.2.1
  have xs : xin (zF b s) := hB.xF s rs.1 rs.2.1
  unfold f0_joinLightest
  rw [z_bind e1, z_bind e2, z_bind (hB.getF rr.1 rr.2.1), z_bind (hB.getF rs.1 rs.2.1)]
  rcases Int.lt_trichotomy r s with q | q | q
  · have lt := hB.2.2.2.1.2.1 r s rr.1 q rs.2.1
    rw [z_bind2 (z0_join hB rr.1 q rs.2.1 (Or.inl ⟨rfl, rfl⟩))]
    dsimp only
    rw [z_bind (z_min xr xs), if_neg (by omega)]
    exact ⟨r, s, r, s, hr, hs, rr.1, q, rs.2.1, Or.inl ⟨rfl, rfl⟩, rfl⟩
  · exact absurd q.symm rs.2.2
  · have lt := hB.2.2.2.1.2.1 s r rs.1 q rr.2.1
    rw [z_bind2 (z0_join hB rs.1 q rr.2.1 (Or.inr ⟨rfl, rfl⟩))]
    dsimp only
    rw [z_bind (z_min xr xs), if_pos (by omega)]
    exact ⟨r, s, s, r, hr, hs, rs.1, q, rr.2.1, Or.inr ⟨rfl, rfl⟩, rfl⟩
theorem zs_light {b : BoatS} {x : ModS} {c : Int} (hJ : zJ b (g5_now x) c) (hc : c + 6000 < 1000000000) (h2 : 2 ≤ zR b) : ∃ v b' now', f0_joinLightest b = some (v, b') ∧ f5_mergeLight x = some (v, s5_now x now') ∧ zJ b' now' (c + 6000) ∧ 0 ≤ v ∧ v ≤ 1000000000 := by
  have hB := hJ.1
  obtain ⟨r, s, i, j, hr, hs, i0, ij, j1, hd, e⟩ := z0_joinLight hB h2
  have hf := hB.2.2.2.1.1
  have hi := hB.2.2.2.1.2.2.1 i i0 (by omega)
  have hj := hB.2.2.2.1.2.2.1 j (by omega) j1
  have lt := hB.2.2.2.1.2.1 i j i0 ij j1
  obtain ⟨t, f1, ht⟩ := z5_light hB hJ.2.1 (v := -1) (by decide)
  have et : t = r := by
    refine zMin_uniq (fun _ _ => zl_asym) ht (zMin_congr hr (fun q q0 q1 => ⟨fun _ => ?_, fun _ => by omega⟩))
    have := hB.2.2.2.1.2.2.1 q q0 q1
    omega
  have nr : ¬ r = -1 := by omega
  have ns : ¬ s = -1 := by omega
  have rr : 0 ≤ r ∧ r < zR b := by omega
  have rs : 0 ≤ s ∧ s < zR b := by omega
  rw [et, if_neg nr] at f1
  obtain ⟨t2, f2, ht2⟩ := z5_light hB hJ.2.1 (v := zF b r) (hB.xF r rr.1 rr.2)
  have et2 : t2 = s := by
    refine zMin_uniq (fun _ _ => zl_asym) ht2 (zMin_congr hs (fun q q0 q1 => ⟨fun z w => z (hB.2.2.2.1.inj q0 q1 rr.1 rr.2 w), fun z w => z (by rw [w])⟩))
  rw [et2, if_neg ns] at f2
  have hpq : (zF b r = zF b i ∧ zF b s = zF b j) ∨ (zF b r = zF b j ∧ zF b s = zF b i) := by
    rcases hd with ⟨h1, h2⟩ | ⟨h1, h2⟩
    · exact Or.inl ⟨by rw [h1], by rw [h2]⟩
    · exact Or.inr ⟨by rw [h1], by rw [h2]⟩
  obtain ⟨now', t1, t3, t4, t5, t6⟩ := zs_join hJ hc i0 ij j1 hpq
  refine ⟨_, _, now', e, ?_, t4, hi.1, by omega⟩
  unfold f5_mergeLight
  rw [z_bind f1, z_bind f2, z_bind2 t3]
  dsimp only
  rw [z_ltT (by decide) ⟨by omega, by omega⟩ (by omega)]
  rcases hpq with ⟨h1, h2⟩ | ⟨h1, h2⟩
  · rw [h1, h2, z_ltT ⟨by omega, by omega⟩ ⟨by omega, by omega⟩ lt]
  · rw [h1, h2, z_ltF ⟨by omega, by omega⟩ ⟨by omega, by omega⟩ (by omega)]

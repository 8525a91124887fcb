/-! The law throws one, all, and loads one. -/
theorem lV_new {vf F S : Int → Int} {R flo : Int} (h : lV vf F S R flo) (hR : 0 ≤ R) (hF : ∀ k, 0 ≤ k → k < R → 0 ≤ F k ∧ F k < flo) : lV (x_up vf flo 5) (x_up F R flo) (x_up S R 5) (R + 1) (flo + 1) := by
  refine ⟨fun k k0 k1 => ?_, fun r r0 r1 hr => ?_⟩
  · by_cases e : k = R
    · rw [e, z_upS, z_upS, z_upS]
    · have hk := hF k k0 (by omega)
      rw [z_upN e, z_upN e, z_upN (by omega)]
      exact h.1 k k0 (by omega)
  · have nr : ¬ r = flo := fun z => hr R hR (by omega) (by rw [z_upS]; exact z.symm)
    rw [z_upN nr]
    exact h.2 r r0 (by omega) (fun k k0 k1 z => hr k k0 (by omega) (by rw [z_upN (by omega)]; exact z))
theorem lr_throwOne {b : BoatS} {va vh vf : Int → Int} {c : Int} (hJ : lJ b va vh vf c) (hc : c < 1000000000) (hf64 : g0_flo b < 64) (hp : 0 < zC (zH b) (-1) (zn b)) : ∃ v b' va' vh' vf', f0_throwOne b = some (v, b') ∧ fL_throwsOne va vh vf = some (v, va', vh', vf') ∧ lJ b' va' vh' vf' (c + 1) ∧ zKp b b' ∧ zC (zH b') (-1) (zn b) = zC (zH b) (-1) (zn b) - 1 ∧ g0_flo b' ≤ g0_flo b + 1 ∧ 0 ≤ v ∧ v ≤ 64 := by
  obtain ⟨hB, hR, hT⟩ := hJ
  have hf : g0_flo b < 1000000000 := by omega
  have hf0 := hB.2.2.2.1.1.2.1
  have hn60 := hR.1.1
  obtain ⟨p, p0, p1, hp, hd⟩ := z0_throwOne hB hf hp
  obtain ⟨_, _, c0, _, _, hc0, _⟩ := z0_next hB
  rcases hd with ⟨k, j, ho, hk, k0, k1, ha, j0, j1, hj, hl, e⟩ | ⟨ho, hcm, e⟩
  · have hF := hB.2.2.2.1.2.2.1 j j0 j1
    obtain ⟨o0, _⟩ := hB.last_open ho
    have ha' : zMin (fun q => zH b q = -1 ∧ (k = -1 ∨ zl (zK b) k q)) (zl (zK b)) (zn b) p := zMin_congr ha (fun q _ _ => ⟨fun z => ⟨z.1, Or.inr z.2⟩, fun z => ⟨z.1, z.2.resolve_left (by omega)⟩⟩)
    have en := lr_next hB hR (k := k) (Or.inr ⟨k0, k1, ho, hl, hk⟩) ha' hc0
    rw [if_neg (show ¬ p = -1 by omega)] at en
    have rp := zMin_rng ha (by omega)
    refine ⟨_, _, x_up va p (lpk (zK b p) (zW b p) (g0_opn b)), vh, vf, e, ?_, ⟨zB_tie hB p0 p1 hp j0 j1, ⟨?_, hR.2.1, hR.2.2.1, hR.2.2.2⟩, zT_le (c := c) hT (by omega)⟩, ⟨rfl, rfl, rfl, rfl, rfl⟩, zC_thrown p0 p1 hp hF.1, by show g0_flo b ≤ g0_flo b + 1; omega, o0, by omega⟩
    · unfold fL_throwsOne
      rw [z_bind en, z_bind hR.ld2, z_ltF hB.opn_x (by decide) (by omega), z_bind hR.ld2, z_bind (lr_lastOf hR o0 (by omega) (by omega) hk), z_bind (lq_less hR.1 k0 k1 p0 p1), if_pos rp.2.2.2, z_eqF (by decide) (by decide) (by decide), z_bind hR.ld2, z_bind (lq_goes hR.1 (h' := g0_opn b) p0 p1 (zwh_run o0) (zof_0 o0).symm (by omega)), z_bind hR.ld2]
    · have := lq_up (p := p) (r := zF b j) hR.1 (by omega) (by omega)
      rw [hj] at this
      show lQ _ (zK b) (zW b) (x_up (zH b) p (zF b j)) (zn b)
      rw [hj]
      exact this
  · have hBn := zB_new hB hf p0 p1 hp
    have hR0 := hB.R0
    have en : fL_next va vh = some p := by
      rcases ho with ho | ⟨ho, k, hk, k0, k1, ha, hl⟩
      · have hcm' : zMin (fun q => zH b q = -1 ∧ ((-1 : Int) = -1 ∨ zl (zK b) (-1) q)) (zl (zK b)) (zn b) p := zMin_congr hcm (fun q _ _ => ⟨fun z => ⟨z, Or.inl rfl⟩, fun z => z.1⟩)
        have := lr_next hB hR (k := -1) (Or.inl ⟨rfl, ho⟩) hcm' hcm
        rw [if_neg (show ¬ p = -1 by omega)] at this
        exact this
      · have ha' : zMin (fun q => zH b q = -1 ∧ (k = -1 ∨ zl (zK b) k q)) (zl (zK b)) (zn b) (-1) := zMin_congr ha (fun q _ _ => ⟨fun z => ⟨z.1, Or.inr z.2⟩, fun z => ⟨z.1, z.2.resolve_left (by omega)⟩⟩)
        have := lr_next hB hR (k := k) (Or.inr ⟨k0, k1, ho, hl, hk⟩) ha' hcm
        rw [if_pos rfl] at this
        exact this
    have l3 : ∀ w : Int, x_ld 8 (x_up vh 2 w) 3 = some (g0_flo b) := fun w => by rw [z_ldT (by decide) (by decide), z_upN (by decide), hR.2.1.2.2.2.1]
    have l2 : x_ld 8 (x_up (x_up vh 2 (g0_flo b)) 3 (g0_flo b + 1)) 2 = some (g0_flo b) := by rw [z_ldT (by decide) (by decide), z_upN (by decide), z_upS]
    have tail : ((x_ld 8 vh 3).bind fun v4 => (x_st 8 vh 2 v4).bind fun g5 => (x_ld 8 g5 3).bind fun v6 => (x_st 64 vf v6 5).bind fun g7 => (x_ld 8 g5 3).bind fun v8 => (x_st 8 g5 3 (v8 + 1)).bind fun g9 => (x_ld 8 g9 2).bind fun v10 => (fL_goes va p 1 v10).bind fun g11 => (x_ld 8 g9 2).bind fun v12 => some (v12, g11, g9, g7)) = some (g0_flo b, x_up va p (lpk (zK b p) (zW b p) (g0_flo b)), x_up (x_up vh 2 (g0_flo b)) 3 (g0_flo b + 1), x_up vf (g0_flo b) 5) := by
      rw [z_bind hR.ld3, z_bind (z_stT (by decide) (by decide)), z_bind (l3 _), z_bind (z_stT hf0 (by show g0_flo b < (64 : Int); omega)), z_bind (l3 _), z_bind (z_stT (by decide) (by decide)), z_bind l2, z_bind (lq_goes hR.1 (h' := g0_flo b) p0 p1 (zwh_run hf0) (zof_0 hf0).symm (by omega)), z_bind l2]
    refine ⟨_, _, x_up va p (lpk (zK b p) (zW b p) (g0_flo b)), x_up (x_up vh 2 (g0_flo b)) 3 (g0_flo b + 1), x_up vf (g0_flo b) 5, e, ?_, ⟨hBn.1, ⟨lq_up (p := p) (r := g0_flo b) hR.1 (by omega) (by omega), ?_, lV_new hR.2.2.1 hR0 (fun k k0 k1 => ⟨(hB.2.2.2.1.2.2.1 k k0 k1).1, (hB.2.2.2.1.2.2.1 k k0 k1).2.1⟩), by show g0_flo b + 1 ≤ 64; omega⟩, ?_⟩, ⟨rfl, rfl, rfl, rfl, rfl⟩, zC_thrown p0 p1 hp hf0, Int.le_refl _, hf0, by omega⟩
    · unfold fL_throwsOne
      rw [z_bind en, z_bind hR.ld2]
      rcases ho with ho | ⟨ho, k, hk, k0, k1, ha, hl⟩
      · rw [z_ltT hB.opn_x (by decide) (by omega)]
        exact tail
      · obtain ⟨o0, _⟩ := hB.last_open ho
        obtain ⟨j, j0, j1, hj⟩ := hB.2.2.2.2.1.resolve_left ho
        have hF := hB.2.2.2.1.2.2.1 j j0 j1
        have hno : ¬ zl (zK b) k p := fun z => by
          rcases ha with ⟨_, g⟩ | ⟨g, _⟩
          · exact g p p0 p1 ⟨hp, z⟩
          · omega
        rw [z_ltF hB.opn_x (by decide) (by omega), z_bind hR.ld2, z_bind (lr_lastOf hR o0 (by omega) (by omega) hk), z_bind (lq_less hR.1 k0 k1 p0 p1), if_neg hno, z_eqT (by decide) rfl]
        exact tail
    · obtain ⟨h0, h1, h2, h3, h4, h5, h6, h7⟩ := hR.2.1
      refine ⟨?_, ?_, ?_, ?_, ?_, ?_, ?_, ?_⟩
      · rw [z_upN (by decide), z_upN (by decide)]; exact h0
      · rw [z_upN (by decide), z_upN (by decide)]; exact h1
      · rw [z_upN (by decide), z_upS]; rfl
      · rw [z_upS]; rfl
      · rw [z_upN (by decide), z_upN (by decide)]; exact h4
      · rw [z_upN (by decide), z_upN (by decide)]; exact h5
      · rw [z_upN (by decide), z_upN (by decide)]; exact h6
      · rw [z_upN (by decide), z_upN (by decide)]; exact h7
    · obtain ⟨h1, h2, h3, h4, h5⟩ := hT
      exact ⟨by show g0_flo b + 1 ≤ c + 1; omega, ⟨h2.1, by show g0_cst b ≤ c + 1; omega⟩, ⟨h3.1, by show g0_mrg b ≤ c + 1; omega⟩, ⟨h4.1, by show g0_stm b ≤ c + 1; omega⟩, ⟨h5.1, by show g0_brk b ≤ c + 1; omega⟩⟩
theorem lR_opn {b : BoatS} {va vh vf : Int → Int} {v : Int} (h : lR b va vh vf) : lR (s0_opn b v) va (x_up vh 2 v) vf := by
  obtain ⟨hq, ⟨h0, h1, h2, h3, h4, h5, h6, h7⟩, hv, h64⟩ := h
  refine ⟨hq, ⟨?_, ?_, ?_, ?_, ?_, ?_, ?_, ?_⟩, hv, h64⟩
  · rw [z_upN (by decide)]; exact h0
  · rw [z_upN (by decide)]; exact h1
  · rw [z_upS]; rfl
  · rw [z_upN (by decide)]; exact h3
  · rw [z_upN (by decide)]; exact h4
  · rw [z_upN (by decide)]; exact h5
  · rw [z_upN (by decide)]; exact h6
  · rw [z_upN (by decide)]; exact h7
theorem lr_emptyL : ∀ (m fu fu2 : Nat) (b : BoatS) (va vh vf : Int → Int) (c : Int), lJ b va vh vf c → zC (zH b) (-1) (zn b) = (m : Int) → m < fu → m < fu2 → c + (m : Int) < 1000000000 → g0_flo b + (m : Int) ≤ 64 → ∃ b' va' vh' vf', f0_throwAll_L6 fu (m : Int) b = some (zR b', b') ∧ fL_empties_L8 fu2 (m : Int) va vh vf = some (va', vh', vf') ∧ lJ b' va' vh' vf' (c + (m : Int)) ∧ zKp b b' ∧ g0_flo b' ≤ g0_flo b + (m : Int)
  | 0, 0, _, _, _, _, _, _, _, _, h, _, _, _ => by omega
  | m + 1, 0, _, _, _, _, _, _, _, _, h, _, _, _ => by omega
  | 0, _ + 1, 0, _, _, _, _, _, _, _, _, h, _, _ => by omega
  | m + 1, _ + 1, 0, _, _, _, _, _, _, _, _, h, _, _ => by omega
  | 0, fu + 1, fu2 + 1, b, va, vh, vf, c, hJ, hm, _, _, hc, hf => by
    unfold f0_throwAll_L6 fL_empties_L8
    rw [z_ltF (by decide) ⟨by omega, by omega⟩ (by omega), z_ltF (by decide) ⟨by omega, by omega⟩ (by omega), z_bind (z_stT (by decide) (by decide))]
    exact ⟨s0_opn b (-1), va, x_up vh 2 (-1), vf, rfl, rfl, ⟨zB_opn hJ.1, lR_opn hJ.2.1, zT_le (b := b) (c := c) hJ.2.2 (by omega)⟩, zKp_refl b, by show g0_flo b ≤ g0_flo b + 0; omega⟩
  | m + 1, fu + 1, fu2 + 1, b, va, vh, vf, c, hJ, hm, h1, h2, hc, hf => by
    have h120 := hJ.1.1.2.1
    have hle := zC_le (zH b) (-1) hJ.1.1.1
    obtain ⟨v, b', va', vh', vf', e1, e2, e3, e4, e5, e6, e7⟩ := lr_throwOne hJ (by omega) (by omega) (by omega)
    have hm' : zC (zH b') (-1) (zn b') = (m : Int) := by rw [e4.1]; omega
    obtain ⟨b2, va2, vh2, vf2, i1, i2, i3, i4, i5⟩ := lr_emptyL m fu fu2 b' va' vh' vf' (c + 1) e3 hm' (by omega) (by omega) (by omega) (by omega)
    unfold f0_throwAll_L6 fL_empties_L8
    rw [z_ltT (by decide) ⟨by omega, by omega⟩ (by omega), z_ltT (by decide) ⟨by omega, by omega⟩ (by omega), z_bind2 e1, z_bind e2]
    dsimp only
    rw [show ((m + 1 : Nat) : Int) + (-1) = (m : Int) by omega, i1, i2]
    refine ⟨b2, va2, vh2, vf2, rfl, rfl, ?_, zKp_trans e4 i4, by omega⟩
    rw [show c + ((m + 1 : Nat) : Int) = c + 1 + (m : Int) by omega]
    exact i3
theorem lr_empty {b : BoatS} {va vh vf : Int → Int} {c : Int} (hJ : lJ b va vh vf c) (hc : c + 60 < 1000000000) (hf : g0_flo b + zC (zH b) (-1) (zn b) ≤ 64) : ∃ b' va' vh' vf', f0_throwAll b = some (zR b', b') ∧ fL_empties va vh vf = some (va', vh', vf') ∧ lJ b' va' vh' vf' (c + 60) ∧ zKp b b' ∧ g0_flo b' ≤ g0_flo b + zC (zH b) (-1) (zn b) := by
  have hn := hJ.2.1.1.1
  have hle := zC_le (zH b) (-1) hJ.1.1.1
  have hge := zC_nonneg (zH b) (-1) (zn b)
  obtain ⟨b', va', vh', vf', i1, i2, i3, i4, i5⟩ := lr_emptyL (zC (zH b) (-1) (zn b)).toNat xFU xFU b va vh vf c hJ (by omega) (by unfold xFU; omega) (by unfold xFU; omega) (by omega) (by omega)
  rw [Int.toNat_of_nonneg hge] at i1 i2 i3 i5
  refine ⟨b', va', vh', vf', ?_, ?_, lJ_le i3 (by omega), i4, i5⟩
  · unfold f0_throwAll
    rw [z_bind (z0_countAt hJ.1 (by decide)), i1]
  · unfold fL_empties
    rw [z_bind (lr_many0 hJ.2.1), i2]
/-- one comes in -/
theorem lr_takeIn {b : BoatS} {va vh vf : Int → Int} (hR : lR b va vh vf) (v : Int) {key w : Int} (hn : zn b < 60) (k0 : 0 ≤ key) (k1 : key ≤ 999) (w0 : 1 ≤ w) (w1 : w ≤ 50) : ((x_ld 8 vh 0).bind fun v4 => (fL_pack key w 0 (-1)).bind fun v5 => (x_st 64 va v4 v5).bind fun g6 => (x_ld 8 vh 0).bind fun v7 => (x_st 8 vh 0 (v7 + 1)).bind fun g8 => some (v, g6, g8, vf)) = some (v, x_up va (zn b) (lpk key w (-1)), x_up vh 0 (zn b + 1), vf) ∧ lR (bTake b key w) (x_up va (zn b) (lpk key w (-1))) (x_up vh 0 (zn b + 1)) vf := by
  have h1 := hR.1.1
  have hp : fL_pack key w 0 (-1) = some (lpk key w (-1)) := by
    have e := lb_pack (h := -1) k0 k1 w0 w1 (by decide)
    have e1 : zwh (-1) = 0 := by decide
    have e2 : zof (-1) = -1 := by decide
    rw [e1, e2] at e
    exact e
  constructor
  · rw [z_bind hR.ld0, z_bind hp, z_bind (z_stT h1.1 (by show zn b < (64 : Int); omega)), z_bind hR.ld0, z_bind (z_stT (by decide) (by decide))]
  · obtain ⟨g0, g1, g2, g3, g4, g5, g6, g7⟩ := hR.2.1
    refine ⟨⟨⟨by show 0 ≤ zn b + 1; omega, by show zn b + 1 ≤ 60; omega⟩, fun p p0 p1 => ?_⟩, ⟨?_, ?_, ?_, ?_, ?_, ?_, ?_, ?_⟩, hR.2.2.1, hR.2.2.2⟩
    · have p1' : p < zn b + 1 := p1
      show x_up va (zn b) (lpk key w (-1)) p = lpk (x_up (zK b) (zn b) key p) (x_up (zW b) (zn b) w p) (x_up (zH b) (zn b) (-1) p) ∧ (0 ≤ x_up (zK b) (zn b) key p ∧ x_up (zK b) (zn b) key p ≤ 999) ∧ (1 ≤ x_up (zW b) (zn b) w p ∧ x_up (zW b) (zn b) w p ≤ 50) ∧ -2 ≤ x_up (zH b) (zn b) (-1) p ∧ x_up (zH b) (zn b) (-1) p ≤ 4000
      by_cases e : p = zn b
      · rw [e, z_upS, z_upS, z_upS, z_upS]
        exact ⟨rfl, ⟨k0, k1⟩, ⟨w0, w1⟩, by decide, by decide⟩
      · rw [z_upN e, z_upN e, z_upN e, z_upN e]
        exact hR.1.2 p p0 (by omega)
    · rw [z_upS]; rfl
    · rw [z_upN (by decide)]; exact g1
    · rw [z_upN (by decide)]; exact g2
    · rw [z_upN (by decide)]; exact g3
    · rw [z_upN (by decide)]; exact g4
    · rw [z_upN (by decide)]; exact g5
    · rw [z_upN (by decide)]; exact g6
    · rw [z_upN (by decide)]; exact g7
theorem lr_take {b : BoatS} {va vh vf : Int → Int} {c : Int} (hJ : lJ b va vh vf c) (hc : c < 1000000000) {key w : Int} (hn : zn b < 60) (hf : g0_flo b < 64) (k0 : 0 ≤ key) (k1 : key ≤ 999) (w0 : 1 ≤ w) (w1 : w ≤ 50) : ∃ v b' va' vh' vf', f0_take b key w = some (v, b') ∧ fL_loads va vh vf key w = some (v, va', vh', vf') ∧ lJ b' va' vh' vf' (c + 1) ∧ xin v ∧ g0_flo b' ≤ g0_flo b + 1 := by
  have hB := hJ.1
  have hR := hJ.2.1
  have hge := zC_nonneg (zH b) (-1) (zn b)
  have hrm := hB.2.2.2.2.2
  unfold f0_take fL_loads
  rw [z_bind (z0_countAt hB (by decide)), z_bind (lr_many0 hR), z_bind hR.ld1]
  by_cases hq : zC (zH b) (-1) (zn b) < g0_room b
  · obtain ⟨m1, m2⟩ := lr_takeIn hR (-1) (key := key) (w := w) hn k0 k1 w0 w1
    rw [z_ltT ⟨by omega, by omega⟩ ⟨by omega, by omega⟩ hq, z_ltT ⟨by omega, by omega⟩ ⟨by omega, by omega⟩ hq, z0_takeIn hB (-1) (by omega) k0 k1, m1]
    exact ⟨_, _, _, _, _, rfl, rfl, ⟨zB_take hB (by omega) hq k0 k1 w0 w1, m2, zT_le (b := b) (c := c) hJ.2.2 (by omega)⟩, by decide, by show g0_flo b ≤ g0_flo b + 1; omega⟩
  · obtain ⟨v, b', va', vh', vf', e1, e2, e3, e4, e5, e6, e7⟩ := lr_throwOne hJ hc hf (by omega)
    have hn' : zn b' < 60 := by rw [e4.1]; exact hn
    obtain ⟨m1, m2⟩ := lr_takeIn e3.2.1 v (key := key) (w := w) hn' k0 k1 w0 w1
    rw [z_ltF ⟨by omega, by omega⟩ ⟨by omega, by omega⟩ hq, z_ltF ⟨by omega, by omega⟩ ⟨by omega, by omega⟩ hq, z_bind2 e1, z_bind e2]
    dsimp only
    rw [z0_takeIn e3.1 v (by omega) k0 k1, m1]
    have hq' : zC (zH b') (-1) (zn b') < g0_room b' := by rw [e4.1, e4.2.2.2.2, e5]; omega
    exact ⟨v, _, _, _, _, rfl, rfl, ⟨zB_take e3.1 (by omega) hq' k0 k1 w0 w1, m2, e3.2.2⟩, ⟨by omega, by omega⟩, e6⟩

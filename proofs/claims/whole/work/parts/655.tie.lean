/-! The steps of throwing, on each side. -/
theorem z0_tie {b : BoatS} {p k : Int} (hp0 : 0 ≤ p) (hp1 : p < (g0_homs b).1) (hp2 : p < (g0_weis b).1) (hs1 : (g0_homs b).1 ≤ 120) (hs2 : (g0_weis b).1 ≤ 120) (k0 : 0 ≤ k) (k1 : k < (g0_flts b).1) (k2 : k < (g0_rwts b).1) (hs3 : (g0_flts b).1 ≤ 120) (hs4 : (g0_rwts b).1 ≤ 120) : f0_tie b p k = some (s0_rwts (s0_homs b ((g0_homs b).1, x_up (g0_homs b).2 p ((g0_flts b).2 k))) ((g0_rwts b).1, x_up (g0_rwts b).2 k ((g0_rwts b).2 k + (g0_weis b).2 p))) := by
  unfold f0_tie
  rw [z_bind (z2_get (by show _ ≤ (120 : Int); omega) (by omega) k0 k1), z_bind (z2_set (by show _ ≤ (120 : Int); omega) (by omega) hp0 hp1), z_bind (z2_get (by show _ ≤ (120 : Int); omega) (by omega) hp0 hp2), z_bind (z2_inc (by show _ ≤ (120 : Int); omega) (by omega) k0 k2)]
theorem z0_newFloat {b : BoatS} (h0 : 0 ≤ (g0_flts b).1) (h1 : (g0_flts b).1 < 120) (h2 : 0 ≤ (g0_strs b).1) (h3 : (g0_strs b).1 < 120) (h4 : 0 ≤ (g0_rwts b).1) (h5 : (g0_rwts b).1 < 120) : f0_newFloat b = some (g0_flo b, s0_rwts (s0_strs (s0_flts (s0_flo b (g0_flo b + 1)) ((g0_flts b).1 + 1, x_up (g0_flts b).2 (g0_flts b).1 (g0_flo b))) ((g0_strs b).1 + 1, x_up (g0_strs b).2 (g0_strs b).1 5)) ((g0_rwts b).1 + 1, x_up (g0_rwts b).2 (g0_rwts b).1 0)) := by
  unfold f0_newFloat
  rw [z_bind (z2_add h0 (by show _ < (120 : Int); omega) (by omega) (by decide)), z_bind (z2_add h2 (by show _ < (120 : Int); omega) (by omega) (by decide)), z_bind (z2_add h4 (by show _ < (120 : Int); omega) (by omega) (by decide))]
theorem z5_be {x : ModS} {p w v : Int} (h0 : 0 ≤ p) (h1 : p < 120) (h2 : 0 ≤ w) (h3 : w < 4) : f5_be x p w v = some (s5_now x (x_up (g5_now x) (250 + 4 * p + w) v)) := by
  unfold f5_be
  rw [z_bind (z_stT (by omega) (by show _ < (730 : Int); omega))]
theorem zM_be {now K W H : Int → Int} {n p r : Int} (h : zM now K W H n) (p0 : 0 ≤ p) : zM (x_up (x_up now (250 + 4 * p + 2) (zwh r)) (250 + 4 * p + 3) (zof r)) K W (x_up H p r) n := by
  refine ⟨by rw [z_upN (by omega), z_upN (by omega)]; exact h.1, fun q q0 q1 => ?_⟩
  have hq := h.2 q q0 q1
  by_cases e : q = p
  · subst e
    refine ⟨?_, ?_, ?_, ?_⟩
    · rw [z_upN (by omega), z_upN (by omega)]; exact hq.1
    · rw [z_upN (by omega), z_upN (by omega)]; exact hq.2.1
    · rw [z_upN (by omega), z_upS, z_upS]
    · rw [z_upS, z_upS]
  · rw [z_upN e, z_upN (by omega), z_upN (by omega), z_upN (by omega), z_upN (by omega), z_upN (by omega), z_upN (by omega), z_upN (by omega), z_upN (by omega)]
    exact hq
theorem zM_lo {now now' K W H : Int → Int} {n : Int} (h : zM now K W H n) (h1 : now' 1 = now 1) (hh : ∀ j, 250 ≤ j → now' j = now j) : zM now' K W H n := by
  refine ⟨by rw [h1]; exact h.1, fun q q0 q1 => ?_⟩
  rw [hh _ (by omega), hh _ (by omega), hh _ (by omega), hh _ (by omega)]
  exact h.2 q q0 q1
theorem z5_newRun {b : BoatS} {x : ModS} (hR : zRel b (g5_now x)) (r0 : 0 ≤ zR b) (r1 : zR b < 120) : ∃ now', f5_newRun x = some (g0_flo b, s5_now x now') ∧ (∀ j, 250 ≤ j → now' j = g5_now x j) ∧ (∀ j, 0 ≤ j → j ≤ 6 → now' j = g5_now x j) ∧ now' 7 = g0_flo b + 1 ∧ now' 8 = zR b + 1 ∧ (∀ k, 0 ≤ k → k < zR b → now' (10 + 2 * k) = zF b k ∧ now' (10 + 2 * k + 1) = zS b k) ∧ now' (10 + 2 * zR b) = g0_flo b ∧ now' (10 + 2 * zR b + 1) = 5 := by
  obtain ⟨hm, h0, h2, h3, h4, h5, h6, h7, h8, h9⟩ := hR
  have e8 : x_ld 730 (g5_now x) 8 = some (zR b) := by rw [z_ldT (by decide) (by decide), h8]
  have e7 : x_ld 730 (g5_now x) 7 = some (g0_flo b) := by rw [z_ldT (by decide) (by decide), h7]
  unfold f5_newRun
  rw [z_bind e8, z_bind e7, z_bind (z_stT (by omega) (by show _ < (730 : Int); omega)), z_bind (z_stT (by omega) (by show _ < (730 : Int); omega)), z_bind (z_ldT (by decide) (by decide)), z_bind (z_stT (by decide) (by decide)), z_bind (z_ldT (by decide) (by decide)), z_bind (z_stT (by decide) (by decide)), z_bind (z_ldT (by decide) (by decide))]
  refine ⟨_, congrArg some (Prod.ext ?_ rfl), fun j hj => ?_, fun j j0 j1 => ?_, ?_, ?_, fun k k0 k1 => ?_, ?_, ?_⟩
  · dsimp only
    rw [z_upS, z_upN (by decide), z_upN (by omega), z_upN (by omega), h7]; omega
  · rw [z_upN (by omega), z_upN (by omega), z_upN (by omega), z_upN (by omega)]
  · rw [z_upN (by omega), z_upN (by omega), z_upN (by omega), z_upN (by omega)]
  · rw [z_upS, z_upN (by decide), z_upN (by omega), z_upN (by omega), h7]
  · rw [z_upN (by decide), z_upS, z_upN (by omega), z_upN (by omega), h8]
  · rw [z_upN (by omega), z_upN (by omega), z_upN (by omega), z_upN (by omega), z_upN (by omega), z_upN (by omega), z_upN (by omega), z_upN (by omega)]
    exact h9 k k0 k1
  · rw [z_upN (by omega), z_upN (by omega), z_upN (by omega), z_upS]
  · rw [z_upN (by omega), z_upN (by omega), z_upS]

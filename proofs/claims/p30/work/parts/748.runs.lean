/-! The law counts, finds and weighs the runs. -/
section LRUNS
variable {b : BoatS} {va vh vf : Int → Int}
/-- how far the runs are behind at the number r -/
def lK (b : BoatS) (k r : Int) : Prop := (0 ≤ k ∧ k ≤ zR b) ∧ (∀ j, 0 ≤ j → j < k → zF b j < r) ∧ ∀ j, k ≤ j → j < zR b → r ≤ zF b j
theorem lK_0 (hB : zB b) : lK b 0 0 := ⟨⟨Int.le_refl _, hB.R0⟩, fun j j0 j1 => by omega, fun j j0 j1 => (hB.2.2.2.1.2.2.1 j j0 j1).1⟩
theorem lK_end (hB : zB b) {k : Int} (h : lK b k (g0_flo b)) : k = zR b := by
  refine Classical.byContradiction fun z => ?_
  have h1 := h.1
  have := h.2.2 k (Int.le_refl _) (by omega)
  have := (hB.2.2.2.1.2.2.1 k (by omega) (by omega)).2.1
  omega
theorem lK_yes (hB : zB b) {k r : Int} (h : lK b k r) (k1 : k < zR b) (e : zF b k = r) : lK b (k + 1) (r + 1) := by
  have h1 := h.1
  refine ⟨⟨by omega, by omega⟩, fun j j0 j1 => ?_, fun j j0 j1 => ?_⟩
  · by_cases z : j = k
    · rw [z]; omega
    · have := h.2.1 j j0 (by omega); omega
  · have := hB.2.2.2.1.2.1 k j (by omega) (by omega) j1; omega
theorem lK_no {k r : Int} (h : lK b k r) (e : ¬ (k < zR b ∧ zF b k = r)) (hB : zB b) : lK b k (r + 1) := by
  have h1 := h.1
  refine ⟨h.1, fun j j0 j1 => by have := h.2.1 j j0 j1; omega, fun j j0 j1 => ?_⟩
  have h2 := h.2.2 j j0 j1
  by_cases z : j = k
  · rw [z] at j1 h2 ⊢
    have : ¬ zF b k = r := fun w => e ⟨j1, w⟩
    omega
  · have := h.2.2 k (Int.le_refl _) (by omega)
    have := hB.2.2.2.1.2.1 k j (by omega) (by omega) j1
    omega
/-- what stands at a number -/
theorem lV_at (h : lR b va vh vf) (hB : zB b) {k r : Int} (hk : lK b k r) (r0 : 0 ≤ r) (r1 : r < g0_flo b) : (k < zR b ∧ zF b k = r ∧ x_ld 64 vf r = some (zS b k) ∧ 0 ≤ zS b k ∧ zS b k ≤ 9) ∨ (¬ (k < zR b ∧ zF b k = r) ∧ x_ld 64 vf r = some (-1)) := by
  have h64 := h.2.2.2
  have h1 := hk.1
  by_cases c : k < zR b ∧ zF b k = r
  · have hF := hB.2.2.2.1.2.2.1 k (by omega) c.1
    refine Or.inl ⟨c.1, c.2, ?_, hF.2.2.1, hF.2.2.2.1⟩
    rw [z_ldT r0 (by show r < (64 : Int); omega), ← c.2, h.2.2.1.1 k (by omega) c.1]
  · refine Or.inr ⟨c, ?_⟩
    rw [z_ldT r0 (by show r < (64 : Int); omega), h.2.2.1.2 r r0 r1 (fun j j0 j1 z => by
      by_cases d : j < k
      · have := hk.2.1 j j0 d; omega
      · by_cases w : j = k
        · rw [w] at z j1; exact c ⟨j1, z⟩
        · have h2 := hk.2.2 k (Int.le_refl _) (by omega)
          have := hB.2.2.2.1.2.1 k j (by omega) (by omega) j1
          omega)]
theorem lr_runsL (hB : zB b) (h : lR b va vh vf) : ∀ (m fu : Nat) (k r : Int), 0 ≤ r → r + (m : Int) = g0_flo b → m < fu → lK b k r → fL_runs_L4 vh vf fu k r = some (zR b)
  | 0, 0, _, _, _, _, q, _ => by omega
  | m + 1, 0, _, _, _, _, q, _ => by omega
  | 0, fu + 1, k, r, r0, r1, _, hk => by
    have h64 := h.2.2.2
    unfold fL_runs_L4
    rw [z_bind h.ld3, z_ltF ⟨by omega, by omega⟩ ⟨by omega, by omega⟩ (by omega)]
    rw [show r = g0_flo b by omega] at hk
    rw [lK_end hB hk]
  | m + 1, fu + 1, k, r, r0, r1, q, hk => by
    have h64 := h.2.2.2
    unfold fL_runs_L4
    rw [z_bind h.ld3, z_ltT ⟨by omega, by omega⟩ ⟨by omega, by omega⟩ (by omega)]
    rcases lV_at h hB hk r0 (by omega) with ⟨k1, e, l, s0, s1⟩ | ⟨c, l⟩
    · rw [z_bind l, z_ltF ⟨by omega, by omega⟩ (by decide) (by omega)]
      exact lr_runsL hB h m fu (k + 1) (r + 1) (by omega) (by omega) (by omega) (lK_yes hB hk k1 e)
    · rw [z_bind l, z_ltT (by decide) (by decide) (by decide), Int.add_zero]
      exact lr_runsL hB h m fu k (r + 1) (by omega) (by omega) (by omega) (lK_no hk c hB)
theorem lr_runs (hB : zB b) (h : lR b va vh vf) : fL_runs vh vf = some (zR b) := by
  have h64 := h.2.2.2
  have hf0 := hB.2.2.2.1.1.2.1
  exact lr_runsL hB h (g0_flo b).toNat xFU 0 0 (by omega) (by omega) (by unfold xFU; omega) (lK_0 hB)
theorem lr_runByL (hB : zB b) (h : lR b va vh vf) {i : Int} (i1 : i < zR b) : ∀ (m fu : Nat) (k r : Int), 0 ≤ r → r + (m : Int) = g0_flo b → m < fu → lK b k r → k ≤ i → fL_runBy_L5 vh vf i fu k r = some (zF b i)
  | 0, 0, _, _, _, _, q, _, _ => by omega
  | m + 1, 0, _, _, _, _, q, _, _ => by omega
  | 0, fu + 1, k, r, r0, r1, _, hk, hi => by
    rw [show r = g0_flo b by omega] at hk
    have := lK_end hB hk
    omega
  | m + 1, fu + 1, k, r, r0, r1, q, hk, hi => by
    have h64 := h.2.2.2
    have hR := hB.R_le
    have h120 := hB.1.2.1
    have h1 := hk.1
    unfold fL_runBy_L5
    rw [z_bind h.ld3, z_ltT ⟨by omega, by omega⟩ ⟨by omega, by omega⟩ (by omega)]
    rcases lV_at h hB hk r0 (by omega) with ⟨k1, e, l, s0, s1⟩ | ⟨c, l⟩
    · rw [z_bind l, z_ltF ⟨by omega, by omega⟩ (by decide) (by omega)]
      by_cases d : k = i
      · rw [z_eqT ⟨by omega, by omega⟩ d, ← d, e]
      · rw [z_eqF ⟨by omega, by omega⟩ ⟨by omega, by omega⟩ d]
        exact lr_runByL hB h i1 m fu (k + 1) (r + 1) (by omega) (by omega) (by omega) (lK_yes hB hk k1 e) (by omega)
    · rw [z_bind l, z_ltT (by decide) (by decide) (by decide)]
      exact lr_runByL hB h i1 m fu k (r + 1) (by omega) (by omega) (by omega) (lK_no hk c hB) hi
theorem lr_runBy (hB : zB b) (h : lR b va vh vf) {i : Int} (i0 : 0 ≤ i) (i1 : i < zR b) : fL_runBy vh vf i = some (zF b i) := by
  have h64 := h.2.2.2
  have hf0 := hB.2.2.2.1.1.2.1
  exact lr_runByL hB h i1 (g0_flo b).toNat xFU 0 0 (by omega) (by omega) (by unfold xFU; omega) (lK_0 hB) i0
theorem lr_lightL (hB : zB b) (h : lR b va vh vf) {v : Int} (hv : xin v) : ∀ (m fu : Nat) (t k r : Int), 0 ≤ r → r + (m : Int) = g0_flo b → m < fu → lK b k r → zMin (fun i => ¬ zF b i = v) (zl (zG b)) k t → ∃ t', fL_lightest_L6 va vh vf v fu (if t = -1 then -1 else zF b t) r = some (if t' = -1 then -1 else zF b t') ∧ zMin (fun i => ¬ zF b i = v) (zl (zG b)) (zR b) t'
  | 0, 0, _, _, _, _, _, q, _, _ => by omega
  | m + 1, 0, _, _, _, _, _, q, _, _ => by omega
  | 0, fu + 1, t, k, r, r0, r1, _, hk, hz => by
    have h64 := h.2.2.2
    rw [show r = g0_flo b by omega] at hk
    have ek := lK_end hB hk
    unfold fL_lightest_L6
    rw [z_bind h.ld3, z_ltF ⟨by omega, by omega⟩ ⟨by omega, by omega⟩ (by omega)]
    rw [ek] at hz
    exact ⟨t, rfl, hz⟩
  | m + 1, fu + 1, t, k, r, r0, r1, q, hk, hz => by
    have h64 := h.2.2.2
    have hR := hB.R_le
    have h120 := hB.1.2.1
    have h1 := hk.1
    have hge := zMin_ge hz
    unfold fL_lightest_L6
    rw [z_bind h.ld3, z_ltT ⟨by omega, by omega⟩ ⟨by omega, by omega⟩ (by omega)]
    rcases lV_at h hB hk r0 (by omega) with ⟨k1, e, l, s0, s1⟩ | ⟨c, l⟩
    · have xr : xin r := ⟨by omega, by omega⟩
      have hK' := lK_yes hB hk k1 e
      rw [z_bind l, z_ltF ⟨by omega, by omega⟩ (by decide) (by omega)]
      by_cases d : r = v
      · rw [z_eqT xr d]
        exact lr_lightL hB h hv m fu t (k + 1) (r + 1) (by omega) (by omega) (by omega) hK' (zMin_no hz (fun w => w (by rw [e]; exact d)))
      · have hP : ¬ zF b k = v := by rw [e]; exact d
        rw [z_eqF xr hv d]
        by_cases g : t = -1
        · rw [if_pos g, z_ltT (by decide) (by decide) (by decide)]
          have := lr_lightL hB h hv m fu k (k + 1) (r + 1) (by omega) (by omega) (by omega) hK' (zMin_new h1.1 (by rw [g] at hz; exact hz) hP)
          rw [if_neg (show ¬ k = -1 by omega), e] at this
          exact this
        · have g1 := hB.G_rng h1.1 k1
          have g2 := hB.G_rng (i := t) (by omega) (by omega)
          have ht := hB.2.2.2.1.2.2.1 t (by omega) (by omega)
          have w1 := lr_weighs h hB h1.1 k1
          rw [e] at w1
          rw [if_neg g, z_ltF ⟨by omega, by omega⟩ (by decide) (by omega), z_bind w1, z_bind (lr_weighs h hB (i := t) (by omega) (by omega))]
          by_cases w : zG b k < zG b t
          · rw [z_ltT ⟨by omega, by omega⟩ ⟨by omega, by omega⟩ w]
            have := lr_lightL hB h hv m fu k (k + 1) (r + 1) (by omega) (by omega) (by omega) hK' (zMin_take (fun _ _ _ => zl_trans) h1.1 hz g hP (Or.inl w))
            rw [if_neg (show ¬ k = -1 by omega), e] at this
            exact this
          · rw [z_ltF ⟨by omega, by omega⟩ ⟨by omega, by omega⟩ w]
            have := lr_lightL hB h hv m fu t (k + 1) (r + 1) (by omega) (by omega) (by omega) hK' (zMin_keep hz g (by unfold zl; omega))
            rw [if_neg g] at this
            exact this
    · rw [z_bind l, z_ltT (by decide) (by decide) (by decide)]
      exact lr_lightL hB h hv m fu t k (r + 1) (by omega) (by omega) (by omega) (lK_no hk c hB) hz
theorem lr_light (hB : zB b) (h : lR b va vh vf) {v : Int} (hv : xin v) : ∃ t, fL_lightest va vh vf v = some (if t = -1 then -1 else zF b t) ∧ zMin (fun i => ¬ zF b i = v) (zl (zG b)) (zR b) t := by
  have h64 := h.2.2.2
  have hf0 := hB.2.2.2.1.1.2.1
  have e := lr_lightL hB h hv (g0_flo b).toNat xFU (-1) 0 0 (by omega) (by omega) (by unfold xFU; omega) (lK_0 hB) zMin_0
  rw [if_pos rfl] at e
  exact e
end LRUNS

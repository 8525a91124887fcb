/-! The law makes a float stronger, and brings a run ashore. -/
theorem lV_S {vf F S : Int → Int} {R flo i v : Int} (h : lV vf F S R flo) (hinj : ∀ k, 0 ≤ k → k < R → F k = F i → k = i) (i0 : 0 ≤ i) (i1 : i < R) : lV (x_up vf (F i) v) F (x_up S i v) R flo := by
  refine ⟨fun k k0 k1 => ?_, fun r r0 r1 hr => ?_⟩
  · by_cases e : k = i
    · rw [e, z_upS, z_upS]
    · rw [z_upN e, z_upN (fun z => e (hinj k k0 k1 z))]
      exact h.1 k k0 k1
  · rw [z_upN (fun z => hr i i0 i1 z.symm)]
    exact h.2 r r0 r1 hr
theorem lr_tight {b : BoatS} {va vh vf : Int → Int} {c i : Int} (hJ : lJ b va vh vf c) (i0 : 0 ≤ i) (i1 : i < zR b) : ∃ v, f0_strengthen b (zF b i) = some (v, s0_strs b (zR b, x_up (zS b) i v)) ∧ v = (if zS b i < 9 then zS b i + 1 else 9) ∧ lJ (s0_strs b (zR b, x_up (zS b) i v)) va vh (x_up vf (zF b i) v) c ∧ 0 ≤ v ∧ v ≤ 9 := by
  obtain ⟨hB, hR, hT⟩ := hJ
  have hRl := hB.R_le
  have h120 := hB.1.2.1
  have hi := hB.2.2.2.1.2.2.1 i i0 i1
  have key : ∀ v, 0 ≤ v → v ≤ 9 → lJ (s0_strs b (zR b, x_up (zS b) i v)) va vh (x_up vf (zF b i) v) c := fun v v0 v1 => ⟨zB_S hB (fun k k0 k1 => by
    by_cases e : k = i
    · rw [e, z_upS]; omega
    · rw [z_upN e]; have hk := hB.2.2.2.1.2.2.1 k k0 k1; omega), ⟨hR.1, hR.2.1, lV_S hR.2.2.1 (fun k k0 k1 z => hB.2.2.2.1.inj k0 k1 i0 i1 z) i0 i1, hR.2.2.2⟩, hT⟩
  have hset : ∀ v, f2_set 120 (g0_strs b) i v = some (zR b, x_up (zS b) i v) := fun v => by
    rw [hB.eS]
    exact z2_set (N := 120) (r := (zR b, zS b)) (by show zR b ≤ (120 : Int); omega) (by show zR b ≤ 100000; omega) i0 i1
  have hget : ∀ v, f2_get 120 (zR b, x_up (zS b) i v) i = some v := fun v => by
    rw [z2_get (N := 120) (r := (zR b, x_up (zS b) i v)) (by show zR b ≤ (120 : Int); omega) (by show zR b ≤ 100000; omega) i0 i1]
    exact congrArg some z_upS
  unfold f0_strengthen
  rw [z_bind (hB.idxAt i0 i1), z_bind (hB.getS i0 i1), z_bind (z_min ⟨by omega, by omega⟩ (by decide)), z_bind (hset _), z_bind (hget _)]
  by_cases e : zS b i < 9
  · rw [if_neg (by omega)]
    exact ⟨_, rfl, by rw [if_pos e], key _ (by omega) (by omega), by omega, by omega⟩
  · rw [if_pos (by omega)]
    exact ⟨_, rfl, by rw [if_neg e], key _ (by omega) (by omega), by omega, by omega⟩
/-- may the run be brought ashore: both sides -/
theorem lr_canLand {b : BoatS} {va vh vf : Int → Int} (hB : zB b) (hR : lR b va vh vf) {i : Int} (i0 : 0 ≤ i) (i1 : i < zR b) : (zC (zH b) (-2) (zn b) = 0 ∧ f0_canBringAshore b (zF b i) = some 1) ∨ (0 < zC (zH b) (-2) (zn b) ∧ ∃ l r w, f0_canBringAshore b (zF b i) = some w ∧ fL_ranked va vh 2 (-1) (zC (zH b) (-2) (zn b) - 1) = some l ∧ fL_ranked va vh 1 (zF b i) 0 = some r ∧ fL_isLess va l r = some w ∧ (w = 0 ∨ w = 1)) := by
  have h120 := hB.1.2.1
  have h0 := hB.1.1
  have hi := hB.2.2.2.1.2.2.1 i i0 i1
  have hf := hR.2.2.2
  have cn := zC_nonneg (zH b) (-2) (zn b)
  obtain ⟨l, e1, hl⟩ := z0_lastAt hB (h := -2) (by decide)
  obtain ⟨r, e3, r0, r1, hr⟩ := z0_first hB i0 i1
  unfold f0_canBringAshore
  rw [z_bind e1, z_bind e3]
  by_cases c : l = -1
  · refine Or.inl ⟨Classical.byContradiction fun z => ?_, by rw [z_eqT ⟨by omega, by omega⟩ c]⟩
    obtain ⟨q, q0, q1, hq⟩ := zC_pos (H := zH b) (h := -2) (n := zn b) (by omega)
    exact zMin_some hl q0 q1 hq c
  · have rl := zMin_rng hl c
    have hl' : ∀ q, 0 ≤ q → q < zn b → zH b q = -2 → q = l ∨ zl (zK b) q l := by
      rcases hl with ⟨g, _⟩ | ⟨_, _, _, g⟩
      · exact absurd g c
      · exact g
    have er := lq_rankedAt hR.1 hR.h0 (e := 2) (r := -1) (h := -2) (by decide) (by decide) (by decide) (by decide) rl.1 rl.2.1 rl.2.2
    rw [zRk_all rl.1 rl.2.1 rl.2.2 hl'] at er
    refine Or.inr ⟨zC_pos' rl.1 rl.2.1 rl.2.2, l, r, if zl (zK b) l r then 1 else 0, ?_, er, lr_first hR (g := zF b i) (zwh_run hi.1) (zof_0 hi.1).symm (by omega) (by omega) (by omega) hr, lq_less hR.1 rl.1 rl.2.1 r0 r1, by split <;> omega⟩
    rw [z_eqF ⟨by omega, by omega⟩ (by decide) c, z_bind (z0_isLess hB rl.1 rl.2.1 r0 r1)]
    by_cases d : zl (zK b) l r
    · rw [if_pos d, z_eqF (by decide) (by decide) (by decide)]
    · rw [if_neg d, z_eqT (by decide) rfl]
def lnTail (v12 k8 k9 : Int) (g296 g297 g298 g299 : Int → Int) (y300 : BrS) : Option (Int × (Int → Int) × (Int → Int) × (Int → Int) × BrS) :=
        (x_st 64 g298 v12 (-1)).bind fun g309 =>
        (x_ld 8 g297 2).bind fun v310 =>
        x_eq v310 v12 (
          (x_st 8 g297 2 (-1)).bind fun g312 =>
          (fL_land g299 y300 v12).bind fun (v315, g313, y314) =>
          x_eq v315 0 (
            (x_ld 1 g313 0).bind fun v317 =>
            x_eq v317 (k8 + k9) (
              (fL_land g313 y314 v12).bind fun (v321, g319, y320) =>
              x_eq v321 1 (
                some (1, g296, g312, g309, y320)) (
                some (0, g296, g312, g309, y320))) (
              some (0, g296, g312, g309, y314))) (
            some (0, g296, g312, g309, y314))) (
          (x_ld 8 g297 2).bind fun v323 =>
          (x_st 8 g297 2 v323).bind fun g324 =>
          (fL_land g299 y300 v12).bind fun (v327, g325, y326) =>
          x_eq v327 0 (
            (x_ld 1 g325 0).bind fun v329 =>
            x_eq v329 (k8 + k9) (
              (fL_land g325 y326 v12).bind fun (v333, g331, y332) =>
              x_eq v333 1 (
                some (1, g296, g324, g309, y332)) (
                some (0, g296, g324, g309, y332))) (
              some (0, g296, g324, g309, y326))) (
            some (0, g296, g324, g309, y326)))
theorem lr_lnL {vh vf vo K W H : Int → Int} {y : BrS} {n a k8 k9 : Int} (hv : vh 0 = n) (a0 : 0 ≤ a) (a1 : a ≤ 4000) : ∀ (m fu : Nat) (l : Int) (va : Int → Int), 0 ≤ l → l + (m : Int) = n → m < fu → lQ va K W (zMv H a (-2) l) n → ∃ va', fL_isLanded_L195 a k8 k9 fu l va vh vf vo y = lnTail a k8 k9 va' vh vf vo y ∧ lQ va' K W (zMv H a (-2) n) n
  | 0, 0, _, _, _, _, h, _ => by omega
  | m + 1, 0, _, _, _, _, h, _ => by omega
  | 0, fu + 1, l, va, l0, hl, _, hA => by
    have hn := hA.1
    refine ⟨va, ?_, by rw [← show l = n by omega] at hA ⊢; exact hA⟩
    unfold fL_isLanded_L195
    rw [z_bind (z_ldT (by decide) (by decide)), hv, z_ltF ⟨by omega, by omega⟩ ⟨by omega, by omega⟩ (by omega)]
    rfl
  | m + 1, fu + 1, l, va, l0, hl, h, hA => by
    have hn := hA.1
    have hi := (hA.2 l l0 (by omega)).2.2.2
    have e1 := lq_where hA l0 (by omega : l < n)
    have e2 := lq_run hA l0 (by omega : l < n)
    rw [zMv_at] at e1 e2 hi
    have r2 := zof_rng hi.2
    unfold fL_isLanded_L195
    rw [z_bind (z_ldT (by decide) (by decide)), hv, z_ltT ⟨by omega, by omega⟩ ⟨by omega, by omega⟩ (by omega), z_bind e1]
    by_cases d : 0 ≤ H l
    · rw [z_eqT (l_wxin _) ((zwh_1 hi.1).mpr d), z_bind e2, zof_0 d]
      by_cases e : H l = a
      · have hg := lq_goes hA (h' := -2) (e := 2) (r := -1) l0 (by omega) (by decide) (by decide) (by decide)
        have hu := lq_up (p := l) (r := -2) hA (by decide) (by decide)
        rw [zMv_y l0 e] at hu
        rw [z_eqT ⟨by omega, by omega⟩ e, z_bind hg]
        exact lr_lnL hv a0 a1 m fu (l + 1) _ (by omega) (by omega) (by omega) hu
      · rw [z_eqF ⟨by omega, by omega⟩ ⟨by omega, by omega⟩ e]
        exact lr_lnL hv a0 a1 m fu (l + 1) va (by omega) (by omega) (by omega) (by rw [zMv_n e]; exact hA)
    · rw [z_eqF (l_wxin _) (by decide) (fun z => d ((zwh_1 hi.1).mp z))]
      exact lr_lnL hv a0 a1 m fu (l + 1) va (by omega) (by omega) (by omega) (by rw [zMv_n (by omega)]; exact hA)
theorem lR_land {b : BoatS} {va va' vh vf : Int → Int} (hB : zB b) (hR : lR b va vh vf) {j : Int} (j0 : 0 ≤ j) (j1 : j < zR b) (hA : lQ va' (zK b) (zW b) (zMv (zH b) (zF b j) (-2) (zn b)) (zn b)) : lR (bLand b j) va' (x_up vh 2 (if g0_opn b = zF b j then -1 else g0_opn b)) (x_up vf (zF b j) (-1)) := by
  obtain ⟨h0, h1, h2, h3, h4, h5, h6, h7⟩ := hR.2.1
  refine ⟨hA, ⟨?_, ?_, ?_, ?_, ?_, ?_, ?_, ?_⟩, lV_gone hR.2.2.1 hB.2.2.2.1.2.1 j0 j1, hR.2.2.2⟩
  · rw [z_upN (by decide)]; exact h0
  · rw [z_upN (by decide)]; exact h1
  · rw [z_upS]; rfl
  · rw [z_upN (by decide)]; exact h3
  · rw [z_upN (by decide)]; exact h4
  · rw [z_upN (by decide)]; exact h5
  · rw [z_upN (by decide)]; exact h6
  · rw [z_upN (by decide)]; exact h7
/-- the count of those ashore behind it -/
theorem zC_land {H : Int → Int} {n a : Int} (ha : ¬ a = -2) : zC (zMv H a (-2) n) (-2) n = zC H (-2) n + zC H a n := by
  unfold zC
  rw [← xS_add]
  exact xS_congr _ _ (fun p p0 p1 => by
    rw [zMv_in p0 (by omega)]
    by_cases e : H p = a
    · rw [if_pos e, if_pos rfl, if_neg (by omega), if_pos e]; rfl
    · rw [if_neg e, if_neg e]; omega)

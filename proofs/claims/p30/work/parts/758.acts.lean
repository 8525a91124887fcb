/-! The law's acts: each comes out as the class answers, and both tell the same boat again. -/
section LACT
variable {y : BrS} {va vh vf : Int → Int} {c : Int}
theorem l_loadBad {k w : Int} (xk : xin k) (xw : xin w) (h : k < 0 ∨ 999 < k ∨ w < 1 ∨ 50 < w) : f4_load y k w = some (1, 0, y) := by
  unfold f4_load
  by_cases a : k < 0
  · rw [z_ltT xk (by decide) a]
  · rw [z_ltF xk (by decide) a]
    by_cases d : 999 < k
    · rw [z_ltT (by decide) xk d]
    · rw [z_ltF (by decide) xk d]
      by_cases e : w < 1
      · rw [z_ltT xw (by decide) e]
      · rw [z_ltF xw (by decide) e, z_ltT (by decide) xw (by omega)]
theorem l_load (hY : lY y va vh vf c) (hc : c < 1000000000) {k w : Int} (hn : zn (g4_bo y) < 60) (hf : g0_flo (g4_bo y) < 64) (k0 : 0 ≤ k) (k1 : k ≤ 999) (w0 : 1 ≤ w) (w1 : w ≤ 50) : ∃ v y' va' vh' vf', f4_load y k w = some (0, v, y') ∧ fL_loads va vh vf k w = some (v, va', vh', vf') ∧ lY y' va' vh' vf' (c + 1) ∧ xin v := by
  have hB := hY.1.1
  have h00 := hB.1.1
  obtain ⟨h', s1, s2⟩ := l_save hB hY.2
  obtain ⟨v, b', va', vh', vf', e1, e2, e3, e4, e5⟩ := lr_take hY.1 hc hn hf k0 k1 w0 w1
  have ea : f0_allLoaded (g4_bo y) = some 0 := by
    unfold f0_allLoaded
    rw [z_bind (show f2_size 120 (g0_keys (g4_bo y)) = some (zn (g4_bo y)) from rfl), z_ltT ⟨by omega, by omega⟩ (by decide) (by omega)]
  refine ⟨v, s4_bo (s4_hi y h') b', va', vh', vf', ?_, e2, ⟨e3, s2⟩, e4⟩
  unfold f4_load
  rw [z_ltF ⟨by omega, by omega⟩ (by decide) (by omega), z_ltF (by decide) ⟨by omega, by omega⟩ (by omega), z_ltF ⟨by omega, by omega⟩ (by decide) (by omega), z_ltF (by decide) ⟨by omega, by omega⟩ (by omega), z_bind ea, z_eqT (by decide) rfl, z_bind s1, z_bind2 e1]
def liT (va vh vf : Int → Int) (y : BrS) (k w : Int) : Option (Int × (Int → Int) × (Int → Int) × (Int → Int) × BrS) :=
    (x_ld 8 vh 0).bind fun v5 =>
    x_lt 59 v5 (
      (fL_load (fun _ => 0) y 1000 w).bind fun (v9, g7, y8) =>
      x_eq v9 1 (
        some (1, va, vh, vf, y8)) (
        some (0, va, vh, vf, y8))) (
      (x_ld 8 vh 3).bind fun v11 =>
      x_lt 60 v11 (
        (fL_load (fun _ => 0) y 1000 w).bind fun (v15, g13, y14) =>
        x_eq v15 1 (
          some (1, va, vh, vf, y14)) (
          some (0, va, vh, vf, y14))) (
        (fL_load (fun _ => 0) y k 51).bind fun (v19, g17, y18) =>
        x_eq v19 1 (
          (fL_load g17 y18 (-1) w).bind fun (v23, g21, y22) =>
          x_eq v23 1 (
            (fL_load g21 y22 k w).bind fun (v27, g25, y26) =>
            x_eq v27 0 (
              (x_ld 1 g25 0).bind fun v29 =>
              (fL_loads va vh vf k w).bind fun (v33, g30, g31, g32) =>
              x_eq v29 v33 (
                some (1, g30, g31, g32, y26)) (
                some (0, g30, g31, g32, y26))) (
              some (0, va, vh, vf, y26))) (
            some (0, va, vh, vf, y22))) (
          some (0, va, vh, vf, y18))))
theorem la_loadT (hY : lY y va vh vf c) (hc : c < 1000000000) {k w : Int} (k0 : 0 ≤ k) (k1 : k ≤ 999) (w0 : 1 ≤ w) (w1 : w ≤ 50) : ∃ va' vh' vf' y', liT va vh vf y k w = some (1, va', vh', vf', y') ∧ lY y' va' vh' vf' (c + 1) := by
  have hR := hY.1.2.1
  have hn := hR.1.1
  have hf := hR.2.2.2
  have hf0 := hY.1.1.2.2.2.1.1.2.1
  have xw : xin w := ⟨by omega, by omega⟩
  unfold liT
  rw [z_bind hR.ld0]
  by_cases a : 59 < zn (g4_bo y)
  · rw [z_ltT (by decide) ⟨by omega, by omega⟩ a, z_bind (lh_load_1 (l_loadBad (by decide) xw (Or.inr (Or.inl (by decide)))))]
    dsimp only
    rw [z_eqT (by decide) rfl]
    exact ⟨_, _, _, _, rfl, lY_le hY (by omega)⟩
  · rw [z_ltF (by decide) ⟨by omega, by omega⟩ a, z_bind hR.ld3]
    by_cases d : 60 < g0_flo (g4_bo y)
    · rw [z_ltT (by decide) ⟨by omega, by omega⟩ d, z_bind (lh_load_1 (l_loadBad (by decide) xw (Or.inr (Or.inl (by decide)))))]
      dsimp only
      rw [z_eqT (by decide) rfl]
      exact ⟨_, _, _, _, rfl, lY_le hY (by omega)⟩
    · obtain ⟨v, y', va', vh', vf', e1, e2, e3, e4⟩ := l_load hY hc (by omega) (by omega) k0 k1 w0 w1
      rw [z_ltF (by decide) ⟨by omega, by omega⟩ d, z_bind (lh_load_1 (l_loadBad (w := 51) ⟨by omega, by omega⟩ (by decide) (by omega)))]
      dsimp only
      rw [z_eqT (by decide) rfl, z_bind (lh_load_1 (l_loadBad (k := -1) (by decide) xw (by omega)))]
      dsimp only
      rw [z_eqT (by decide) rfl, z_bind (lh_load_0 e1)]
      dsimp only
      rw [z_eqT (by decide) rfl, z_bind l_o, z_bind e2]
      dsimp only
      rw [z_eqT e4 rfl]
      exact ⟨_, _, _, _, rfl, e3⟩
theorem la_loaded (hY : lY y va vh vf c) (hc : c < 1000000000) (x : Int) : ∃ va' vh' vf' y', fL_isLoaded va vh vf y x = some (1, va', vh', vf', y') ∧ lY y' va' vh' vf' (c + 1) := by
  obtain ⟨r1, t1, a1, b1⟩ := l_low (x_shr x 20) (n := 2) (by decide) (by decide)
  obtain ⟨r2, t2, a2, b2⟩ := l_low x (n := 8) (by decide) (by decide)
  obtain ⟨r3, t3, a3, b3⟩ := l_low x (n := 1000) (by decide) (by decide)
  obtain ⟨r4, t4, a4, b4⟩ := l_low (x_shr x 10) (n := 50) (by decide) (by decide)
  unfold fL_isLoaded
  rw [z_bind t1]
  by_cases z : r1 = 0
  · rw [z_eqT ⟨by omega, by omega⟩ z, z_bind t2, z_bind t4]
    exact la_loadT hY hc a2 (by omega) (by omega) (by omega)
  · rw [z_eqF ⟨by omega, by omega⟩ (by decide) z, z_bind t3, z_bind t4]
    exact la_loadT hY hc a3 (by omega) (by omega) (by omega)
theorem l_stormBad {f : Int} (xf : xin f) (h : f < 1 ∨ 9 < f) : f4_storm y f = some (1, 0, y) := by
  unfold f4_storm
  by_cases a : f < 1
  · rw [z_ltT xf (by decide) a]
  · rw [z_ltF xf (by decide) a, z_ltT (by decide) xf (by omega)]
theorem la_stormy (hY : lY y va vh vf c) (hc : c + 6000 < 1000000000) {f : Int} (f0 : 0 ≤ f) (f1 : f ≤ 10) : ∃ va' vh' vf' y', fL_isStormy va vh vf y f = some (1, va', vh', vf', y') ∧ lY y' va' vh' vf' (c + 6000) := by
  have hB := hY.1.1
  have hR := hY.1.2.1
  have hn := hR.1.1
  have hRl := hB.R_le
  have r0 := hB.R0
  have hf := hR.2.2.2
  have hf0 := hB.2.2.2.1.1.2.1
  have xf : xin f := ⟨by omega, by omega⟩
  unfold fL_isStormy
  by_cases a : f < 1
  · rw [z_ltT xf (by decide) a, z_ltF (by decide) xf (by omega), z_bind (lh_storm_1 (l_stormBad xf (Or.inl a)))]
    dsimp only
    rw [z_eqT (by decide) rfl]
    exact ⟨_, _, _, _, rfl, lY_le hY (by omega)⟩
  · rw [z_ltF xf (by decide) a]
    by_cases d : 9 < f
    · rw [z_ltT (by decide) xf d, z_ltT (by decide) xf (by omega), z_ltF xf (by decide) (by omega), z_bind (lh_storm_1 (l_stormBad xf (Or.inr d)))]
      dsimp only
      rw [z_eqT (by decide) rfl]
      exact ⟨_, _, _, _, rfl, lY_le hY (by omega)⟩
    · rw [z_ltF (by decide) xf d, z_bind hR.ld3, z_bind (lr_runs hB hR)]
      by_cases g : 63 < g0_flo (g4_bo y) + zR (g4_bo y)
      · rw [z_ltT (by decide) ⟨by omega, by omega⟩ g, z_ltT (by decide) xf (by omega), z_ltT xf (by decide) (by omega), z_bind (lh_storm_1 (l_stormBad (f := 10) (by decide) (by decide)))]
        dsimp only
        rw [z_eqT (by decide) rfl]
        exact ⟨_, _, _, _, rfl, lY_le hY (by omega)⟩
      · obtain ⟨h', s1, s2⟩ := l_save hB hY.2
        obtain ⟨v, b', va', vh', vf', e1, e2, e3, e4, e5, e6⟩ := lr_storm (force := f) hY.1 hc (by omega) (by omega) (by omega)
        have e0 : f4_storm y f = some (0, v, s4_bo (s4_hi y h') b') := by
          unfold f4_storm
          rw [z_ltF xf (by decide) a, z_ltF (by decide) xf d, z_bind s1, z_bind2 e1]
        rw [z_ltF (by decide) ⟨by omega, by omega⟩ g, z_bind (lh_storm_0 e0)]
        dsimp only
        rw [z_eqT (by decide) rfl, z_bind l_o, z_bind e2]
        dsimp only
        rw [z_eqT ⟨by omega, by omega⟩ rfl]
        exact ⟨_, _, _, _, rfl, e3, s2⟩
theorem la_emptied (hY : lY y va vh vf c) (hc : c + 60 < 1000000000) : ∃ va' vh' vf' y', fL_isEmptied va vh vf y = some (1, va', vh', vf', y') ∧ lY y' va' vh' vf' (c + 60) := by
  have hB := hY.1.1
  have hR := hY.1.2.1
  have hn := hR.1.1
  have h00 := hB.1.1
  have hf := hR.2.2.2
  have hf0 := hB.2.2.2.1.1.2.1
  have c1 := zC_nonneg (zH (g4_bo y)) (-1) (zn (g4_bo y))
  have c2 := zC_le (zH (g4_bo y)) (-1) h00
  unfold fL_isEmptied
  rw [z_bind hR.ld3, z_bind (lr_many0 hR)]
  by_cases g : 63 < g0_flo (g4_bo y) + zC (zH (g4_bo y)) (-1) (zn (g4_bo y))
  · rw [z_ltT (by decide) ⟨by omega, by omega⟩ g]
    exact ⟨_, _, _, _, rfl, lY_le hY (by omega)⟩
  · obtain ⟨h', s1, s2⟩ := l_save hB hY.2
    obtain ⟨b', va', vh', vf', e1, e2, e3, e4, e5⟩ := lr_empty hY.1 hc (by omega)
    have e0 : f4_empty y = some (zR b', s4_bo (s4_hi y h') b') := by
      unfold f4_empty
      rw [z_bind s1, z_bind2 e1]
    have rl := e3.1.R_le
    have r0 := e3.1.R0
    have h120 := e3.1.1.2.1
    rw [z_ltF (by decide) ⟨by omega, by omega⟩ g, z_bind e2]
    dsimp only
    rw [z_bind2 e0]
    dsimp only
    rw [z_bind (lr_runs e3.1 e3.2.1), z_eqT ⟨by omega, by omega⟩ rfl]
    exact ⟨_, _, _, _, rfl, e3, s2⟩
/-- merging, as the face answers it -/
theorem l_merge (hY : lY y va vh vf c) (hc : c + 6000 < 1000000000) {i j : Int} (i0 : 0 ≤ i) (i1 : i < zR (g4_bo y)) (j0 : 0 ≤ j) (j1 : j < zR (g4_bo y)) (ne : ¬ i = j) : ∃ v y' va' vh' vf', f4_merge y (zF (g4_bo y) i) (zF (g4_bo y) j) = some (0, v, y') ∧ fL_merges va vh vf (zF (g4_bo y) i) (zF (g4_bo y) j) = some (v, va', vh', vf') ∧ lY y' va' vh' vf' (c + 6000) ∧ xin v := by
  have hB := hY.1.1
  have xi := hB.xF i i0 i1
  have xj := hB.xF j j0 j1
  obtain ⟨h', s1, s2⟩ := l_save hB hY.2
  have nF : ¬ zF (g4_bo y) i = zF (g4_bo y) j := fun z => ne (hB.2.2.2.1.inj i0 i1 j0 j1 z)
  have go : ∀ {p q : Int}, 0 ≤ p → p < q → q < zR (g4_bo y) → ((zF (g4_bo y) i = zF (g4_bo y) p ∧ zF (g4_bo y) j = zF (g4_bo y) q) ∨ (zF (g4_bo y) i = zF (g4_bo y) q ∧ zF (g4_bo y) j = zF (g4_bo y) p)) → ∃ v y' va' vh' vf', f4_merge y (zF (g4_bo y) i) (zF (g4_bo y) j) = some (0, v, y') ∧ fL_merges va vh vf (zF (g4_bo y) i) (zF (g4_bo y) j) = some (v, va', vh', vf') ∧ lY y' va' vh' vf' (c + 6000) ∧ xin v := fun {p q} p0 pq q1 hpq => by
    obtain ⟨va', vh', vf', e1, e2, e3, e4, e5⟩ := lr_merge hY.1 hc p0 pq q1 hpq
    refine ⟨_, s4_bo (s4_hi y h') (bJoin (g4_bo y) p q), va', vh', vf', ?_, e2, ⟨e3, s2⟩, ⟨by omega, by omega⟩⟩
    unfold f4_merge
    rw [z_bind (l_has hB i0 i1), z_eqF (by decide) (by decide) (by decide), z_bind (l_has hB j0 j1), z_eqF (by decide) (by decide) (by decide), z_eqF xi xj nF, z_bind s1, z_bind2 e1]
  rcases Int.lt_trichotomy i j with q | q | q
  · exact go i0 q j1 (Or.inl ⟨rfl, rfl⟩)
  · exact absurd q ne
  · exact go j0 q i1 (Or.inr ⟨rfl, rfl⟩)
theorem la_merged (hY : lY y va vh vf c) (hc : c + 6000 < 1000000000) (x : Int) : ∃ va' vh' vf' y', fL_isMerged va vh vf y x = some (1, va', vh', vf', y') ∧ lY y' va' vh' vf' (c + 6000) := by
  have hB := hY.1.1
  have hR := hY.1.2.1
  have hn := hR.1.1
  have hRl := hB.R_le
  have r0 := hB.R0
  have h120 := hB.1.2.1
  have hf := hR.2.2.2
  have hf0 := hB.2.2.2.1.1.2.1
  have xfl : xin (g0_flo (g4_bo y)) := ⟨by omega, by omega⟩
  have hno := l_hasNo hB xfl (l_flo hB)
  unfold fL_isMerged
  rw [z_bind (lr_runs hB hR)]
  by_cases a : zR (g4_bo y) < 2
  · have e1 : f4_mergeLightest y = some (2, 0, y) := by
      unfold f4_mergeLightest
      rw [z_bind l_nruns, z_ltT ⟨by omega, by omega⟩ (by decide) a]
    have e2 : f4_merge y (g0_flo (g4_bo y)) (g0_flo (g4_bo y)) = some (3, 0, y) := by
      unfold f4_merge
      rw [z_bind hno, z_eqT (by decide) rfl]
    rw [z_ltT ⟨by omega, by omega⟩ (by decide) a, z_bind (lh_mergeLightest_1 e1)]
    dsimp only
    rw [z_eqT (by decide) rfl, z_bind hR.ld3, z_bind hR.ld3, z_bind (lh_merge_1 e2)]
    dsimp only
    rw [z_eqT (by decide) rfl]
    exact ⟨_, _, _, _, rfl, lY_le hY (by omega)⟩
  · obtain ⟨x1, t1, a1, b1⟩ := l_low x (n := 2) (by decide) (by decide)
    rw [z_ltF ⟨by omega, by omega⟩ (by decide) a, z_bind t1]
    by_cases d : x1 = 0
    · obtain ⟨h', s1, s2⟩ := l_save hB hY.2
      obtain ⟨r, s, i, j, hr, hs, i0, ij, j1, hd, e0⟩ := z0_joinLight hB (by omega)
      have hi := hB.2.2.2.1.2.2.1 i i0 (by omega)
      have hj := hB.2.2.2.1.2.2.1 j (by omega) j1
      have lt := hB.2.2.2.1.2.1 i j i0 ij j1
      obtain ⟨t, f1, ht⟩ := lr_light hB hR (v := -1) (by decide)
      have et : t = r := by
        refine zMin_uniq (fun _ _ => zl_asym) ht (zMin_congr hr (fun q q0 q1 => ⟨fun _ => ?_, fun _ => by omega⟩))
        have := hB.2.2.2.1.2.2.1 q q0 q1
        omega
      have nr : ¬ r = -1 := by omega
      have ns : ¬ s = -1 := by omega
      have rr : 0 ≤ r ∧ r < zR (g4_bo y) := by omega
      have rs : 0 ≤ s ∧ s < zR (g4_bo y) := by omega
      rw [et, if_neg nr] at f1
      obtain ⟨t2, f2, ht2⟩ := lr_light hB hR (v := zF (g4_bo y) r) (hB.xF r rr.1 rr.2)
      have et2 : t2 = s := by
        refine zMin_uniq (fun _ _ => zl_asym) ht2 (zMin_congr hs (fun q q0 q1 => ⟨fun z w => z (hB.2.2.2.1.inj q0 q1 rr.1 rr.2 w), fun z w => z (by rw [w])⟩))
      rw [et2, if_neg ns] at f2
      have hpq : (zF (g4_bo y) r = zF (g4_bo y) i ∧ zF (g4_bo y) s = zF (g4_bo y) j) ∨ (zF (g4_bo y) r = zF (g4_bo y) j ∧ zF (g4_bo y) s = zF (g4_bo y) i) := by
        rcases hd with ⟨h1, h2⟩ | ⟨h1, h2⟩
        · exact Or.inl ⟨by rw [h1], by rw [h2]⟩
        · exact Or.inr ⟨by rw [h1], by rw [h2]⟩
      obtain ⟨va', vh', vf', e1, e2, e3, e4, e5⟩ := lr_merge hY.1 hc i0 ij j1 hpq
      have em : f4_mergeLightest y = some (0, zF (g4_bo y) i, s4_bo (s4_hi y h') (bJoin (g4_bo y) i j)) := by
        unfold f4_mergeLightest
        rw [z_bind l_nruns, z_ltF ⟨by omega, by omega⟩ (by decide) a, z_bind s1, z_bind2 e0]
      rw [z_eqT ⟨by omega, by omega⟩ d, z_bind f1, z_bind f2, z_bind e2]
      dsimp only
      rw [z_bind (lh_mergeLightest_0 em)]
      dsimp only
      rw [z_eqT (by decide) rfl, z_bind l_o]
      rcases hpq with ⟨h1, h2⟩ | ⟨h1, h2⟩
      · rw [h1, h2, z_ltT ⟨by omega, by omega⟩ ⟨by omega, by omega⟩ lt, z_eqT ⟨by omega, by omega⟩ rfl]
        exact ⟨_, _, _, _, rfl, e3, s2⟩
      · rw [h1, h2, z_ltF ⟨by omega, by omega⟩ ⟨by omega, by omega⟩ (by omega), z_eqT ⟨by omega, by omega⟩ rfl]
        exact ⟨_, _, _, _, rfl, e3, s2⟩
    · obtain ⟨i, t2, i0, i1⟩ := l_low (x_shr x 3) (n := zR (g4_bo y)) (by omega) (by omega)
      obtain ⟨j, t3, j0, j1⟩ := l_low (x_shr x 9) (n := zR (g4_bo y)) (by omega) (by omega)
      have xi : xin (zF (g4_bo y) i) := hB.xF i i0 i1
      have xj : xin (zF (g4_bo y) j) := hB.xF j j0 j1
      rw [z_eqF ⟨by omega, by omega⟩ (by decide) d, z_bind t2, z_bind (lr_runBy hB hR i0 i1), z_bind t3, z_bind (lr_runBy hB hR j0 j1)]
      by_cases e : i = j
      · subst e
        have e1 : f4_merge y (zF (g4_bo y) i) (zF (g4_bo y) i) = some (1, 0, y) := by
          unfold f4_merge
          rw [z_bind (l_has hB i0 i1), z_eqF (by decide) (by decide) (by decide), z_bind (l_has hB i0 i1), z_eqF (by decide) (by decide) (by decide), z_eqT xi rfl]
        have e2 : f4_merge y (zF (g4_bo y) i) (g0_flo (g4_bo y)) = some (3, 0, y) := by
          unfold f4_merge
          rw [z_bind (l_has hB i0 i1), z_eqF (by decide) (by decide) (by decide), z_bind hno, z_eqT (by decide) rfl]
        rw [z_eqT xi rfl, z_bind (lh_merge_2 e1)]
        dsimp only
        rw [z_eqT (by decide) rfl, z_bind hR.ld3, z_bind (lh_merge_1 e2)]
        dsimp only
        rw [z_eqT (by decide) rfl]
        exact ⟨_, _, _, _, rfl, lY_le hY (by omega)⟩
      · obtain ⟨v, y', va', vh', vf', e1, e2, e3, e4⟩ := l_merge hY hc i0 i1 j0 j1 e
        rw [z_eqF xi xj (fun z => e (hB.2.2.2.1.inj i0 i1 j0 j1 z)), z_bind (lh_merge_0 e1)]
        dsimp only
        rw [z_eqT (by decide) rfl, z_bind l_o, z_bind e2]
        dsimp only
        rw [z_eqT e4 rfl]
        exact ⟨_, _, _, _, rfl, e3⟩
theorem l_landGone {r : Int} (h : f0_hasRun (g4_bo y) r = some 0) : f4_land y r = some (3, 0, y) := by
  unfold f4_land
  rw [z_bind h, z_eqT (by decide) rfl]
theorem la_landEnd (hY : lY y va vh vf c) {i k9 : Int} (i0 : 0 ≤ i) (i1 : i < zR (g4_bo y)) (hcan : f0_canBringAshore (g4_bo y) (zF (g4_bo y) i) = some 1) (hk : k9 = zC (zH (g4_bo y)) (zF (g4_bo y) i) (zn (g4_bo y))) : ∃ va' vh' vf' y', fL_isLanded_L195 (zF (g4_bo y) i) (zC (zH (g4_bo y)) (-2) (zn (g4_bo y))) k9 70 0 va vh vf (fun _ => 0) y = some (1, va', vh', vf', y') ∧ lY y' va' vh' vf' c := by
  have hB := hY.1.1
  have hR := hY.1.2.1
  have hn := hR.1.1
  have h00 := hB.1.1
  have hf := hR.2.2.2
  have hi := hB.2.2.2.1.2.2.1 i i0 i1
  have xF : xin (zF (g4_bo y) i) := hB.xF i i0 i1
  have hx := hB.opn_x
  obtain ⟨h', s1, s2⟩ := l_save hB hY.2
  obtain ⟨va', e1, e2⟩ := lr_lnL (vh := vh) (vf := vf) (vo := fun _ => 0) (y := y) (k8 := zC (zH (g4_bo y)) (-2) (zn (g4_bo y))) (k9 := k9) hR.h0 (a := zF (g4_bo y) i) hi.1 (by omega) (zn (g4_bo y)).toNat 70 0 va (by omega) (by omega) (by omega) (by rw [zMv_0]; exact hR.1)
  have hBl := zB_land hB i0 i1
  have hRl := lR_land (va' := va') hB hR i0 i1 e2
  have el := z0_land hB i0 i1
  have ec := zC_land (H := zH (g4_bo y)) (n := zn (g4_bo y)) (a := zF (g4_bo y) i) (by omega)
  have c1 := zC_nonneg (zMv (zH (g4_bo y)) (zF (g4_bo y) i) (-2) (zn (g4_bo y))) (-2) (zn (g4_bo y))
  have c2 := zC_le (zMv (zH (g4_bo y)) (zF (g4_bo y) i) (-2) (zn (g4_bo y))) (-2) h00
  have ef : f4_land y (zF (g4_bo y) i) = some (0, zC (zMv (zH (g4_bo y)) (zF (g4_bo y) i) (-2) (zn (g4_bo y))) (-2) (zn (g4_bo y)), s4_bo (s4_hi y h') (bLand (g4_bo y) i)) := by
    unfold f4_land
    rw [z_bind (l_has hB i0 i1), z_eqF (by decide) (by decide) (by decide), z_bind hcan, z_eqF (by decide) (by decide) (by decide), z_bind s1, z_bind2 el]
  have eg : f4_land (s4_bo (s4_hi y h') (bLand (g4_bo y) i)) (zF (g4_bo y) i) = some (3, 0, s4_bo (s4_hi y h') (bLand (g4_bo y) i)) := l_landGone (y := s4_bo (s4_hi y h') (bLand (g4_bo y) i)) (l_hasNo (b := bLand (g4_bo y) i) hBl xF (fun k k0 k1 => by
    have k1' : k < zR (g4_bo y) - 1 := k1
    obtain ⟨k', a1, a2, a3, a4, a5⟩ := zRem_at (j := i) (R := zR (g4_bo y)) i0 i1 k0 k1'
    show ¬ zRem (zF (g4_bo y)) i (zR (g4_bo y)) k = zF (g4_bo y) i
    rw [a5]
    exact fun z => a3 (hB.2.2.2.1.inj a1 a2 i0 i1 z)))
  rw [e1]
  unfold lnTail
  rw [z_bind (z_stT hi.1 (by show zF (g4_bo y) i < (64 : Int); omega)), z_bind hR.ld2]
  by_cases d : g0_opn (g4_bo y) = zF (g4_bo y) i
  · rw [if_pos d] at hRl
    rw [z_eqT hx d, z_bind (z_stT (by decide) (by decide)), z_bind (lh_land_0 ef)]
    dsimp only
    rw [z_eqT (by decide) rfl, z_bind l_o, z_eqT ⟨by omega, by omega⟩ (by omega), z_bind (lh_land_1 eg)]
    dsimp only
    rw [z_eqT (by decide) rfl]
    exact ⟨_, _, _, _, rfl, ⟨hBl, hRl, hY.1.2.2⟩, s2⟩
  · rw [if_neg d] at hRl
    rw [z_eqF hx xF d, z_bind hR.ld2, z_bind (z_stT (by decide) (by decide)), z_bind (lh_land_0 ef)]
    dsimp only
    rw [z_eqT (by decide) rfl, z_bind l_o, z_eqT ⟨by omega, by omega⟩ (by omega), z_bind (lh_land_1 eg)]
    dsimp only
    rw [z_eqT (by decide) rfl]
    exact ⟨_, _, _, _, rfl, ⟨hBl, hRl, hY.1.2.2⟩, s2⟩
theorem la_landed (hY : lY y va vh vf c) (x : Int) : ∃ va' vh' vf' y', fL_isLanded va vh vf y x = some (1, va', vh', vf', y') ∧ lY y' va' vh' vf' c := by
  have hB := hY.1.1
  have hR := hY.1.2.1
  have hn := hR.1.1
  have h00 := hB.1.1
  have hRl := hB.R_le
  have r0 := hB.R0
  have h120 := hB.1.2.1
  have hf := hR.2.2.2
  unfold fL_isLanded
  rw [z_bind (lr_runs hB hR)]
  by_cases a : zR (g4_bo y) = 0
  · have hno := l_hasNo hB (r := 0) (by decide) (fun k k0 k1 => by omega)
    have e2 : f4_tighten y 0 = some (3, 0, y) := by
      unfold f4_tighten
      rw [z_bind hno, z_eqT (by decide) rfl]
    rw [z_eqT ⟨by omega, by omega⟩ a, z_bind (lh_land_1 (l_landGone hno))]
    dsimp only
    rw [z_eqT (by decide) rfl, z_bind (lh_tighten_1 e2)]
    dsimp only
    rw [z_eqT (by decide) rfl]
    exact ⟨_, _, _, _, rfl, hY⟩
  · obtain ⟨i, t1, i0, i1⟩ := l_low x (n := zR (g4_bo y)) (by omega) (by omega)
    obtain ⟨w, t2, w0, w1⟩ := l_low (x_shr x 7) (n := 3) (by decide) (by decide)
    have hi := hB.2.2.2.1.2.2.1 i i0 i1
    have xF : xin (zF (g4_bo y) i) := hB.xF i i0 i1
    have l3 : x_ld 64 vf (zF (g4_bo y) i) = some (zS (g4_bo y) i) := by rw [z_ldT hi.1 (by show zF (g4_bo y) i < (64 : Int); omega), hR.2.2.1.1 i i0 i1]
    have st : ∀ v, x_st 64 vf (zF (g4_bo y) i) v = some (x_up vf (zF (g4_bo y) i) v) := fun v => z_stT hi.1 (by show zF (g4_bo y) i < (64 : Int); omega)
    have ld : ∀ v, x_ld 64 (x_up vf (zF (g4_bo y) i) v) (zF (g4_bo y) i) = some v := fun v => by rw [z_ldT hi.1 (by show zF (g4_bo y) i < (64 : Int); omega), z_upS]
    rw [z_eqF ⟨by omega, by omega⟩ (by decide) a, z_bind t1, z_bind (lr_runBy hB hR i0 i1), z_bind t2]
    by_cases d : w = 0
    · obtain ⟨h', s1, s2⟩ := l_save hB hY.2
      obtain ⟨v, e1, e2, e3, e4, e5⟩ := lr_tight hY.1 i0 i1
      have ef : f4_tighten y (zF (g4_bo y) i) = some (0, v, s4_bo (s4_hi y h') (s0_strs (g4_bo y) (zR (g4_bo y), x_up (zS (g4_bo y)) i v))) := by
        unfold f4_tighten
        rw [z_bind (l_has hB i0 i1), z_eqF (by decide) (by decide) (by decide), z_bind s1, z_bind2 e1]
      rw [z_eqT ⟨by omega, by omega⟩ d, z_bind l3]
      by_cases g : zS (g4_bo y) i < 9
      · rw [if_pos g] at e2
        rw [z_ltT ⟨by omega, by omega⟩ (by decide) g, z_bind l3, z_bind (st _), z_bind (lh_tighten_0 ef)]
        dsimp only
        rw [z_eqT (by decide) rfl, z_bind l_o, z_bind (ld _), z_eqT ⟨by omega, by omega⟩ e2]
        exact ⟨_, _, _, _, rfl, by rw [← e2]; exact e3, s2⟩
      · rw [if_neg g] at e2
        rw [z_ltF ⟨by omega, by omega⟩ (by decide) g, z_bind (st _), z_bind (lh_tighten_0 ef)]
        dsimp only
        rw [z_eqT (by decide) rfl, z_bind l_o, z_bind (ld _), z_eqT ⟨by omega, by omega⟩ e2]
        exact ⟨_, _, _, _, rfl, by rw [← e2]; exact e3, s2⟩
    · have c3 := zC_nonneg (zH (g4_bo y)) (-2) (zn (g4_bo y))
      have c4 := zC_le (zH (g4_bo y)) (-2) h00
      rw [z_eqF ⟨by omega, by omega⟩ (by decide) d, z_bind (lr_many2 hR)]
      rcases lr_canLand hB hR i0 i1 with ⟨z, e⟩ | ⟨z, l, r, v, e, q1, q2, q3, q4⟩
      · rw [z_ltF (by decide) ⟨by omega, by omega⟩ (by omega), z_bind (lr_manyR hR hi.1 (by omega))]
        exact la_landEnd hY i0 i1 e rfl
      · rw [z_ltT (by decide) ⟨by omega, by omega⟩ z, z_bind q1, z_bind q2, z_bind q3]
        rcases q4 with g | g
        · have ef : f4_land y (zF (g4_bo y) i) = some (2, 0, y) := by
            unfold f4_land
            rw [z_bind (l_has hB i0 i1), z_eqF (by decide) (by decide) (by decide), z_bind e, z_eqT (by rw [g]; decide) g]
          rw [z_eqT (by rw [g]; decide) g, z_bind (lh_land_2 ef)]
          dsimp only
          rw [z_eqT (by decide) rfl]
          exact ⟨_, _, _, _, rfl, hY⟩
        · rw [z_eqF (by rw [g]; decide) (by decide) (by rw [g]; decide), z_bind (lr_manyR hR hi.1 (by omega))]
          rw [g] at e
          exact la_landEnd hY i0 i1 e rfl
end LACT

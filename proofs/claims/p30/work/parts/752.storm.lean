/-! A storm: the law's side, and both. -/
theorem lr_brkL {b : BoatS} {vh vf : Int → Int} {kk : Int → Int → (Int → Int) → (Int → Int) → (Int → Int) → Option (Int × (Int → Int) × (Int → Int) × (Int → Int))} {l5 l6 : Int} (hB : zB b) (hv : vh 0 = zn b) (h3 : vh 3 = g0_flo b) (hf : g0_flo b ≤ 4000) {i : Int} (i0 : 0 ≤ i) (i1 : i < zR b) (hl6 : l6 = zF b i) : ∀ (m fu : Nat) (l : Int) (va Hm : Int → Int), l + 1 = (zC (zH b) (zF b i) (zn b) + 1) / 2 + (m : Int) → l < zC (zH b) (zF b i) (zn b) → m < fu → lQ va (zK b) (zW b) Hm (zn b) → (∀ j, 0 ≤ j → j < zn b → Hm (zO b j) = if zH b (zO b j) = zF b i ∧ l + 1 ≤ zCn (zO b) (zH b) (zF b i) j then g0_flo b else zH b (zO b j)) → ∃ va' H', fL_storms_L68 l5 l6 (zC (zH b) (zF b i) (zn b)) kk fu l va vh vf = kk (l5 + 1) (l6 + 1) va' (x_up vh 3 (g0_flo b + 1)) vf ∧ lQ va' (zK b) (zW b) H' (zn b) ∧ ∀ j, 0 ≤ j → j < zn b → H' (zO b j) = zTg (zO b) (zH b) (zF b i) ((zC (zH b) (zF b i) (zn b) + 1) / 2) (g0_flo b) j
  | 0, 0, _, _, _, _, _, h, _, _ => by omega
  | m + 1, 0, _, _, _, _, _, h, _, _ => by omega
  | 0, fu + 1, l, va, Hm, lm, lc, _, hA, hH => by
    have h0 := hB.1.1
    have h120 := hB.1.2.1
    have cl := zC_le (zH b) (zF b i) h0
    have cn := zC_nonneg (zH b) (zF b i) (zn b)
    refine ⟨va, Hm, ?_, hA, fun j j0 j1 => ?_⟩
    · unfold fL_storms_L68
      rw [z_bind (z_divT (by omega) (by omega) (by decide) (by decide)), z_ltT ⟨by omega, by omega⟩ ⟨by omega, by omega⟩ (by omega), z_bind (z_ldT (by decide) (by decide)), h3, z_bind (z_stT (by decide) (by decide))]
    · rw [hH j j0 j1]
      unfold zTg
      rw [show l + 1 = (zC (zH b) (zF b i) (zn b) + 1) / 2 by omega]
  | m + 1, fu + 1, l, va, Hm, lm, lc, hfu, hA, hH => by
    have h0 := hB.1.1
    have h120 := hB.1.2.1
    have hn := hA.1
    have cl := zC_le (zH b) (zF b i) h0
    have cn := zC_nonneg (zH b) (zF b i) (zn b)
    have hFi := hB.2.2.2.1.2.2.1 i i0 i1
    have hf0 := hB.2.2.2.1.1.2.1
    obtain ⟨j0, j00, j01, hj0, hc0⟩ := zCn_at hB (h := zF b i) (t := l) (hB.xF i i0 i1) (by omega) lc
    have hO := hB.O_rng j00 j01
    have hm0 : Hm (zO b j0) = zF b i := by rw [hH j0 j00 j01, if_neg (by omega)]; exact hj0
    have hrk : zRk (zK b) Hm (zn b) (zF b i) (zO b j0) = l := by
      have z := zOrd_rank hB.2.2.1 h0 (P := fun q => Hm q = zF b i) j00 j01
      have z2 : xS (fun i' => if Hm (zO b i') = zF b i then 1 else 0) 0 j0.toNat = zCn (zO b) (zH b) (zF b i) j0 := xS_congr _ _ (fun i' a c => by
        have mono := zCn_mono (O := zO b) (H := zH b) (run := zF b i) (i := i') (j := j0) a (by omega)
        rw [hH i' a (by omega)]
        by_cases e : zH b (zO b i') = zF b i
        · rw [if_neg (show ¬ (zH b (zO b i') = zF b i ∧ l + 1 ≤ zCn (zO b) (zH b) (zF b i) i') by omega)]
        · rw [if_neg (show ¬ (zH b (zO b i') = zF b i ∧ l + 1 ≤ zCn (zO b) (zH b) (zF b i) i') from fun w => e w.1)])
      unfold zRk
      rw [← z, z2, hc0]
    have er : fL_ranked va vh 1 (zF b i) l = some (zO b j0) := by
      rw [← hrk]
      exact lq_rankedAt hA hv (zwh_run hFi.1) (zof_0 hFi.1).symm (by omega) (by omega) hO.1 hO.2 hm0
    have eg := lq_goes hA (h' := g0_flo b) hO.1 hO.2 (zwh_run hf0) (zof_0 hf0).symm hf
    have hu := lq_up (p := zO b j0) (r := g0_flo b) hA (by omega) hf
    obtain ⟨va', H', q1, q2, q3⟩ := lr_brkL (vh := vh) (vf := vf) (kk := kk) (l5 := l5) (l6 := l6) hB hv h3 hf i0 i1 hl6 m fu (l + (-1)) _ _ (by omega) (by omega) (by omega) hu (fun j a c => by
      by_cases e : j = j0
      · rw [e, z_upS, if_pos ⟨hj0, by omega⟩]
      · have ne : ¬ zO b j = zO b j0 := fun z => e (hB.2.2.1.2.2.2 j j0 a (by omega) j00 (by omega) z)
        rw [z_upN ne, hH j a c]
        by_cases g : zH b (zO b j) = zF b i
        · have s1 := zCn_s (O := zO b) (H := zH b) (run := zF b i) a
          have s2 := zCn_s (O := zO b) (H := zH b) (run := zF b i) j00
          rw [if_pos g] at s1
          rw [if_pos hj0] at s2
          by_cases d : j < j0
          · have := zCn_mono (O := zO b) (H := zH b) (run := zF b i) (i := j + 1) (j := j0) (by omega) (by omega)
            rw [if_neg (by omega), if_neg (by omega)]
          · have := zCn_mono (O := zO b) (H := zH b) (run := zF b i) (i := j0 + 1) (j := j) (by omega) (by omega)
            rw [if_pos ⟨g, by omega⟩, if_pos ⟨g, by omega⟩]
        · rw [if_neg (fun w => g w.1), if_neg (fun w => g w.1)])
    refine ⟨va', H', ?_, q2, q3⟩
    unfold fL_storms_L68
    rw [← q1]
    rw [z_bind (z_divT (by omega) (by omega) (by decide) (by decide)), z_ltF ⟨by omega, by omega⟩ ⟨by omega, by omega⟩ (by omega), hl6, z_bind er, z_bind (z_ldT (by decide) (by decide)), h3, z_bind eg]
/-- one run breaks, on both sides -/
theorem lr_brk {kk : Int → Int → (Int → Int) → (Int → Int) → (Int → Int) → Option (Int × (Int → Int) × (Int → Int) × (Int → Int))} {l5 k : Int} {u : BoatS} {D va vh vf : Int → Int} {c : Int} (hJ : lJ u va vh vf c) (k0 : 0 ≤ k) (k1 : k < zR u) (hBk : zB (s0_strs u (zR u, D))) (hc : c < 1000000000) (hf64 : g0_flo u < 64) (hbr : 2 ≤ zC (zH u) (zF u k) (zn u)) : ∃ Hc Gc va', lJ (zX u Hc Gc) va' (x_up vh 3 (g0_flo u + 1)) (x_up vf (g0_flo u) 5) (c + 1) ∧ f0_breakRun (s0_strs u (zR u, D)) k = some (s0_strs (zX u Hc Gc) (zR u + 1, x_up D (zR u) 5)) ∧ fL_storms_L68 l5 (zF u k) (zC (zH u) (zF u k) (zn u)) kk xFU (zC (zH u) (zF u k) (zn u) - 1) va vh (x_up vf (g0_flo u) 5) = kk (l5 + 1) (zF u k + 1) va' (x_up vh 3 (g0_flo u + 1)) (x_up vf (g0_flo u) 5) := by
  obtain ⟨hB, hR, hT⟩ := hJ
  have hRl := hB.R_le
  have h0 := hB.1.1
  have h120 := hB.1.2.1
  have r0 := hB.R0
  have hf : g0_flo u < 1000000000 := by omega
  have cl := zC_le (zH u) (zF u k) h0
  have cn := zC_nonneg (zH u) (zF u k) (zn u)
  obtain ⟨Hc, Gc, q1, q2, q3⟩ := z0_brk hBk hf k0 (by show k < zR u; omega) hbr
  have hB' : zB (zX u Hc Gc) := zB_brk hB hf k0 (by omega) hbr q2 q3
  obtain ⟨va', H', w1, w2, w3⟩ := lr_brkL (vf := x_up vf (g0_flo u) 5) (kk := kk) (l5 := l5) (l6 := zF u k) hB hR.h0 hR.2.1.2.2.2.1 (by omega) k0 k1 rfl (zC (zH u) (zF u k) (zn u) - (zC (zH u) (zF u k) (zn u) + 1) / 2).toNat xFU (zC (zH u) (zF u k) (zn u) - 1) va (zH u) (by omega) (by omega) (by unfold xFU; omega) hR.1 (fun j j0 j1 => by
    by_cases e : zH u (zO u j) = zF u k
    · have s1 := zCn_s (O := zO u) (H := zH u) (run := zF u k) j0
      rw [if_pos e] at s1
      have := zCn_mono (O := zO u) (H := zH u) (run := zF u k) (i := j + 1) (j := zn u) (by omega) (by omega)
      have := zCn_all (H := zH u) (run := zF u k) h0 hB.2.2.1
      rw [if_neg (by omega)]
    · rw [if_neg (fun w => e w.1)])
  have hH : ∀ p, 0 ≤ p → p < zn u → Hc p = H' p := fun p p0 p1 => by
    obtain ⟨j, j0, j1, hj⟩ := hB.2.2.1.2.2.1 p p0 (by omega)
    have a1 : Hc (zO u j) = zTg (zO u) (zH u) (zF u k) ((zC (zH u) (zF u k) (zn u) + 1) / 2) (g0_flo u) j := q2 j j0 (by show j < zn u; omega)
    rw [← hj, a1, w3 j j0 (by omega)]
  obtain ⟨g0, g1, g2, g3, g4, g5, g6, g7⟩ := hR.2.1
  have hR' : lR (zX u Hc Gc) va' (x_up vh 3 (g0_flo u + 1)) (x_up vf (g0_flo u) 5) := by
    refine ⟨lQ_cg w2 hH, ⟨?_, ?_, ?_, ?_, ?_, ?_, ?_, ?_⟩, lV_new hR.2.2.1 r0 (fun j j0 j1 => ⟨(hB.2.2.2.1.2.2.1 j j0 j1).1, (hB.2.2.2.1.2.2.1 j j0 j1).2.1⟩), by show g0_flo u + 1 ≤ 64; omega⟩
    · rw [z_upN (by decide)]; exact g0
    · rw [z_upN (by decide)]; exact g1
    · rw [z_upN (by decide)]; exact g2
    · rw [z_upS]; rfl
    · rw [z_upN (by decide)]; exact g4
    · rw [z_upN (by decide)]; exact g5
    · rw [z_upN (by decide)]; exact g6
    · rw [z_upN (by decide)]; exact g7
  have hJ' : lJ (zX u Hc Gc) va' (x_up vh 3 (g0_flo u + 1)) (x_up vf (g0_flo u) 5) (c + 1) := by
    obtain ⟨a1, a2, a3, a4, a5⟩ := hT
    exact ⟨hB', hR', by show g0_flo u + 1 ≤ c + 1; omega, ⟨a2.1, by show g0_cst u ≤ c + 1; omega⟩, ⟨a3.1, by show g0_mrg u ≤ c + 1; omega⟩, ⟨a4.1, by show g0_stm u ≤ c + 1; omega⟩, ⟨a5.1, by show g0_brk u ≤ c + 1; omega⟩⟩
  refine ⟨Hc, Gc, va', hJ', ?_, w1⟩
  rw [q1]
  unfold zX
  simp only [zn, zR, zK, zW, zO, zF, zS, se0R, gm0]
/-- how far the runs that were there are behind, at the number r -/
def lKs (u : BoatS) (before was k r : Int) : Prop := (0 ≤ k ∧ k ≤ before ∧ before ≤ zR u) ∧ (∀ j, 0 ≤ j → j < k → zF u j < r) ∧ (∀ j, k ≤ j → j < before → r ≤ zF u j) ∧ (∀ j, 0 ≤ j → j < before → zF u j < was) ∧ (∀ j, before ≤ j → j < zR u → was ≤ zF u j) ∧ was ≤ g0_flo u
theorem lKs_no {u : BoatS} {before was k r : Int} (hB : zB u) (h : lKs u before was k r) (e : ¬ (k < before ∧ zF u k = r)) : lKs u before was k (r + 1) := by
  obtain ⟨h1, h2, h3, h4, h5, h6⟩ := h
  refine ⟨h1, fun j j0 j1 => by have := h2 j j0 j1; omega, fun j j0 j1 => ?_, h4, h5, h6⟩
  have z2 := h3 j j0 j1
  by_cases z : j = k
  · rw [z] at j1 z2 ⊢
    have : ¬ zF u k = r := fun w => e ⟨j1, w⟩
    omega
  · have := h3 k (Int.le_refl _) (by omega)
    have := hB.2.2.2.1.2.1 k j (by omega) (by omega) (by omega)
    omega
theorem lKs_yes {u : BoatS} {before was k r : Int} (hB : zB u) (h : lKs u before was k r) (k1 : k < before) (e : zF u k = r) : lKs u before was (k + 1) (r + 1) := by
  obtain ⟨h1, h2, h3, h4, h5, h6⟩ := h
  refine ⟨⟨by omega, by omega, h1.2.2⟩, fun j j0 j1 => ?_, fun j j0 j1 => ?_, h4, h5, h6⟩
  · by_cases z : j = k
    · rw [z]; omega
    · have := h2 j j0 (by omega); omega
  · have := hB.2.2.2.1.2.1 k j (by omega) (by omega) (by omega); omega
theorem lKs_new {u : BoatS} {before was k r : Int} {Hc Gc : Int → Int} (hB : zB u) (h : lKs u before was k r) : lKs (zX u Hc Gc) before was k r := by
  obtain ⟨h1, h2, h3, h4, h5, h6⟩ := h
  have eF : zF (zX u Hc Gc) = x_up (zF u) (zR u) (g0_flo u) := by unfold zX; simp only [zF, gm0]
  have eR : zR (zX u Hc Gc) = zR u + 1 := by unfold zX; simp only [zR, gm0]
  have eL : g0_flo (zX u Hc Gc) = g0_flo u + 1 := by unfold zX; simp only [gm0]
  unfold lKs
  rw [eF, eR, eL]
  refine ⟨⟨h1.1, h1.2.1, by omega⟩, fun j j0 j1 => ?_, fun j j0 j1 => ?_, fun j j0 j1 => ?_, fun j j0 j1 => ?_, by omega⟩
  · rw [z_upN (by omega)]; exact h2 j j0 j1
  · rw [z_upN (by omega)]; exact h3 j j0 j1
  · rw [z_upN (by omega)]; exact h4 j j0 j1
  · by_cases e : j = zR u
    · rw [e, z_upS]; exact h6
    · rw [z_upN e]; exact h5 j j0 (by omega)
theorem lr_stormL {force before was : Int} (f0 : 1 ≤ force) (f1 : force ≤ 9) : ∀ (m fu fu2 : Nat) (k r brk : Int) (u : BoatS) (D va vh vf : Int → Int) (c : Int), lJ u va vh vf c → lKs u before was k r → 0 ≤ r → r + (m : Int) = was → zDec D (zS u) k (zR u) → 0 ≤ brk → brk ≤ k → c + (before - k) < 1000000000 → g0_flo u + (before - k) ≤ 64 → (before - k) < (fu : Int) → m < fu2 → ∃ u' D' v va' vh' vf', f0_breakRuns_L13 force before fu brk k (s0_strs u (zR u, D)) = some (v, s0_brk (s0_stm (s0_opn (s0_strs u' (zR u', D')) (-1)) (g0_stm u' + 1)) (g0_brk u' + v)) ∧ fL_storms_L11 force was fu2 brk r va vh vf = fL_storms_L119 was v xFU 0 va' vh' vf' ∧ lJ u' va' vh' vf' (c + (before - k)) ∧ lKs u' before was before was ∧ zDec D' (zS u') before (zR u') ∧ 0 ≤ v ∧ v ≤ before ∧ g0_flo u' ≤ g0_flo u + (before - k)
  | 0, fu, 0, _, _, _, _, _, _, _, _, _, _, _, _, _, _, _, _, _, _, _, h => by omega
  | m + 1, fu, 0, _, _, _, _, _, _, _, _, _, _, _, _, _, _, _, _, _, _, _, h => by omega
  | 0, fu, fu2 + 1, k, r, brk, u, D, va, vh, vf, c, hJ, hk, r0, rm, hD, b0, b1, hc, hf, h1, _ => by
    have h64 := hJ.2.1.2.2.2
    have hRl := hJ.1.R_le
    have h120 := hJ.1.1.2.1
    have hk1 := hk.1
    have hk6 := hk.2.2.2.2.2
    have ek : k = before := Classical.byContradiction fun z => by
      have := hk.2.2.1 k (Int.le_refl _) (by omega)
      have := hk.2.2.2.1 k hk1.1 (by omega)
      omega
    obtain ⟨fu', rfl⟩ : ∃ n, fu = n + 1 := ⟨fu - 1, by omega⟩
    refine ⟨u, D, brk, va, vh, vf, ?_, ?_, lJ_le hJ (by omega), by rw [ek, show r = was by omega] at hk; exact hk, by rw [← ek]; exact hD, b0, by omega, by omega⟩
    · unfold f0_breakRuns_L13
      rw [z_ltF ⟨by omega, by omega⟩ ⟨by omega, by omega⟩ (by omega)]
      simp only [se0I, se0R, gm0]
    · unfold fL_storms_L11
      rw [z_ltF ⟨by omega, by omega⟩ ⟨by omega, by omega⟩ (by omega)]
  | m + 1, fu, fu2 + 1, k, r, brk, u, D, va, vh, vf, c, hJ, hk, r0, rm, hD, b0, b1, hc, hf, h1, h2 => by
    have hB := hJ.1
    have hR := hJ.2.1
    have hRl := hB.R_le
    have h0 := hB.1.1
    have h120 := hB.1.2.1
    have h64 := hR.2.2.2
    have hk1 := hk.1
    have hk6 := hk.2.2.2.2.2
    by_cases yes : k < before ∧ zF u k = r
    · obtain ⟨kb, eF⟩ := yes
      have hkr := hB.2.2.2.1.2.2.1 k hk1.1 (by omega)
      have hBk : zB (s0_strs u (zR u, D)) := zB_S hB (zDec_rng hB hD)
      have eD : D k = zS u k := by rw [hD k hk1.1 (by omega), if_neg (by omega)]
      have cl := zC_le (zH u) (zF u k) h0
      have cn := zC_nonneg (zH u) (zF u k) (zn u)
      obtain ⟨fu', rfl⟩ : ∃ n, fu = n + 1 := ⟨fu - 1, by omega⟩
      have g1 : f2_get 120 (g0_strs (s0_strs u (zR u, D))) k = some (zS u k) := by
        rw [← eD]; exact hBk.getS hk1.1 (by show k < zR u; omega)
      have g2 : f2_get 120 (g0_flts (s0_strs u (zR u, D))) k = some (zF u k) := hBk.getF hk1.1 (by show k < zR u; omega)
      have g3 : f0_countAt (s0_strs u (zR u, D)) (zF u k) = some (zC (zH u) (zF u k) (zn u)) := z0_countAt hBk (hB.xF k hk1.1 (by show k < zR u; omega))
      have m3 : x_ld 64 vf r = some (zS u k) := by
        rw [z_ldT r0 (by show r < (64 : Int); omega), ← eF, hR.2.2.1.1 k hk1.1 (by omega)]
      have m2 : fL_many va vh 1 r = some (zC (zH u) (zF u k) (zn u)) := by
        rw [← eF]; exact lr_manyR hR hkr.1 (by omega)
      by_cases hbr : zS u k < force ∧ 2 ≤ zC (zH u) (zF u k) (zn u)
      · obtain ⟨Hc, Gc, va1, hJ', q1, w1⟩ := lr_brk (kk := fL_storms_L11 force was fu2) (l5 := brk) hJ hk1.1 (by omega) hBk (by omega) (by omega) hbr.2
        have eS : zS (zX u Hc Gc) = x_up (zS u) (zR u) 5 := by unfold zX; simp only [zS, gm0]
        have eR : zR (zX u Hc Gc) = zR u + 1 := by unfold zX; simp only [zR, gm0]
        have eL : g0_flo (zX u Hc Gc) = g0_flo u + 1 := by unfold zX; simp only [gm0]
        have eZ : zF (zX u Hc Gc) k = r := by
          have : zF (zX u Hc Gc) = x_up (zF u) (zR u) (g0_flo u) := by unfold zX; simp only [zF, gm0]
          rw [this, z_upN (by omega)]; exact eF
        have hD1 : zDec (x_up D (zR u) 5) (zS (zX u Hc Gc)) k (zR (zX u Hc Gc)) := fun t t0 t1 => by
          rw [eS]
          rw [eR] at t1
          by_cases e : t = zR u
          · rw [e, z_upS, z_upS, if_neg (by omega)]
          · rw [z_upN e, z_upN e]; exact hD t t0 (by omega)
        have hD2 := zDec_s hD1
        obtain ⟨u', D', v, va', vh', vf', i1, i2, i3, i4, i5, i6, i7, i8⟩ := lr_stormL (force := force) (before := before) (was := was) f0 f1 m fu' fu2 (k + 1) (r + 1) (brk + 1) (zX u Hc Gc) _ va1 _ _ (c + 1) hJ' (lKs_yes hJ'.1 (lKs_new hB hk) kb eZ) (by omega) (by omega) hD2 (by omega) (by omega) (by omega) (by omega) (by omega) (by omega)
        refine ⟨u', D', v, va', vh', vf', ?_, ?_, ?_, i4, i5, i6, i7, by omega⟩
        · unfold f0_breakRuns_L13
          rw [z_ltT ⟨by omega, by omega⟩ ⟨by omega, by omega⟩ (by omega), z_bind g1, z_ltT ⟨by omega, by omega⟩ ⟨by omega, by omega⟩ hbr.1, z_bind g2, z_bind g3, z_ltF ⟨by omega, by omega⟩ (by decide) (by omega), z_bind q1, ← eR]
          refine (z0_weak (f := fun r16 => f0_breakRuns_L13 force before fu' (brk + 1) (k + 1) (s0_strs (s0_strs (zX u Hc Gc) (zR (zX u Hc Gc), x_up D (zR u) 5)) r16)) hJ'.1 hD1 hk1.1 (by omega)).trans ?_
          rw [ss0_strs]
          exact i1
        · rw [eF] at w1
          unfold fL_storms_L11
          rw [z_ltT ⟨by omega, by omega⟩ ⟨by omega, by omega⟩ (by omega), z_bind m3, z_ltF ⟨by omega, by omega⟩ (by decide) (by omega), z_bind m3, z_ltT ⟨by omega, by omega⟩ ⟨by omega, by omega⟩ hbr.1, z_bind m2, z_ltT (by decide) ⟨by omega, by omega⟩ (by omega), z_bind hR.ld3, z_bind (z_stT (by omega) (by show g0_flo u < (64 : Int); omega)), eF, w1, i2]
        · rw [show c + (before - k) = c + 1 + (before - (k + 1)) by omega]; exact i3
      · have hD2 := zDec_s hD
        obtain ⟨u', D', v, va', vh', vf', i1, i2, i3, i4, i5, i6, i7, i8⟩ := lr_stormL (force := force) (before := before) (was := was) f0 f1 m fu' fu2 (k + 1) (r + 1) brk u _ va vh vf c hJ (lKs_yes hB hk kb eF) (by omega) (by omega) hD2 b0 (by omega) (by omega) (by omega) (by omega) (by omega)
        refine ⟨u', D', v, va', vh', vf', ?_, ?_, lJ_le i3 (by omega), i4, i5, i6, i7, by omega⟩
        · unfold f0_breakRuns_L13
          rw [← i1]
          rw [z_ltT ⟨by omega, by omega⟩ ⟨by omega, by omega⟩ (by omega), z_bind g1]
          by_cases e : zS u k < force
          · rw [z_ltT ⟨by omega, by omega⟩ ⟨by omega, by omega⟩ e, z_bind g2, z_bind g3, z_ltT ⟨by omega, by omega⟩ (by decide) (by omega)]
            exact z0_weak (f := fun r16 => f0_breakRuns_L13 force before fu' brk (k + 1) (s0_strs u r16)) hB hD hk1.1 (by omega)
          · rw [z_ltF ⟨by omega, by omega⟩ ⟨by omega, by omega⟩ e]
            exact z0_weak (f := fun r16 => f0_breakRuns_L13 force before fu' brk (k + 1) (s0_strs u r16)) hB hD hk1.1 (by omega)
        · unfold fL_storms_L11
          rw [← i2]
          rw [z_ltT ⟨by omega, by omega⟩ ⟨by omega, by omega⟩ (by omega), z_bind m3, z_ltF ⟨by omega, by omega⟩ (by decide) (by omega), z_bind m3]
          by_cases e : zS u k < force
          · rw [z_ltT ⟨by omega, by omega⟩ ⟨by omega, by omega⟩ e, z_bind m2, z_ltF (by decide) ⟨by omega, by omega⟩ (by omega)]
          · rw [z_ltF ⟨by omega, by omega⟩ ⟨by omega, by omega⟩ e]
    · have hno : x_ld 64 vf r = some (-1) := by
        rw [z_ldT r0 (by show r < (64 : Int); omega), hR.2.2.1.2 r r0 (by omega) (fun j j0 j1 z => by
          by_cases d : j < k
          · have := hk.2.1 j j0 d; omega
          · by_cases d2 : j < before
            · by_cases w : j = k
              · rw [w] at z d2; exact yes ⟨d2, z⟩
              · have h3 := hk.2.2.1 k (Int.le_refl _) (by omega)
                have := hB.2.2.2.1.2.1 k j (by omega) (by omega) j1
                omega
            · have := hk.2.2.2.2.1 j (by omega) j1; omega)]
      obtain ⟨u', D', v, va', vh', vf', i1, i2, i3, i4, i5, i6, i7, i8⟩ := lr_stormL (force := force) (before := before) (was := was) f0 f1 m fu fu2 k (r + 1) brk u D va vh vf c hJ (lKs_no hB hk yes) (by omega) (by omega) hD b0 b1 hc hf h1 (by omega)
      refine ⟨u', D', v, va', vh', vf', i1, ?_, i3, i4, i5, i6, i7, i8⟩
      unfold fL_storms_L11
      rw [z_ltT ⟨by omega, by omega⟩ ⟨by omega, by omega⟩ (by omega), z_bind hno, z_ltT (by decide) (by decide) (by decide), i2]
/-! the floats that were there are weakened -/
def lWk (vf : Int → Int) (l : Int) : Int → Int := fun r => if 0 ≤ r ∧ r < l ∧ 0 < vf r then vf r - 1 else vf r
theorem lr_weakL {va vh vf : Int → Int} {was v stm brk : Int} (hw : was ≤ 64) (h6 : vh 6 = stm) (h7 : vh 7 = brk) (hx : ∀ r, 0 ≤ r → r < was → xin (vf r)) : ∀ (m fu : Nat) (l : Int), 0 ≤ l → l + (m : Int) = was → m < fu → fL_storms_L119 was v fu l va vh (lWk vf l) = some (v, va, x_up (x_up (x_up vh 2 (-1)) 6 (stm + 1)) 7 (brk + v), lWk vf was)
  | 0, 0, _, _, _, h => by omega
  | m + 1, 0, _, _, _, h => by omega
  | 0, fu + 1, l, l0, lm, _ => by
    unfold fL_storms_L119
    rw [z_ltF ⟨by omega, by omega⟩ ⟨by omega, by omega⟩ (by omega), z_bind (z_stT (by decide) (by decide)), z_bind (z_ldT (by decide) (by decide)), z_bind (z_stT (by decide) (by decide)), z_bind (z_ldT (by decide) (by decide)), z_bind (z_stT (by decide) (by decide)), z_upN (by decide), h6, z_upN (by decide), z_upN (by decide), h7, show l = was by omega]
  | m + 1, fu + 1, l, l0, lm, hf => by
    have ih := lr_weakL (va := va) (vh := vh) (vf := vf) (v := v) hw h6 h7 hx m fu (l + 1) (by omega) (by omega) (by omega)
    have el : lWk vf l l = vf l := by unfold lWk; rw [if_neg (by omega)]
    have e1 : x_ld 64 (lWk vf l) l = some (vf l) := by rw [z_ldT l0 (by show l < (64 : Int); omega), el]
    unfold fL_storms_L119
    rw [z_ltT ⟨by omega, by omega⟩ ⟨by omega, by omega⟩ (by omega), z_bind e1, ← ih]
    by_cases c : 0 < vf l
    · rw [z_ltT (by decide) (hx l l0 (by omega)) c, z_bind e1, z_bind (z_stT l0 (by show l < (64 : Int); omega))]
      refine congrArg (fL_storms_L119 was v fu (l + 1) va vh) (funext fun r => ?_)
      unfold x_up lWk
      by_cases e : r = l
      · rw [if_pos e, e, if_pos ⟨l0, by omega, c⟩]
      · rw [if_neg e]
        by_cases g : 0 ≤ r ∧ r < l ∧ 0 < vf r
        · rw [if_pos g, if_pos ⟨g.1, by omega, g.2.2⟩]
        · rw [if_neg g, if_neg (fun w => g ⟨w.1, by omega, w.2.2⟩)]
    · rw [z_ltF (by decide) (hx l l0 (by omega)) c, z_bind e1, z_bind (z_stT l0 (by show l < (64 : Int); omega))]
      refine congrArg (fL_storms_L119 was v fu (l + 1) va vh) (funext fun r => ?_)
      unfold x_up lWk
      by_cases e : r = l
      · rw [if_pos e, e, if_neg (fun w => c w.2.2)]
      · rw [if_neg e]
        by_cases g : 0 ≤ r ∧ r < l ∧ 0 < vf r
        · rw [if_pos g, if_pos ⟨g.1, by omega, g.2.2⟩]
        · rw [if_neg g, if_neg (fun w => g ⟨w.1, by omega, w.2.2⟩)]
theorem lr_storm {b : BoatS} {va vh vf : Int → Int} {c force : Int} (hJ : lJ b va vh vf c) (hc : c + 6000 < 1000000000) (f0 : 1 ≤ force) (f1 : force ≤ 9) (hf : g0_flo b + zR b ≤ 64) : ∃ v b' va' vh' vf', f0_breakRuns b force = some (v, b') ∧ fL_storms va vh vf force = some (v, va', vh', vf') ∧ lJ b' va' vh' vf' (c + 6000) ∧ 0 ≤ v ∧ v ≤ 120 ∧ g0_flo b' ≤ g0_flo b + zR b := by
  have hB := hJ.1
  have hR := hJ.2.1
  have hRl := hB.R_le
  have r0 := hB.R0
  have h120 := hB.1.2.1
  have hf0 := hB.2.2.2.1.1.2.1
  have h64 := hR.2.2.2
  have e0 : s0_strs b (zR b, zS b) = b := by rw [← hB.eS]; rfl
  have hks : lKs b (zR b) (g0_flo b) 0 0 := ⟨⟨Int.le_refl _, r0, Int.le_refl _⟩, fun j j0 j1 => by omega, fun j j0 j1 => (hB.2.2.2.1.2.2.1 j j0 j1).1, fun j j0 j1 => (hB.2.2.2.1.2.2.1 j j0 j1).2.1, fun j j0 j1 => by omega, Int.le_refl _⟩
  obtain ⟨u, D, v, va1, vh1, vf1, i1, i2, i3, i4, i5, i6, i7, i8⟩ := lr_stormL (force := force) (before := zR b) (was := g0_flo b) f0 f1 (g0_flo b).toNat xFU xFU 0 0 0 b (zS b) va vh vf c hJ hks (by omega) (by omega) (fun t t0 t1 => by rw [if_neg (by omega)]) (by omega) (by omega) (by omega) (by omega) (by unfold xFU; omega) (by unfold xFU; omega)
  rw [e0] at i1
  have hBu := i3.1
  have hRu := i3.2.1
  have hx : ∀ r, 0 ≤ r → r < g0_flo b → xin (vf1 r) ∧ (vf1 r = -1 ∨ ∃ k, 0 ≤ k ∧ k < zR u ∧ zF u k = r) := fun r a d => by
    by_cases g : ∃ k, 0 ≤ k ∧ k < zR u ∧ zF u k = r
    · obtain ⟨k, k0, k1, hk⟩ := g
      have hs := hBu.2.2.2.1.2.2.1 k k0 k1
      have := hRu.2.2.1.1 k k0 k1
      rw [hk] at this
      rw [this]
      exact ⟨⟨by omega, by omega⟩, Or.inr ⟨k, k0, k1, hk⟩⟩
    · have := hRu.2.2.1.2 r a (by have := i4.2.2.2.2.2; omega) (fun k k0 k1 z => g ⟨k, k0, k1, z⟩)
      rw [this]
      exact ⟨by decide, Or.inl rfl⟩
  obtain ⟨g0, g1, g2, g3, g4, g5, g6, g7⟩ := hRu.2.1
  have ew := lr_weakL (va := va1) (vh := vh1) (vf := vf1) (was := g0_flo b) (v := v) h64 g6 g7 (fun r a d => (hx r a d).1) (g0_flo b).toNat xFU 0 (by omega) (by omega) (by unfold xFU; omega)
  have ez : lWk vf1 0 = vf1 := by
    funext r
    unfold lWk
    rw [if_neg (by omega)]
  rw [ez] at ew
  refine ⟨v, s0_brk (s0_stm (s0_opn (s0_strs u (zR u, D)) (-1)) (g0_stm u + 1)) (g0_brk u + v), va1, x_up (x_up (x_up vh1 2 (-1)) 6 (g0_stm u + 1)) 7 (g0_brk u + v), lWk vf1 (g0_flo b), ?_, ?_, ⟨?_, ?_, ?_⟩, i6, by omega, ?_⟩
  · unfold f0_breakRuns
    rw [z_bind (show f2_size 120 (g0_flts b) = some (zR b) from rfl)]
    exact i1
  · unfold fL_storms
    rw [z_bind hR.ld3, i2]
    exact ew
  · have hz := zB_opn (zB_S hBu (zDec_rng hBu i5))
    simp only [se0I, se0R, gm0] at hz ⊢
    exact ⟨hz.1, hz.2.1, hz.2.2.1, hz.2.2.2.1, hz.2.2.2.2.1, hz.2.2.2.2.2⟩
  · refine ⟨hRu.1, ⟨?_, ?_, ?_, ?_, ?_, ?_, ?_, ?_⟩, ?_, hRu.2.2.2⟩
    · rw [z_upN (by decide), z_upN (by decide), z_upN (by decide)]; exact g0
    · rw [z_upN (by decide), z_upN (by decide), z_upN (by decide)]; exact g1
    · rw [z_upN (by decide), z_upN (by decide), z_upS]; rfl
    · rw [z_upN (by decide), z_upN (by decide), z_upN (by decide)]; exact g3
    · rw [z_upN (by decide), z_upN (by decide), z_upN (by decide)]; exact g4
    · rw [z_upN (by decide), z_upN (by decide), z_upN (by decide)]; exact g5
    · rw [z_upN (by decide), z_upS]; rfl
    · rw [z_upS]; rfl
    · show lV (lWk vf1 (g0_flo b)) (zF u) D (zR u) (g0_flo u)
      refine ⟨fun k k0 k1 => ?_, fun r a d hr => ?_⟩
      · have hs := hBu.2.2.2.1.2.2.1 k k0 k1
        have h1 := hRu.2.2.1.1 k k0 k1
        rw [i5 k k0 k1]
        unfold lWk
        rw [h1]
        by_cases g : k < zR b
        · have := i4.2.2.2.1 k k0 g
          rw [if_pos g]
          unfold zDc
          by_cases e : 0 < zS u k
          · rw [if_pos ⟨hs.1, by omega, e⟩, if_neg (by omega)]
          · rw [if_neg (fun w => e w.2.2), if_pos (by omega)]; omega
        · have := i4.2.2.2.2.1 k (by omega) k1
          rw [if_neg g, if_neg (by omega)]
      · have := hRu.2.2.1.2 r a d hr
        unfold lWk
        rw [this, if_neg (by omega)]
  · obtain ⟨a1, a2, a3, a4, a5⟩ := i3.2.2
    unfold zT
    simp only [se0I, se0R, gm0]
    exact ⟨by omega, ⟨a2.1, by omega⟩, ⟨a3.1, by omega⟩, ⟨by omega, by omega⟩, ⟨by omega, by omega⟩⟩
  · show g0_flo u ≤ g0_flo b + zR b
    omega

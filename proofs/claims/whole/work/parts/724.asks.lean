/-! The calls that only ask. -/
theorem zk_parcel : zKK fC_parcel := by
  intro xi i x y o c hx c0 hc hG
  have xp := hx (i + 1)
  have xq := hx (i + 2)
  unfold fC_parcel fL_parcel
  generalize xi (i + 1) = p at xp
  generalize xi (i + 2) = q at xq
  have hn := hG.1.1.1.1
  have h120 := hG.1.1.1.2.1
  have ep := z5_in xp (l := 0) (h := zn (g4_bo y) - 1) (by decide) ⟨by omega, by omega⟩
  have eq := z5_in xq (l := 0) (h := 4) (by decide) (by decide)
  have en : x_ld 730 (g5_now x) 1 = some (zn (g4_bo y)) := z5_n hG.1.2.1.1
  by_cases g : 0 ≤ p ∧ p ≤ zn (g4_bo y) - 1
  · by_cases d : 0 ≤ q ∧ q ≤ 4
    · obtain ⟨v, t1, t2, t3, t4⟩ := zs_parcel (x := s5_thr x 0) hG.1.1 hG.1.2.1 (p := p) (w := q) g.1 (by omega) d.1 (by omega)
      have hF : f4_parcel y p q = some (0, v, y) := by
        unfold f4_parcel
        rw [z_ltF xp (by decide) (by omega), z_bind z0_loaded, z_ltT xp ⟨by omega, by omega⟩ (by omega), z_ltF xq (by decide) (by omega), z_ltT xq (by decide) (by omega), z_bind t1]
      have hM : f5_parcel x p q = some (v, s5_thr x 0) := by
        unfold f5_parcel
        rw [z_bind en, z_bind ep, if_pos g, z_eqF (by decide) (by decide) (by decide), z_bind eq, if_pos d, z_eqF (by decide) (by decide) (by decide), z_bind t2]
      have hv : xin (v) := ⟨by omega, by omega⟩
      have et : f5_thrown (s5_thr x 0) = some 0 := congrArg some (g5thr)
      refine ⟨s5_thr x 0, y, x_up o 0 (v), ?_, zk_thr hG⟩
      refine (z_bb hF (b := ((0 : Int), y, x_up o 0 (v))) (by dsimp only; rw [z_eqT (by decide) rfl, z_ckT hv])).trans ?_
      dsimp only
      rw [z_bind2 hM]
      dsimp only
      rw [z_bind et, z_eqT (by decide) rfl, z_eqT (by decide) rfl, z_ckT hv, if_pos z_upS]
    · have hF : f4_parcel y p q = some (1, 0, y) := by
        unfold f4_parcel
        rw [z_ltF xp (by decide) (by omega), z_bind z0_loaded, z_ltT xp ⟨by omega, by omega⟩ (by omega)]
        by_cases e : q < 0
        · rw [z_ltT xq (by decide) e]
        · rw [z_ltF xq (by decide) e, z_ltF xq (by decide) (by omega)]
      have hM : f5_parcel x p q = some (0, s5_thr x 2) := by
        unfold f5_parcel
        rw [z_bind en, z_bind ep, if_pos g, z_eqF (by decide) (by decide) (by decide), z_bind eq, if_neg d, z_eqT (by decide) rfl]
      refine ⟨s5_thr x 2, y, o, ?_, zk_thr hG⟩
      refine (z_bb hF (b := ((2 : Int), y, o)) (by dsimp only; rw [z_eqF (by decide) (by decide) (by decide), z_eqF (by decide) (by decide) (by decide), z_eqT (by decide) rfl])).trans ?_
      dsimp only
      rw [z_bind2 hM]
      dsimp only
      rw [z_bind (show f5_thrown (s5_thr x 2) = some 2 from rfl), z_eqT (by decide) rfl, z_eqF (by decide) (by decide) (by decide)]
  · have hF : f4_parcel y p q = some (4, 0, y) := by
      unfold f4_parcel
      by_cases e : p < 0
      · rw [z_ltT xp (by decide) e]
      · rw [z_ltF xp (by decide) e, z_bind z0_loaded, z_ltF xp ⟨by omega, by omega⟩ (by omega)]
    have hM : f5_parcel x p q = some (0, s5_thr x 1) := by
      unfold f5_parcel
      rw [z_bind en, z_bind ep, if_neg g, z_eqT (by decide) rfl]
    refine ⟨s5_thr x 1, y, o, ?_, zk_thr hG⟩
    refine (z_bb hF (b := ((1 : Int), y, o)) (by dsimp only; rw [z_eqF (by decide) (by decide) (by decide), z_eqT (by decide) rfl])).trans ?_
    dsimp only
    rw [z_bind2 hM]
    dsimp only
    rw [z_bind (show f5_thrown (s5_thr x 1) = some 1 from rfl), z_eqT (by decide) rfl, z_eqF (by decide) (by decide) (by decide)]
theorem zk_run : zKK fC_run := by
  intro xi i x y o c hx c0 hc hG
  have xp := hx (i + 1)
  have xq := hx (i + 2)
  unfold fC_run fL_run
  generalize xi (i + 1) = p at xp
  generalize xi (i + 2) = q at xq
  obtain ⟨k, k1, k2, k3, k4⟩ := zs_place hG.1.1 hG.1.2.1 xp
  have rl := hG.1.1.R_le
  have h120 := hG.1.1.1.2.1
  have xk : xin k := by rcases k4 with z | z <;> exact ⟨by omega, by omega⟩
  have eq := z5_in xq (l := 0) (h := 5) (by decide) (by decide)
  by_cases a : k = -1
  · have hF : f4_run y p q = some (3, 0, y) := by
      unfold f4_run
      rw [z_bind k3, if_pos a, z_eqT (by decide) rfl]
    have hM : f5_run x p q = some (0, s5_thr x 1) := by
      unfold f5_run
      rw [z_bind k2, z_eqT xk a]
    refine ⟨s5_thr x 1, y, o, ?_, zk_thr hG⟩
    refine (z_bb hF (b := ((1 : Int), y, o)) (by dsimp only; rw [z_eqF (by decide) (by decide) (by decide), z_eqT (by decide) rfl])).trans ?_
    dsimp only
    rw [z_bind2 hM]
    dsimp only
    rw [z_bind (show f5_thrown (s5_thr x 1) = some 1 from rfl), z_eqT (by decide) rfl, z_eqF (by decide) (by decide) (by decide)]
  · obtain ⟨q0, q1, q2⟩ := k4.resolve_left a
    by_cases d : 0 ≤ q ∧ q ≤ 5
    · obtain ⟨v, t1, t2, t3, t4⟩ := zs_run (x := s5_thr x 0) hG.1.1 hG.1.2.1 (w := q) q0 q1 d.1 (by omega)
      rw [q2] at t1 t2
      have hF : f4_run y p q = some (0, v, y) := by
        unfold f4_run
        rw [z_bind k3, if_neg a, z_eqF (by decide) (by decide) (by decide), z_ltF xq (by decide) (by omega), z_ltT xq (by decide) (by omega), z_bind t1]
      have hM : f5_run x p q = some (v, s5_thr x 0) := by
        unfold f5_run
        rw [z_bind k2, z_eqF xk (by decide) a, z_bind eq, if_pos d, z_eqF (by decide) (by decide) (by decide), z_bind t2]
      have hv : xin (v) := ⟨by omega, by omega⟩
      have et : f5_thrown (s5_thr x 0) = some 0 := congrArg some (g5thr)
      refine ⟨s5_thr x 0, y, x_up o 0 (v), ?_, zk_thr hG⟩
      refine (z_bb hF (b := ((0 : Int), y, x_up o 0 (v))) (by dsimp only; rw [z_eqT (by decide) rfl, z_ckT hv])).trans ?_
      dsimp only
      rw [z_bind2 hM]
      dsimp only
      rw [z_bind et, z_eqT (by decide) rfl, z_eqT (by decide) rfl, z_ckT hv, if_pos z_upS]
    · have hF : f4_run y p q = some (1, 0, y) := by
        unfold f4_run
        rw [z_bind k3, if_neg a, z_eqF (by decide) (by decide) (by decide)]
        by_cases e : q < 0
        · rw [z_ltT xq (by decide) e]
        · rw [z_ltF xq (by decide) e, z_ltF xq (by decide) (by omega)]
      have hM : f5_run x p q = some (0, s5_thr x 2) := by
        unfold f5_run
        rw [z_bind k2, z_eqF xk (by decide) a, z_bind eq, if_neg d, z_eqT (by decide) rfl]
      refine ⟨s5_thr x 2, y, o, ?_, zk_thr hG⟩
      refine (z_bb hF (b := ((2 : Int), y, o)) (by dsimp only; rw [z_eqF (by decide) (by decide) (by decide), z_eqF (by decide) (by decide) (by decide), z_eqT (by decide) rfl])).trans ?_
      dsimp only
      rw [z_bind2 hM]
      dsimp only
      rw [z_bind (show f5_thrown (s5_thr x 2) = some 2 from rfl), z_eqT (by decide) rfl, z_eqF (by decide) (by decide) (by decide)]
theorem z5_inRun0 {x : ModS} {k1 k2 n t : Int} {fu : Nat} (en : x_ld 730 (g5_now x) 1 = some n) (n0 : 0 ≤ n) (n1 : n ≤ 120) (t0 : ¬ t = 0) (xt : xin t) : f5_inRun_L39 k1 k2 (fu + 1) 0 (s5_thr x t) = some (0, s5_thr x t) := by
  unfold f5_inRun_L39
  rw [z_bind (show x_ld 730 (g5_now (s5_thr x t)) 1 = some n from en)]
  by_cases g : 0 < n
  · rw [z_ltT (by decide) ⟨by omega, by omega⟩ g, g5thr, z_eqF xt (by decide) t0]
  · rw [z_ltF (by decide) ⟨by omega, by omega⟩ g]
theorem z5_ashore0 {x : ModS} {k1 n t : Int} {fu : Nat} (en : x_ld 730 (g5_now x) 1 = some n) (n0 : 0 ≤ n) (n1 : n ≤ 120) (t0 : ¬ t = 0) (xt : xin t) : f5_ashore_L26 k1 (fu + 1) 0 (s5_thr x t) = some (0, s5_thr x t) := by
  unfold f5_ashore_L26
  rw [z_bind (show x_ld 730 (g5_now (s5_thr x t)) 1 = some n from en)]
  by_cases g : 0 < n
  · rw [z_ltT (by decide) ⟨by omega, by omega⟩ g, g5thr, z_eqF xt (by decide) t0]
  · rw [z_ltF (by decide) ⟨by omega, by omega⟩ g]
theorem zk_inRun : zKK fC_inRun := by
  intro xi i x y o c hx c0 hc hG
  have xp := hx (i + 1)
  have xq := hx (i + 2)
  unfold fC_inRun fL_inRun
  generalize xi (i + 1) = p at xp
  generalize xi (i + 2) = q at xq
  obtain ⟨k, k1, k2, k3, k4⟩ := zs_place hG.1.1 hG.1.2.1 xp
  have rl := hG.1.1.R_le
  have hn := hG.1.1.1.1
  have h120 := hG.1.1.1.2.1
  have xk : xin k := by rcases k4 with z | z <;> exact ⟨by omega, by omega⟩
  have en : x_ld 730 (g5_now x) 1 = some (zn (g4_bo y)) := z5_n hG.1.2.1.1
  by_cases a : k = -1
  · have hF : f4_inRun y p q = some (3, 0, y) := by
      unfold f4_inRun
      rw [z_bind k3, if_pos a, z_eqT (by decide) rfl]
    have hM : f5_inRun x p q = some (0, s5_thr x 1) := by
      unfold f5_inRun
      rw [z_bind k2, z_eqT xk a, show xFU = 99999 + 1 from rfl]
      exact z5_inRun0 en hn h120 (by decide) (by decide)
    refine ⟨s5_thr x 1, y, o, ?_, zk_thr hG⟩
    refine (z_bb hF (b := ((1 : Int), y, o)) (by dsimp only; rw [z_eqF (by decide) (by decide) (by decide), z_eqT (by decide) rfl])).trans ?_
    dsimp only
    rw [z_bind2 hM]
    dsimp only
    rw [z_bind (show f5_thrown (s5_thr x 1) = some 1 from rfl), z_eqT (by decide) rfl, z_eqF (by decide) (by decide) (by decide)]
  · obtain ⟨q0, q1, q2⟩ := k4.resolve_left a
    have hi := hG.1.1.2.2.2.1.2.2.1 k q0 q1
    have cn := zC_nonneg (zH (g4_bo y)) (zF (g4_bo y) k) (zn (g4_bo y))
    have cl := zC_le (zH (g4_bo y)) (zF (g4_bo y) k) hn
    have ec : f0_countAt (g4_bo y) p = some (zC (zH (g4_bo y)) (zF (g4_bo y) k) (zn (g4_bo y))) := by
      rw [z0_countAt hG.1.1 xp, q2]
    have em : f5_manyOf x p = some (zC (zH (g4_bo y)) (zF (g4_bo y) k) (zn (g4_bo y))) := by
      rw [← q2]; exact z5_manyOf hG.1.2.1.1 hG.1.1.1 hi.1 (hG.1.1.xF k q0 q1)
    have eq := z5_in xq (l := 0) (h := zC (zH (g4_bo y)) (zF (g4_bo y) k) (zn (g4_bo y)) - 1) (by decide) ⟨by omega, by omega⟩
    by_cases d : 0 ≤ q ∧ q ≤ zC (zH (g4_bo y)) (zF (g4_bo y) k) (zn (g4_bo y)) - 1
    · obtain ⟨r, t1, r0, r1, r2, r3⟩ := z0_parcelAt hG.1.1 (h := zF (g4_bo y) k) (k := q) (hG.1.1.xF k q0 q1) d.1 (by omega)
      have t2 := z5_inRunL (x := s5_thr x 0) hG.1.1 hG.1.2.1 g5thr q0 q1 d.1 (by omega) r0 r1 r2 r3 r.toNat xFU 0 (by decide) (by omega) (by unfold xFU; omega)
      rw [q2] at t1 t2
      have hF : f4_inRun y p q = some (0, r, y) := by
        unfold f4_inRun
        rw [z_bind k3, if_neg a, z_eqF (by decide) (by decide) (by decide), z_ltF xq (by decide) (by omega), z_bind ec, z_ltT xq ⟨by omega, by omega⟩ (by omega), z_bind t1]
      have hM : f5_inRun x p q = some (r, s5_thr x 0) := by
        unfold f5_inRun
        rw [z_bind k2, z_eqF xk (by decide) a, z_bind em, z_bind eq, if_pos d, z_eqF (by decide) (by decide) (by decide)]
        exact t2
      have hv : xin (r) := ⟨by omega, by omega⟩
      have et : f5_thrown (s5_thr x 0) = some 0 := congrArg some (g5thr)
      refine ⟨s5_thr x 0, y, x_up o 0 (r), ?_, zk_thr hG⟩
      refine (z_bb hF (b := ((0 : Int), y, x_up o 0 (r))) (by dsimp only; rw [z_eqT (by decide) rfl, z_ckT hv])).trans ?_
      dsimp only
      rw [z_bind2 hM]
      dsimp only
      rw [z_bind et, z_eqT (by decide) rfl, z_eqT (by decide) rfl, z_ckT hv, if_pos z_upS]
    · have hF : f4_inRun y p q = some (4, 0, y) := by
        unfold f4_inRun
        rw [z_bind k3, if_neg a, z_eqF (by decide) (by decide) (by decide)]
        by_cases e : q < 0
        · rw [z_ltT xq (by decide) e]
        · rw [z_ltF xq (by decide) e, z_bind ec, z_ltF xq ⟨by omega, by omega⟩ (by omega)]
      have hM : f5_inRun x p q = some (0, s5_thr x 2) := by
        unfold f5_inRun
        rw [z_bind k2, z_eqF xk (by decide) a, z_bind em, z_bind eq, if_neg d, z_eqT (by decide) rfl, show xFU = 99999 + 1 from rfl]
        exact z5_inRun0 en hn h120 (by decide) (by decide)
      refine ⟨s5_thr x 2, y, o, ?_, zk_thr hG⟩
      refine (z_bb hF (b := ((2 : Int), y, o)) (by dsimp only; rw [z_eqF (by decide) (by decide) (by decide), z_eqF (by decide) (by decide) (by decide), z_eqT (by decide) rfl])).trans ?_
      dsimp only
      rw [z_bind2 hM]
      dsimp only
      rw [z_bind (show f5_thrown (s5_thr x 2) = some 2 from rfl), z_eqT (by decide) rfl, z_eqF (by decide) (by decide) (by decide)]
theorem zk_ashore : zKK fC_ashore := by
  intro xi i x y o c hx c0 hc hG
  have xp := hx (i + 1)
  unfold fC_ashore fL_ashore
  generalize xi (i + 1) = p at xp
  have hn := hG.1.1.1.1
  have h120 := hG.1.1.1.2.1
  have en : x_ld 730 (g5_now x) 1 = some (zn (g4_bo y)) := z5_n hG.1.2.1.1
  have cn := zC_nonneg (zH (g4_bo y)) (-2) (zn (g4_bo y))
  have cl := zC_le (zH (g4_bo y)) (-2) hn
  have ec : f0_countAt (g4_bo y) (-2) = some (zC (zH (g4_bo y)) (-2) (zn (g4_bo y))) := z0_countAt hG.1.1 (by decide)
  have em : f5_many x 2 = some (zC (zH (g4_bo y)) (-2) (zn (g4_bo y))) := z5_many2 hG.1.2.1.1 hG.1.1.1
  have ep := z5_in xp (l := 0) (h := zC (zH (g4_bo y)) (-2) (zn (g4_bo y)) - 1) (by decide) ⟨by omega, by omega⟩
  by_cases d : 0 ≤ p ∧ p ≤ zC (zH (g4_bo y)) (-2) (zn (g4_bo y)) - 1
  · obtain ⟨r, t1, r0, r1, r2, r3⟩ := z0_parcelAt hG.1.1 (h := -2) (k := p) (by decide) d.1 (by omega)
    have t2 := z5_ashoreL (x := s5_thr x 0) hG.1.1 hG.1.2.1 g5thr d.1 (by omega) r0 r1 r2 r3 r.toNat xFU 0 (by decide) (by omega) (by unfold xFU; omega)
    have hF : f4_ashore y p = some (0, r, y) := by
      unfold f4_ashore
      rw [z_ltF xp (by decide) (by omega), z_bind ec, z_ltT xp ⟨by omega, by omega⟩ (by omega), z_bind t1]
    have hM : f5_ashore x p = some (r, s5_thr x 0) := by
      unfold f5_ashore
      rw [z_bind em, z_bind ep, if_pos d, z_eqF (by decide) (by decide) (by decide)]
      exact t2
    have hv : xin (r) := ⟨by omega, by omega⟩
    have et : f5_thrown (s5_thr x 0) = some 0 := congrArg some (g5thr)
    refine ⟨s5_thr x 0, y, x_up o 0 (r), ?_, zk_thr hG⟩
    refine (z_bb hF (b := ((0 : Int), y, x_up o 0 (r))) (by dsimp only; rw [z_eqT (by decide) rfl, z_ckT hv])).trans ?_
    dsimp only
    rw [z_bind2 hM]
    dsimp only
    rw [z_bind et, z_eqT (by decide) rfl, z_eqT (by decide) rfl, z_ckT hv, if_pos z_upS]
  · have hF : f4_ashore y p = some (4, 0, y) := by
      unfold f4_ashore
      by_cases e : p < 0
      · rw [z_ltT xp (by decide) e]
      · rw [z_ltF xp (by decide) e, z_bind ec, z_ltF xp ⟨by omega, by omega⟩ (by omega)]
    have hM : f5_ashore x p = some (0, s5_thr x 1) := by
      unfold f5_ashore
      rw [z_bind em, z_bind ep, if_neg d, z_eqT (by decide) rfl, show xFU = 99999 + 1 from rfl]
      exact z5_ashore0 en hn h120 (by decide) (by decide)
    refine ⟨s5_thr x 1, y, o, ?_, zk_thr hG⟩
    refine (z_bb hF (b := ((1 : Int), y, o)) (by dsimp only; rw [z_eqF (by decide) (by decide) (by decide), z_eqT (by decide) rfl])).trans ?_
    dsimp only
    rw [z_bind2 hM]
    dsimp only
    rw [z_bind (show f5_thrown (s5_thr x 1) = some 1 from rfl), z_eqT (by decide) rfl, z_eqF (by decide) (by decide) (by decide)]
theorem zk_runAt : zKK fC_runAt := by
  intro xi i x y o c hx c0 hc hG
  have xp := hx (i + 1)
  unfold fC_runAt fL_runAt
  generalize xi (i + 1) = p at xp
  have r0 := hG.1.1.R0
  have rl := hG.1.1.R_le
  have h120 := hG.1.1.1.2.1
  have e8 : x_ld 730 (g5_now x) 8 = some (zR (g4_bo y)) := by rw [z_ldT (by decide) (by decide), hG.1.2.1.2.2.2.2.2.2.2.2.1]
  have er : f0_runs (g4_bo y) = some (zR (g4_bo y)) := rfl
  have ep := z5_in xp (l := 0) (h := zR (g4_bo y) - 1) (by decide) ⟨by omega, by omega⟩
  by_cases d : 0 ≤ p ∧ p ≤ zR (g4_bo y) - 1
  · have hi := hG.1.1.2.2.2.1.2.2.1 p d.1 (by omega)
    have hf := hG.1.1.2.2.2.1.1
    have hF : f4_runAt y p = some (0, zF (g4_bo y) p, y) := by
      unfold f4_runAt
      rw [z_ltF xp (by decide) (by omega), z_bind er, z_ltT xp ⟨by omega, by omega⟩ (by omega)]
      unfold f0_runNumber
      rw [z_bind (hG.1.1.getF d.1 (by omega))]
      rfl
    have hM : f5_runAt x p = some (zF (g4_bo y) p, s5_thr x 0) := by
      unfold f5_runAt
      rw [z_bind e8, z_bind ep, if_pos d, z_eqF (by decide) (by decide) (by decide)]
      unfold f5_numberAt
      rw [z_bind (z_ldT (by omega) (by show _ < (730 : Int); omega))]
      show some (g5_now x (10 + 2 * p), s5_thr x 0) = _
      rw [(hG.1.2.1.2.2.2.2.2.2.2.2.2 p d.1 (by omega)).1]
    have hv : xin (zF (g4_bo y) p) := ⟨by omega, by omega⟩
    have et : f5_thrown (s5_thr x 0) = some 0 := congrArg some (g5thr)
    refine ⟨s5_thr x 0, y, x_up o 0 (zF (g4_bo y) p), ?_, zk_thr hG⟩
    refine (z_bb hF (b := ((0 : Int), y, x_up o 0 (zF (g4_bo y) p))) (by dsimp only; rw [z_eqT (by decide) rfl, z_ckT hv])).trans ?_
    dsimp only
    rw [z_bind2 hM]
    dsimp only
    rw [z_bind et, z_eqT (by decide) rfl, z_eqT (by decide) rfl, z_ckT hv, if_pos z_upS]
  · have hF : f4_runAt y p = some (4, 0, y) := by
      unfold f4_runAt
      by_cases e : p < 0
      · rw [z_ltT xp (by decide) e]
      · rw [z_ltF xp (by decide) e, z_bind er, z_ltF xp ⟨by omega, by omega⟩ (by omega)]
    have hM : f5_runAt x p = some (0, s5_thr x 1) := by
      unfold f5_runAt
      rw [z_bind e8, z_bind ep, if_neg d, z_eqT (by decide) rfl]
    refine ⟨s5_thr x 1, y, o, ?_, zk_thr hG⟩
    refine (z_bb hF (b := ((1 : Int), y, o)) (by dsimp only; rw [z_eqF (by decide) (by decide) (by decide), z_eqT (by decide) rfl])).trans ?_
    dsimp only
    rw [z_bind2 hM]
    dsimp only
    rw [z_bind (show f5_thrown (s5_thr x 1) = some 1 from rfl), z_eqT (by decide) rfl, z_eqF (by decide) (by decide) (by decide)]
theorem zk_value : zKK fC_value := by
  intro xi i x y o c hx c0 hc hG
  have xp := hx (i + 1)
  unfold fC_value fL_value
  generalize xi (i + 1) = p at xp
  have ep := z5_in xp (l := 0) (h := 11) (by decide) (by decide)
  by_cases d : 0 ≤ p ∧ p ≤ 11
  · obtain ⟨v, t1, t2, t3, t4⟩ := zs_number (x := s5_thr x 0) hG.1 (by omega) d.1 (by omega)
    have hF : f4_value y p = some (0, v, y) := by
      unfold f4_value
      rw [z_ltF xp (by decide) (by omega), z_ltT xp (by decide) (by omega), z_bind t1]
    have hM : f5_value x p = some (v, s5_thr x 0) := by
      unfold f5_value
      rw [z_bind ep, if_pos d, z_eqF (by decide) (by decide) (by decide), z_bind t2]
    have hv : xin (v) := ⟨by omega, by omega⟩
    have et : f5_thrown (s5_thr x 0) = some 0 := congrArg some (g5thr)
    refine ⟨s5_thr x 0, y, x_up o 0 (v), ?_, zk_thr hG⟩
    refine (z_bb hF (b := ((0 : Int), y, x_up o 0 (v))) (by dsimp only; rw [z_eqT (by decide) rfl, z_ckT hv])).trans ?_
    dsimp only
    rw [z_bind2 hM]
    dsimp only
    rw [z_bind et, z_eqT (by decide) rfl, z_eqT (by decide) rfl, z_ckT hv, if_pos z_upS]
  · have hF : f4_value y p = some (1, 0, y) := by
      unfold f4_value
      by_cases e : p < 0
      · rw [z_ltT xp (by decide) e]
      · rw [z_ltF xp (by decide) e, z_ltF xp (by decide) (by omega)]
    have hM : f5_value x p = some (0, s5_thr x 1) := by
      unfold f5_value
      rw [z_bind ep, if_neg d, z_eqT (by decide) rfl]
    refine ⟨s5_thr x 1, y, o, ?_, zk_thr hG⟩
    refine (z_bb hF (b := ((1 : Int), y, o)) (by dsimp only; rw [z_eqF (by decide) (by decide) (by decide), z_eqT (by decide) rfl])).trans ?_
    dsimp only
    rw [z_bind2 hM]
    dsimp only
    rw [z_bind (show f5_thrown (s5_thr x 1) = some 1 from rfl), z_eqT (by decide) rfl, z_eqF (by decide) (by decide) (by decide)]
theorem z0_next_x {b : BoatS} (hB : zB b) {v : Int} (h : f0_nextOverboard b = some v) : -1 ≤ v ∧ v ≤ 120 := by
  obtain ⟨k, a, c, hk, ha, hc, e⟩ := z0_next hB
  have h120 := hB.1.2.1
  have h1 := zMin_ge ha
  have h2 := zMin_ge hc
  have h0 := hB.1.1
  rw [e] at h
  have := Option.some.inj h
  rw [← this]
  split <;> omega
theorem zk_nextThrown : zKK fC_nextThrown := by
  intro xi i x y o c hx c0 hc hG
  unfold fC_nextThrown
  obtain ⟨v, t1, t2⟩ := zs_nextThrown (x := s5_thr x 0) hG.1.1 hG.1.2.1
  have hr := z0_next_x hG.1.1 t1
  have hF : f4_nextThrown y = some v := by
    unfold f4_nextThrown
    rw [z_bind t1]
  have hM : f5_nextThrown x = some (v, s5_thr x 0) := by
    unfold f5_nextThrown
    rw [z_bind t2]
  have hv : xin (v) := ⟨by omega, by omega⟩
  refine ⟨s5_thr x 0, y, o, ?_, zk_thr hG⟩
  rw [z_bind hF, z_bind2 hM]
  dsimp only
  rw [z_eqT hv rfl]
theorem zk_runsIfEmptied : zKK fC_runsIfEmptied := by
  intro xi i x y o c hx c0 hc hG
  unfold fC_runsIfEmptied
  obtain ⟨b1, q1, q2⟩ := z0_copy (g4_tr y) hG.1.1
  obtain ⟨v, b2, pl, nw, t1, t2, t3, t4, t5⟩ := zs_rie (x := s5_thr x 0) hG.1 (by omega) q2
  have hF : f4_runsIfEmptied y = some (v, s4_tr y b2) := by
    unfold f4_runsIfEmptied
    rw [z_bind q1, z_bind2 t1]
    rfl
  have hM : f5_runsIfEmptied x = some (v, s5_now (s5_put (s5_thr x 0) pl) nw) := t2
  have hv : xin (v) := ⟨by omega, by omega⟩
  refine ⟨s5_now (s5_put (s5_thr x 0) pl) nw, s4_tr y b2, o, ?_, zGl_le (zGl_put (zGl_tr (zGl_thr hG)) t3) (by omega)⟩
  rw [z_bind2 hF]
  dsimp only
  rw [z_bind2 hM]
  dsimp only
  rw [z_eqT hv rfl]
theorem zk_costByWeight : zKK fC_costByWeight := by
  intro xi i x y o c hx c0 hc hG
  unfold fC_costByWeight
  obtain ⟨b1, q1, q2⟩ := z0_copy (g4_tr y) hG.1.1
  obtain ⟨v, b2, lf, t1, t2, t3, t4⟩ := zs_cbw (x := s5_thr x 0) hG.1 q2
  have hF : f4_costByWeight y = some (v, s4_tr y b2) := by
    unfold f4_costByWeight
    rw [z_bind q1, z_bind2 t1]
    rfl
  have hM : f5_costByWeight x = some (v, s5_lef (s5_thr x 0) lf) := by
    unfold f5_costByWeight
    rw [z_bind2 t2]
  have hv : xin (v) := ⟨by omega, by omega⟩
  refine ⟨s5_lef (s5_thr x 0) lf, s4_tr y b2, o, ?_, zGl_le (zGl_lef (zGl_tr (zGl_thr hG))) (by omega)⟩
  rw [z_bind2 hF]
  dsimp only
  rw [z_bind2 hM]
  dsimp only
  rw [z_eqT hv rfl]
theorem zk_costByNumber : zKK fC_costByNumber := by
  intro xi i x y o c hx c0 hc hG
  unfold fC_costByNumber
  obtain ⟨b1, q1, q2⟩ := z0_copy (g4_tr y) hG.1.1
  obtain ⟨v, b2, t1, t2, t3, t4⟩ := zs_cbn (x := x) hG.1 q2
  have hF : f4_costByNumber y = some (v, s4_tr y b2) := by
    unfold f4_costByNumber
    rw [z_bind q1, z_bind2 t1]
    rfl
  have hM : f5_costByNumber x = some (v, s5_thr x 0) := t2
  have hv : xin (v) := ⟨by omega, by omega⟩
  refine ⟨s5_thr x 0, s4_tr y b2, o, ?_, zGl_le (zGl_tr (zGl_thr hG)) (by omega)⟩
  rw [z_bind2 hF]
  dsimp only
  rw [z_bind2 hM]
  dsimp only
  rw [z_eqT hv rfl]
theorem zk_runsWith : zKK fC_runsWith := by
  intro xi i x y o c hx c0 hc hG
  have xp := hx (i + 1)
  unfold fC_runsWith fL_runsWith
  generalize xi (i + 1) = p at xp
  have ep := z5_in xp (l := 1) (h := 120) (by decide) (by decide)
  by_cases d : 1 ≤ p ∧ p ≤ 120
  · obtain ⟨v, t', a, l, t1, t2, t3, t4, _⟩ := zs_runsBy (y := y) (x := s5_thr x 0) rfl hG.1.1 hG.1.2.1 d.1 d.2 (g4_tr y)
    have hF : f4_runsWith y p = some (0, v, s4_tr y t') := by
      unfold f4_runsWith
      rw [z_ltF xp (by decide) (by omega), z_ltF (by decide) xp (by omega), z_bind z0_start]
      exact t1
    have hM : f5_runsWith x p = some (v, s5_lat (s5_abo (s5_thr x 0) a) l) := by
      unfold f5_runsWith
      rw [z_bind ep, if_pos d, z_eqF (by decide) (by decide) (by decide), z_bind2 t2]
    have hv : xin (v) := ⟨by omega, by omega⟩
    have et : f5_thrown (s5_lat (s5_abo (s5_thr x 0) a) l) = some 0 := congrArg some (by simp only [gs5_lat, gs5_abo, gs5_thr])
    refine ⟨s5_lat (s5_abo (s5_thr x 0) a) l, s4_tr y t', x_up o 0 (v), ?_, zGl_le (zGl_try (zGl_tr (zGl_thr hG))) (by omega)⟩
    refine (z_bb hF (b := ((0 : Int), s4_tr y t', x_up o 0 (v))) (by dsimp only; rw [z_eqT (by decide) rfl, z_ckT hv])).trans ?_
    dsimp only
    rw [z_bind2 hM]
    dsimp only
    rw [z_bind et, z_eqT (by decide) rfl, z_eqT (by decide) rfl, z_ckT hv, if_pos z_upS]
  · have hF : f4_runsWith y p = some (1, 0, y) := by
      unfold f4_runsWith
      by_cases e : p < 1
      · rw [z_ltT xp (by decide) e]
      · rw [z_ltF xp (by decide) e, z_ltT (by decide) xp (by omega)]
    have hM : f5_runsWith x p = some (0, s5_thr x 1) := by
      unfold f5_runsWith
      rw [z_bind ep, if_neg d, z_eqT (by decide) rfl]
    refine ⟨s5_thr x 1, y, o, ?_, zk_thr hG⟩
    refine (z_bb hF (b := ((1 : Int), y, o)) (by dsimp only; rw [z_eqF (by decide) (by decide) (by decide), z_eqT (by decide) rfl])).trans ?_
    dsimp only
    rw [z_bind2 hM]
    dsimp only
    rw [z_bind (show f5_thrown (s5_thr x 1) = some 1 from rfl), z_eqT (by decide) rfl, z_eqF (by decide) (by decide) (by decide)]
theorem zk_leastRoom : zKK fC_leastRoom := by
  intro xi i x y o c hx c0 hc hG
  unfold fC_leastRoom
  obtain ⟨v, a, l, t1, t2, t3, t4⟩ := zs_leastRoom (y := y) (x := s5_thr x 0) rfl hG.1.1 hG.1.2.1
  have hF : f4_leastRoom y = some v := t1
  have hM : f5_leastRoom x = some (v, s5_lat (s5_abo (s5_thr x 0) a) l) := t2
  have hv : xin (v) := ⟨by omega, by omega⟩
  refine ⟨s5_lat (s5_abo (s5_thr x 0) a) l, y, o, ?_, zGl_le (zGl_try (zGl_thr hG)) (by omega)⟩
  rw [z_bind hF, z_bind2 hM]
  dsimp only
  rw [z_eqT hv rfl]
theorem zk_inversions : zKK fC_inversions := by
  intro xi i x y o c hx c0 hc hG
  unfold fC_inversions
  obtain ⟨v, t1, t2, t3, t4⟩ := zs_inv (y := y) (x := x) rfl hG.1.1 hG.1.2.1
  have hF : f4_inversions y = some v := t1
  have hM : f5_inversions x = some (v, s5_thr x 0) := t2
  have hv : xin (v) := ⟨by omega, by omega⟩
  refine ⟨s5_thr x 0, y, o, ?_, zk_thr hG⟩
  rw [z_bind hF, z_bind2 hM]
  dsimp only
  rw [z_eqT hv rfl]

/-! The calls that change the boat. -/
def zKK (F : (Int → Int) → Int → ModS → BrS → (Int → Int) → Option (ModS × BrS × (Int → Int))) : Prop := ∀ (xi : Int → Int) (i : Int) (x : ModS) (y : BrS) (o : Int → Int) (c : Int), (∀ j, xin (xi j)) → 0 ≤ c → c + 400000 < 1000000000 → zGl y x c → ∃ x1 y1 o1, F xi i x y o = some (x1, y1, o1) ∧ zGl y1 x1 (c + 400000)
theorem z_bb {α β γ : Type} {F : Option α} {f : α → Option β} {g : β → Option γ} {a : α} {b : β} (hF : F = some a) (hf : f a = some b) : (F.bind f).bind g = g b := by
  rw [hF]
  show (f a).bind g = g b
  rw [hf]
  rfl
theorem zSv_thr {y : BrS} {x x5 : ModS} {h' : HisS} {c : Int} {now' : Int → Int} (h : zSv y (s5_thr x 0) h' x5 c) : g5_thr (s5_now x5 now') = 0 := by
  simp only [gs5_now]
  rw [h.2.2.2.1]
  rfl
theorem zSv_J {y : BrS} {x x5 : ModS} {h' : HisS} {c : Int} (hG : zGl y x c) (h : zSv y (s5_thr x 0) h' x5 c) : zJ (g4_bo y) (g5_now x5) c := by
  rw [h.1]
  exact hG.1
theorem zk_thr {y : BrS} {x : ModS} {c k : Int} (hG : zGl y x c) : zGl y (s5_thr x k) (c + 400000) := zGl_le (zGl_thr hG) (by omega)
theorem g5thr {x : ModS} {k : Int} : g5_thr (s5_thr x k) = k := rfl
theorem zk_begin : zKK fC_begin := by
  intro xi i x y o c hx c0 hc hG
  have xp := hx (i + 1)
  unfold fC_begin fL_begin
  generalize xi (i + 1) = p at xp
  have ei := z5_in xp (l := 1) (h := 12) (by decide) (by decide)
  by_cases g : 1 ≤ p ∧ p ≤ 12
  · obtain ⟨h', x5, s1, s2, s3⟩ := zs_save2 (zGl_thr (k := 0) hG)
    have hJ5 := zSv_J hG s3
    have hn := hG.1.1.1.1
    have h120 := hG.1.1.1.2.1
    obtain ⟨now', a1, a2⟩ := z5_anew (x := x5) (room := p) (g4_bo y)
    have hF : f4_begin y p = some (0, zn (g4_bo y), s4_bo (s4_hi y h') (bStart (g4_bo y) p)) := by
      unfold f4_begin
      rw [z_ltF xp (by decide) (by omega), z_ltF (by decide) xp (by omega), z_bind s1, z_bind z0_loaded, z_bind z0_start]
    have hM : f5_begin x p = some (zn (g4_bo y), s5_now x5 now') := by
      unfold f5_begin
      rw [z_bind ei, if_pos g, z_eqF (by decide) (by decide) (by decide), z_bind s2, z_bind (z5_n hJ5.2.1.1), z_bind a1]
    have hv : xin (zn (g4_bo y)) := ⟨by omega, by omega⟩
    have et : f5_thrown (s5_now x5 now') = some 0 := congrArg some (zSv_thr s3)
    refine ⟨s5_now x5 now', s4_bo (s4_hi y h') (bStart (g4_bo y) p), x_up o 0 (zn (g4_bo y)), ?_, zGl_act (zGl_thr hG) s3 (zJ_start (by omega) (by omega) (by omega) a2) (by omega)⟩
    refine (z_bb hF (b := ((0 : Int), s4_bo (s4_hi y h') (bStart (g4_bo y) p), x_up o 0 (zn (g4_bo y)))) (by dsimp only; rw [z_eqT (by decide) rfl, z_ckT hv])).trans ?_
    dsimp only
    rw [z_bind2 hM]
    dsimp only
    rw [z_bind et, z_eqT (by decide) rfl, z_eqT (by decide) rfl, z_ckT hv, if_pos z_upS]
  · have hF : f4_begin y p = some (1, 0, y) := by
      unfold f4_begin
      by_cases d : p < 1
      · rw [z_ltT xp (by decide) d]
      · rw [z_ltF xp (by decide) d, z_ltT (by decide) xp (by omega)]
    have hM : f5_begin x p = some (0, s5_thr x 1) := by
      unfold f5_begin
      rw [z_bind ei, if_neg g, z_eqT (by decide) rfl]
    refine ⟨s5_thr x 1, y, o, ?_, zk_thr hG⟩
    refine (z_bb hF (b := ((1 : Int), y, o)) (by dsimp only; rw [z_eqF (by decide) (by decide) (by decide), z_eqT (by decide) rfl])).trans ?_
    dsimp only
    rw [z_bind2 hM]
    dsimp only
    rw [z_bind (show f5_thrown (s5_thr x 1) = some 1 from rfl), z_eqT (by decide) rfl, z_eqF (by decide) (by decide) (by decide)]
theorem zk_load : zKK fC_load := by
  intro xi i x y o c hx c0 hc hG
  have xp := hx (i + 1)
  have xq := hx (i + 2)
  unfold fC_load fL_load
  generalize xi (i + 1) = p at xp
  generalize xi (i + 2) = q at xq
  have ep := z5_in xp (l := 0) (h := 999) (by decide) (by decide)
  have eq := z5_in xq (l := 1) (h := 50) (by decide) (by decide)
  have hn := hG.1.1.1.1
  have h120 := hG.1.1.1.2.1
  by_cases g : (0 ≤ p ∧ p ≤ 999) ∧ (1 ≤ q ∧ q ≤ 50)
  · have hF1 : ∀ {r}, ((f0_allLoaded (g4_bo y)).bind fun v5 => x_eq v5 0 ((f1_save (g4_hi y) (g4_bo y)).bind fun h7 => (f0_take (g4_bo y) p q).bind fun (v9, b8) => some ((0 : Int), v9, s4_bo (s4_hi y h7) b8)) (some (2, 0, y))) = r → f4_load y p q = r := fun {r} e => by
      unfold f4_load
      rw [z_ltF xp (by decide) (by omega), z_ltF (by decide) xp (by omega), z_ltF xq (by decide) (by omega), z_ltF (by decide) xq (by omega)]
      exact e
    have hM1 : ∀ {r}, ((x_ld 730 (g5_now x) 1).bind fun v7 => x_eq v7 120 (some ((0 : Int), s5_thr x 2)) ((f5_save (s5_thr x 0)).bind fun x11 => (f5_loadOne x11 p q).bind fun (v13, x12) => some (v13, x12))) = r → f5_load x p q = r := fun {r} e => by
      unfold f5_load
      rw [z_bind ep, if_pos g.1, z_eqF (by decide) (by decide) (by decide), z_bind eq, if_pos g.2, z_eqF (by decide) (by decide) (by decide)]
      exact e
    by_cases d : zn (g4_bo y) < 120
    · obtain ⟨h', x5, s1, s2, s3⟩ := zs_save2 (zGl_thr (k := 0) hG)
      have hJ5 := zSv_J hG s3
      obtain ⟨v, b', now', t1, t2, t3, t4, t5, t6, t7, t8, t9⟩ := zs_take hJ5 (by omega) d g.1.1 g.1.2 g.2.1 g.2.2
      have hF : f4_load y p q = some (0, v, s4_bo (s4_hi y h') b') := hF1 (by
        rw [z_bind (z0_allLoaded hG.1.1), if_pos d, z_eqT (by decide) rfl, z_bind s1, z_bind2 t1])
      have hM : f5_load x p q = some (v, s5_now x5 now') := hM1 (by
        rw [z_bind (z5_n hG.1.2.1.1), z_eqF ⟨by omega, by omega⟩ (by decide) (by omega), z_bind s2, z_bind2 t2])
      have hv : xin (v) := ⟨by omega, by omega⟩
      have et : f5_thrown (s5_now x5 now') = some 0 := congrArg some (zSv_thr s3)
      refine ⟨s5_now x5 now', s4_bo (s4_hi y h') b', x_up o 0 (v), ?_, zGl_act (zGl_thr hG) s3 (zJ_le t3 (by omega)) (by omega)⟩
      refine (z_bb hF (b := ((0 : Int), s4_bo (s4_hi y h') b', x_up o 0 (v))) (by dsimp only; rw [z_eqT (by decide) rfl, z_ckT hv])).trans ?_
      dsimp only
      rw [z_bind2 hM]
      dsimp only
      rw [z_bind et, z_eqT (by decide) rfl, z_eqT (by decide) rfl, z_ckT hv, if_pos z_upS]
    · have h120 := hG.1.1.1.2.1
      have hF : f4_load y p q = some (2, 0, y) := hF1 (by
        rw [z_bind (z0_allLoaded hG.1.1), if_neg d, z_eqF (by decide) (by decide) (by decide)])
      have hM : f5_load x p q = some (0, s5_thr x 2) := hM1 (by
        rw [z_bind (z5_n hG.1.2.1.1), z_eqT ⟨by omega, by omega⟩ (by omega)])
      refine ⟨s5_thr x 2, y, o, ?_, zk_thr hG⟩
      refine (z_bb hF (b := ((2 : Int), y, o)) (by dsimp only; rw [z_eqF (by decide) (by decide) (by decide), z_eqF (by decide) (by decide) (by decide), z_eqT (by decide) rfl])).trans ?_
      dsimp only
      rw [z_bind2 hM]
      dsimp only
      rw [z_bind (show f5_thrown (s5_thr x 2) = some 2 from rfl), z_eqT (by decide) rfl, z_eqF (by decide) (by decide) (by decide)]
  · have hF : f4_load y p q = some (1, 0, y) := by
      unfold f4_load
      by_cases d1 : p < 0
      · rw [z_ltT xp (by decide) d1]
      · rw [z_ltF xp (by decide) d1]
        by_cases d2 : 999 < p
        · rw [z_ltT (by decide) xp d2]
        · rw [z_ltF (by decide) xp d2]
          by_cases d3 : q < 1
          · rw [z_ltT xq (by decide) d3]
          · rw [z_ltF xq (by decide) d3, z_ltT (by decide) xq (by omega)]
    have hM : f5_load x p q = some (0, s5_thr x 1) := by
      unfold f5_load
      rw [z_bind ep]
      by_cases d1 : 0 ≤ p ∧ p ≤ 999
      · rw [if_pos d1, z_eqF (by decide) (by decide) (by decide), z_bind eq, if_neg (fun w => g ⟨d1, w⟩), z_eqT (by decide) rfl]
      · rw [if_neg d1, z_eqT (by decide) rfl]
    refine ⟨s5_thr x 1, y, o, ?_, zk_thr hG⟩
    refine (z_bb hF (b := ((1 : Int), y, o)) (by dsimp only; rw [z_eqF (by decide) (by decide) (by decide), z_eqT (by decide) rfl])).trans ?_
    dsimp only
    rw [z_bind2 hM]
    dsimp only
    rw [z_bind (show f5_thrown (s5_thr x 1) = some 1 from rfl), z_eqT (by decide) rfl, z_eqF (by decide) (by decide) (by decide)]
theorem zk_loadDrawn : zKK fC_loadDrawn := by
  intro xi i x y o c hx c0 hc hG
  have xp := hx (i + 1)
  have xq := hx (i + 2)
  have xr := hx (i + 3)
  unfold fC_loadDrawn fL_loadDrawn
  generalize xi (i + 1) = p at xp
  generalize xi (i + 2) = q at xq
  generalize xi (i + 3) = r at xr
  have ep := z5_in xp (l := 0) (h := 999999) (by decide) (by decide)
  have eq := z5_in xq (l := 1) (h := 60) (by decide) (by decide)
  have er := z5_in xr (l := 1) (h := 1000) (by decide) (by decide)
  have hn := hG.1.1.1.1
  have h120 := hG.1.1.1.2.1
  by_cases g : (0 ≤ p ∧ p ≤ 999999) ∧ (1 ≤ q ∧ q ≤ 60) ∧ (1 ≤ r ∧ r ≤ 1000)
  · obtain ⟨h', x5, s1, s2, s3⟩ := zs_save2 (zGl_thr (k := 0) hG)
    have hJ5 := zSv_J hG s3
    obtain ⟨v, b', now', t1, t2, t3, t4, t5⟩ := zs_drawn hJ5 (by omega) g.1.1 g.1.2 g.2.1.1 g.2.1.2 g.2.2.1 g.2.2.2
    have hF : f4_loadDrawn y p q r = some (0, v, s4_bo (s4_hi y h') b') := by
      unfold f4_loadDrawn
      rw [z_ltF xp (by decide) (by omega), z_ltF (by decide) xp (by omega), z_ltF xq (by decide) (by omega), z_ltF (by decide) xq (by omega), z_ltF xr (by decide) (by omega), z_ltF (by decide) xr (by omega), z_bind s1, z_bind2 t1]
    have hM : f5_loadDrawn x p q r = some (v, s5_now x5 now') := by
      unfold f5_loadDrawn
      rw [z_bind ep, if_pos g.1, z_eqF (by decide) (by decide) (by decide), z_bind eq, if_pos g.2.1, z_eqF (by decide) (by decide) (by decide), z_bind er, if_pos g.2.2, z_eqF (by decide) (by decide) (by decide), z_bind s2, z_ckT xp, z_bind (z5_n hJ5.2.1.1), t2]
    have hv : xin (v) := ⟨by omega, by omega⟩
    have et : f5_thrown (s5_now x5 now') = some 0 := congrArg some (zSv_thr s3)
    refine ⟨s5_now x5 now', s4_bo (s4_hi y h') b', x_up o 0 (v), ?_, zGl_act (zGl_thr hG) s3 (zJ_le t3 (by omega)) (by omega)⟩
    refine (z_bb hF (b := ((0 : Int), s4_bo (s4_hi y h') b', x_up o 0 (v))) (by dsimp only; rw [z_eqT (by decide) rfl, z_ckT hv])).trans ?_
    dsimp only
    rw [z_bind2 hM]
    dsimp only
    rw [z_bind et, z_eqT (by decide) rfl, z_eqT (by decide) rfl, z_ckT hv, if_pos z_upS]
  · have hF : f4_loadDrawn y p q r = some (1, 0, y) := by
      unfold f4_loadDrawn
      by_cases d1 : p < 0
      · rw [z_ltT xp (by decide) d1]
      · rw [z_ltF xp (by decide) d1]
        by_cases d2 : 999999 < p
        · rw [z_ltT (by decide) xp d2]
        · rw [z_ltF (by decide) xp d2]
          by_cases d3 : q < 1
          · rw [z_ltT xq (by decide) d3]
          · rw [z_ltF xq (by decide) d3]
            by_cases d4 : 60 < q
            · rw [z_ltT (by decide) xq d4]
            · rw [z_ltF (by decide) xq d4]
              by_cases d5 : r < 1
              · rw [z_ltT xr (by decide) d5]
              · rw [z_ltF xr (by decide) d5, z_ltT (by decide) xr (by omega)]
    have hM : f5_loadDrawn x p q r = some (0, s5_thr x 1) := by
      unfold f5_loadDrawn
      rw [z_bind ep]
      by_cases d1 : 0 ≤ p ∧ p ≤ 999999
      · rw [if_pos d1, z_eqF (by decide) (by decide) (by decide), z_bind eq]
        by_cases d2 : 1 ≤ q ∧ q ≤ 60
        · rw [if_pos d2, z_eqF (by decide) (by decide) (by decide), z_bind er, if_neg (fun w => g ⟨d1, d2, w⟩), z_eqT (by decide) rfl]
        · rw [if_neg d2, z_eqT (by decide) rfl]
      · rw [if_neg d1, z_eqT (by decide) rfl]
    refine ⟨s5_thr x 1, y, o, ?_, zk_thr hG⟩
    refine (z_bb hF (b := ((1 : Int), y, o)) (by dsimp only; rw [z_eqF (by decide) (by decide) (by decide), z_eqT (by decide) rfl])).trans ?_
    dsimp only
    rw [z_bind2 hM]
    dsimp only
    rw [z_bind (show f5_thrown (s5_thr x 1) = some 1 from rfl), z_eqT (by decide) rfl, z_eqF (by decide) (by decide) (by decide)]
theorem zk_empty : zKK fC_empty := by
  intro xi i x y o c hx c0 hc hG
  unfold fC_empty
  obtain ⟨h', x5, s1, s2, s3⟩ := zs_save2 (zGl_thr (k := 0) hG)
  have hJ5 := zSv_J hG s3
  obtain ⟨b', now', t1, t2, t3, t4, t5, t6⟩ := zs_throwAll hJ5 (by omega)
  have r0 := t3.1.R0
  have rl := t3.1.R_le
  have h120 := t3.1.1.2.1
  have hF : f4_empty y = some (zR b', s4_bo (s4_hi y h') b') := by
    unfold f4_empty
    rw [z_bind s1, z_bind2 t1]
  have e8 : x_ld 730 (g5_now (s5_now x5 now')) 8 = some (zR b') := by
    rw [z_ldT (by decide) (by decide)]
    exact congrArg some t3.2.1.2.2.2.2.2.2.2.2.1
  have hM : f5_empty x = some (zR b', s5_now x5 now') := by
    unfold f5_empty
    rw [z_bind s2, z_bind t2, z_bind e8]
  have hv : xin (zR b') := ⟨by omega, by omega⟩
  refine ⟨s5_now x5 now', s4_bo (s4_hi y h') b', o, ?_, zGl_act (zGl_thr hG) s3 (zJ_le t3 (by omega)) (by omega)⟩
  rw [z_bind2 hF]
  dsimp only
  rw [z_bind2 hM]
  dsimp only
  rw [z_eqT hv rfl]
theorem zk_merge : zKK fC_merge := by
  intro xi i x y o c hx c0 hc hG
  have xp := hx (i + 1)
  have xq := hx (i + 2)
  unfold fC_merge fL_merge
  generalize xi (i + 1) = p at xp
  generalize xi (i + 2) = q at xq
  obtain ⟨k, k1, k2, k3, k4⟩ := zs_place hG.1.1 hG.1.2.1 xp
  obtain ⟨l, l1, l2, l3, l4⟩ := zs_place hG.1.1 hG.1.2.1 xq
  have rl := hG.1.1.R_le
  have h120 := hG.1.1.1.2.1
  have xk : xin k := by rcases k4 with z | z <;> exact ⟨by omega, by omega⟩
  have xl : xin l := by rcases l4 with z | z <;> exact ⟨by omega, by omega⟩
  have hw : ∀ v, (k = -1 → v = 1) → (¬ k = -1 → l = -1 → v = 1) → (¬ k = -1 → ¬ l = -1 → p = q → v = 2) → (¬ k = -1 → ¬ l = -1 → ¬ p = q → v = 0) → f5_whyNoMerge x p q = some v := fun v v1 v2 v3 v4 => by
    unfold f5_whyNoMerge
    rw [z_bind k2]
    by_cases a : k = -1
    · rw [z_eqT xk a, v1 a]
    · rw [z_eqF xk (by decide) a, z_bind l2]
      by_cases d : l = -1
      · rw [z_eqT xl d, v2 a d]
      · rw [z_eqF xl (by decide) d]
        by_cases e : p = q
        · rw [z_eqT xp e, v3 a d e]
        · rw [z_eqF xp xq e, v4 a d e]
  by_cases a : k = -1
  · have hF : f4_merge y p q = some (3, 0, y) := by
      unfold f4_merge
      rw [z_bind k3, if_pos a, z_eqT (by decide) rfl]
    have hM : f5_merge x p q = some (0, s5_thr x 1) := by
      unfold f5_merge
      rw [z_bind (hw 1 (fun _ => rfl) (fun w => absurd a w) (fun w => absurd a w) (fun w => absurd a w)), z_ltT (by decide) (by decide) (by decide)]
    refine ⟨s5_thr x 1, y, o, ?_, zk_thr hG⟩
    refine (z_bb hF (b := ((1 : Int), y, o)) (by dsimp only; rw [z_eqF (by decide) (by decide) (by decide), z_eqT (by decide) rfl])).trans ?_
    dsimp only
    rw [z_bind2 hM]
    dsimp only
    rw [z_bind (show f5_thrown (s5_thr x 1) = some 1 from rfl), z_eqT (by decide) rfl, z_eqF (by decide) (by decide) (by decide)]
  by_cases d : l = -1
  · have hF : f4_merge y p q = some (3, 0, y) := by
      unfold f4_merge
      rw [z_bind k3, if_neg a, z_eqF (by decide) (by decide) (by decide), z_bind l3, if_pos d, z_eqT (by decide) rfl]
    have hM : f5_merge x p q = some (0, s5_thr x 1) := by
      unfold f5_merge
      rw [z_bind (hw 1 (fun _ => rfl) (fun _ _ => rfl) (fun _ w => absurd d w) (fun _ w => absurd d w)), z_ltT (by decide) (by decide) (by decide)]
    refine ⟨s5_thr x 1, y, o, ?_, zk_thr hG⟩
    refine (z_bb hF (b := ((1 : Int), y, o)) (by dsimp only; rw [z_eqF (by decide) (by decide) (by decide), z_eqT (by decide) rfl])).trans ?_
    dsimp only
    rw [z_bind2 hM]
    dsimp only
    rw [z_bind (show f5_thrown (s5_thr x 1) = some 1 from rfl), z_eqT (by decide) rfl, z_eqF (by decide) (by decide) (by decide)]
  by_cases e : p = q
  · have hF : f4_merge y p q = some (1, 0, y) := by
      unfold f4_merge
      rw [z_bind k3, if_neg a, z_eqF (by decide) (by decide) (by decide), z_bind l3, if_neg d, z_eqF (by decide) (by decide) (by decide), z_eqT xp e]
    have hM : f5_merge x p q = some (0, s5_thr x 2) := by
      unfold f5_merge
      rw [z_bind (hw 2 (fun w => absurd w a) (fun _ w => absurd w d) (fun _ _ _ => rfl) (fun _ _ w => absurd e w)), z_ltT (by decide) (by decide) (by decide)]
    refine ⟨s5_thr x 2, y, o, ?_, zk_thr hG⟩
    refine (z_bb hF (b := ((2 : Int), y, o)) (by dsimp only; rw [z_eqF (by decide) (by decide) (by decide), z_eqF (by decide) (by decide) (by decide), z_eqT (by decide) rfl])).trans ?_
    dsimp only
    rw [z_bind2 hM]
    dsimp only
    rw [z_bind (show f5_thrown (s5_thr x 2) = some 2 from rfl), z_eqT (by decide) rfl, z_eqF (by decide) (by decide) (by decide)]
  · obtain ⟨h', x5, s1, s2, s3⟩ := zs_save2 (zGl_thr (k := 0) hG)
    have hJ5 := zSv_J hG s3
    obtain ⟨v, b', now', t1, t2, t3, t4, t5⟩ := zs_merge hJ5 (by omega) (k4.resolve_left a) (l4.resolve_left d) e
    have hF : f4_merge y p q = some (0, v, s4_bo (s4_hi y h') b') := by
      unfold f4_merge
      rw [z_bind k3, if_neg a, z_eqF (by decide) (by decide) (by decide), z_bind l3, if_neg d, z_eqF (by decide) (by decide) (by decide), z_eqF xp xq e, z_bind s1, z_bind2 t1]
    have hM : f5_merge x p q = some (v, s5_now x5 now') := by
      unfold f5_merge
      rw [z_bind (hw 0 (fun w => absurd w a) (fun _ w => absurd w d) (fun _ _ w => absurd w e) (fun _ _ _ => rfl)), z_ltF (by decide) (by decide) (by decide), z_bind s2, z_bind2 t2]
    have hv : xin (v) := ⟨by omega, by omega⟩
    have et : f5_thrown (s5_now x5 now') = some 0 := congrArg some (zSv_thr s3)
    refine ⟨s5_now x5 now', s4_bo (s4_hi y h') b', x_up o 0 (v), ?_, zGl_act (zGl_thr hG) s3 (zJ_le t3 (by omega)) (by omega)⟩
    refine (z_bb hF (b := ((0 : Int), s4_bo (s4_hi y h') b', x_up o 0 (v))) (by dsimp only; rw [z_eqT (by decide) rfl, z_ckT hv])).trans ?_
    dsimp only
    rw [z_bind2 hM]
    dsimp only
    rw [z_bind et, z_eqT (by decide) rfl, z_eqT (by decide) rfl, z_ckT hv, if_pos z_upS]
theorem zk_mergeLightest : zKK fC_mergeLightest := by
  intro xi i x y o c hx c0 hc hG
  unfold fC_mergeLightest fL_mergeLightest
  have r0 := hG.1.1.R0
  have rl := hG.1.1.R_le
  have h120 := hG.1.1.1.2.1
  have e8 : x_ld 730 (g5_now x) 8 = some (zR (g4_bo y)) := by rw [z_ldT (by decide) (by decide), hG.1.2.1.2.2.2.2.2.2.2.2.1]
  have er : f0_runs (g4_bo y) = some (zR (g4_bo y)) := rfl
  by_cases g : zR (g4_bo y) < 2
  · have hF : f4_mergeLightest y = some (2, 0, y) := by
      unfold f4_mergeLightest
      rw [z_bind er, z_ltT ⟨by omega, by omega⟩ (by decide) g]
    have hM : f5_mergeLightest x = some (0, s5_thr x 1) := by
      unfold f5_mergeLightest
      rw [z_bind e8, z_ltT ⟨by omega, by omega⟩ (by decide) g]
    refine ⟨s5_thr x 1, y, o, ?_, zk_thr hG⟩
    refine (z_bb hF (b := ((1 : Int), y, o)) (by dsimp only; rw [z_eqF (by decide) (by decide) (by decide), z_eqT (by decide) rfl])).trans ?_
    dsimp only
    rw [z_bind2 hM]
    dsimp only
    rw [z_bind (show f5_thrown (s5_thr x 1) = some 1 from rfl), z_eqT (by decide) rfl, z_eqF (by decide) (by decide) (by decide)]
  · obtain ⟨h', x5, s1, s2, s3⟩ := zs_save2 (zGl_thr (k := 0) hG)
    have hJ5 := zSv_J hG s3
    obtain ⟨v, b', now', t1, t2, t3, t4, t5⟩ := zs_light hJ5 (by omega) (by omega)
    have hF : f4_mergeLightest y = some (0, v, s4_bo (s4_hi y h') b') := by
      unfold f4_mergeLightest
      rw [z_bind er, z_ltF ⟨by omega, by omega⟩ (by decide) g, z_bind s1, z_bind2 t1]
    have hM : f5_mergeLightest x = some (v, s5_now x5 now') := by
      unfold f5_mergeLightest
      rw [z_bind e8, z_ltF ⟨by omega, by omega⟩ (by decide) g, z_bind s2, z_bind2 t2]
    have hv : xin (v) := ⟨by omega, by omega⟩
    have et : f5_thrown (s5_now x5 now') = some 0 := congrArg some (zSv_thr s3)
    refine ⟨s5_now x5 now', s4_bo (s4_hi y h') b', x_up o 0 (v), ?_, zGl_act (zGl_thr hG) s3 (zJ_le t3 (by omega)) (by omega)⟩
    refine (z_bb hF (b := ((0 : Int), s4_bo (s4_hi y h') b', x_up o 0 (v))) (by dsimp only; rw [z_eqT (by decide) rfl, z_ckT hv])).trans ?_
    dsimp only
    rw [z_bind2 hM]
    dsimp only
    rw [z_bind et, z_eqT (by decide) rfl, z_eqT (by decide) rfl, z_ckT hv, if_pos z_upS]
theorem zk_storm : zKK fC_storm := by
  intro xi i x y o c hx c0 hc hG
  have xp := hx (i + 1)
  unfold fC_storm fL_storm
  generalize xi (i + 1) = p at xp
  have ei := z5_in xp (l := 1) (h := 9) (by decide) (by decide)
  by_cases g : 1 ≤ p ∧ p ≤ 9
  · obtain ⟨h', x5, s1, s2, s3⟩ := zs_save2 (zGl_thr (k := 0) hG)
    have hJ5 := zSv_J hG s3
    obtain ⟨v, b', now', t1, t2, t3, t4, t5⟩ := zs_storm hJ5 (by omega) g.1 g.2
    have hF : f4_storm y p = some (0, v, s4_bo (s4_hi y h') b') := by
      unfold f4_storm
      rw [z_ltF xp (by decide) (by omega), z_ltF (by decide) xp (by omega), z_bind s1, z_bind2 t1]
    have hM : f5_storm x p = some (v, s5_now x5 now') := by
      unfold f5_storm
      rw [z_bind ei, if_pos g, z_eqF (by decide) (by decide) (by decide), z_bind s2, z_bind2 t2]
    have hv : xin (v) := ⟨by omega, by omega⟩
    have et : f5_thrown (s5_now x5 now') = some 0 := congrArg some (zSv_thr s3)
    refine ⟨s5_now x5 now', s4_bo (s4_hi y h') b', x_up o 0 (v), ?_, zGl_act (zGl_thr hG) s3 (zJ_le t3 (by omega)) (by omega)⟩
    refine (z_bb hF (b := ((0 : Int), s4_bo (s4_hi y h') b', x_up o 0 (v))) (by dsimp only; rw [z_eqT (by decide) rfl, z_ckT hv])).trans ?_
    dsimp only
    rw [z_bind2 hM]
    dsimp only
    rw [z_bind et, z_eqT (by decide) rfl, z_eqT (by decide) rfl, z_ckT hv, if_pos z_upS]
  · have hF : f4_storm y p = some (1, 0, y) := by
      unfold f4_storm
      by_cases d : p < 1
      · rw [z_ltT xp (by decide) d]
      · rw [z_ltF xp (by decide) d, z_ltT (by decide) xp (by omega)]
    have hM : f5_storm x p = some (0, s5_thr x 1) := by
      unfold f5_storm
      rw [z_bind ei, if_neg g, z_eqT (by decide) rfl]
    refine ⟨s5_thr x 1, y, o, ?_, zk_thr hG⟩
    refine (z_bb hF (b := ((1 : Int), y, o)) (by dsimp only; rw [z_eqF (by decide) (by decide) (by decide), z_eqT (by decide) rfl])).trans ?_
    dsimp only
    rw [z_bind2 hM]
    dsimp only
    rw [z_bind (show f5_thrown (s5_thr x 1) = some 1 from rfl), z_eqT (by decide) rfl, z_eqF (by decide) (by decide) (by decide)]
theorem zk_tighten : zKK fC_tighten := by
  intro xi i x y o c hx c0 hc hG
  have xp := hx (i + 1)
  unfold fC_tighten fL_tighten
  generalize xi (i + 1) = p at xp
  obtain ⟨k, k1, k2, k3, k4⟩ := zs_place hG.1.1 hG.1.2.1 xp
  have rl := hG.1.1.R_le
  have h120 := hG.1.1.1.2.1
  have xk : xin k := by rcases k4 with z | z <;> exact ⟨by omega, by omega⟩
  by_cases a : k = -1
  · have hF : f4_tighten y p = some (3, 0, y) := by
      unfold f4_tighten
      rw [z_bind k3, if_pos a, z_eqT (by decide) rfl]
    have hM : f5_tighten x p = some (0, s5_thr x 1) := by
      unfold f5_tighten
      rw [z_bind k2, z_eqT xk a]
    refine ⟨s5_thr x 1, y, o, ?_, zk_thr hG⟩
    refine (z_bb hF (b := ((1 : Int), y, o)) (by dsimp only; rw [z_eqF (by decide) (by decide) (by decide), z_eqT (by decide) rfl])).trans ?_
    dsimp only
    rw [z_bind2 hM]
    dsimp only
    rw [z_bind (show f5_thrown (s5_thr x 1) = some 1 from rfl), z_eqT (by decide) rfl, z_eqF (by decide) (by decide) (by decide)]
  · obtain ⟨h', x5, s1, s2, s3⟩ := zs_save2 (zGl_thr (k := 0) hG)
    have hJ5 := zSv_J hG s3
    obtain ⟨q0, q1, q2⟩ := k4.resolve_left a
    obtain ⟨v, b', now', t1, t2, t3, t4, t5⟩ := zs_tight hJ5 q0 q1
    rw [q2] at t1
    have hF : f4_tighten y p = some (0, v, s4_bo (s4_hi y h') b') := by
      unfold f4_tighten
      rw [z_bind k3, if_neg a, z_eqF (by decide) (by decide) (by decide), z_bind s1, z_bind2 t1]
    have hM : f5_tighten x p = some (v, s5_now x5 now') := by
      unfold f5_tighten
      rw [z_bind k2, z_eqF xk (by decide) a, z_bind s2]
      exact t2
    have hv : xin (v) := ⟨by omega, by omega⟩
    have et : f5_thrown (s5_now x5 now') = some 0 := congrArg some (zSv_thr s3)
    refine ⟨s5_now x5 now', s4_bo (s4_hi y h') b', x_up o 0 (v), ?_, zGl_act (zGl_thr hG) s3 (zJ_le t3 (by omega)) (by omega)⟩
    refine (z_bb hF (b := ((0 : Int), s4_bo (s4_hi y h') b', x_up o 0 (v))) (by dsimp only; rw [z_eqT (by decide) rfl, z_ckT hv])).trans ?_
    dsimp only
    rw [z_bind2 hM]
    dsimp only
    rw [z_bind et, z_eqT (by decide) rfl, z_eqT (by decide) rfl, z_ckT hv, if_pos z_upS]
theorem zk_land : zKK fC_land := by
  intro xi i x y o c hx c0 hc hG
  have xp := hx (i + 1)
  unfold fC_land fL_land
  generalize xi (i + 1) = p at xp
  obtain ⟨k, k1, k2, k3, k4⟩ := zs_place hG.1.1 hG.1.2.1 xp
  have rl := hG.1.1.R_le
  have h120 := hG.1.1.1.2.1
  have xk : xin k := by rcases k4 with z | z <;> exact ⟨by omega, by omega⟩
  by_cases a : k = -1
  · have hF : f4_land y p = some (3, 0, y) := by
      unfold f4_land
      rw [z_bind k3, if_pos a, z_eqT (by decide) rfl]
    have hM : f5_land x p = some (0, s5_thr x 1) := by
      unfold f5_land
      rw [z_bind k2, z_eqT xk a]
    refine ⟨s5_thr x 1, y, o, ?_, zk_thr hG⟩
    refine (z_bb hF (b := ((1 : Int), y, o)) (by dsimp only; rw [z_eqF (by decide) (by decide) (by decide), z_eqT (by decide) rfl])).trans ?_
    dsimp only
    rw [z_bind2 hM]
    dsimp only
    rw [z_bind (show f5_thrown (s5_thr x 1) = some 1 from rfl), z_eqT (by decide) rfl, z_eqF (by decide) (by decide) (by decide)]
  · obtain ⟨q0, q1, q2⟩ := k4.resolve_left a
    obtain ⟨u, u1, u2, u3⟩ := zs_canLand hG.1.1 hG.1.2.1 q0 q1
    rw [q2] at u1 u2
    rcases u3 with e | e
    · subst e
      have hF : f4_land y p = some (2, 0, y) := by
        unfold f4_land
        rw [z_bind k3, if_neg a, z_eqF (by decide) (by decide) (by decide), z_bind u1, z_eqT (by decide) rfl]
      have hM : f5_land x p = some (0, s5_thr x 2) := by
        unfold f5_land
        rw [z_bind k2, z_eqF xk (by decide) a, z_bind u2, z_eqT (by decide) rfl]
      refine ⟨s5_thr x 2, y, o, ?_, zk_thr hG⟩
      refine (z_bb hF (b := ((2 : Int), y, o)) (by dsimp only; rw [z_eqF (by decide) (by decide) (by decide), z_eqF (by decide) (by decide) (by decide), z_eqT (by decide) rfl])).trans ?_
      dsimp only
      rw [z_bind2 hM]
      dsimp only
      rw [z_bind (show f5_thrown (s5_thr x 2) = some 2 from rfl), z_eqT (by decide) rfl, z_eqF (by decide) (by decide) (by decide)]
    · subst e
      obtain ⟨h', x5, s1, s2, s3⟩ := zs_save2 (zGl_thr (k := 0) hG)
      have hJ5 := zSv_J hG s3
      obtain ⟨v, b', now', t1, t2, t3, t4, t5⟩ := zs_land hJ5 q0 q1
      rw [q2] at t1 t2
      have hF : f4_land y p = some (0, v, s4_bo (s4_hi y h') b') := by
        unfold f4_land
        rw [z_bind k3, if_neg a, z_eqF (by decide) (by decide) (by decide), z_bind u1, z_eqF (by decide) (by decide) (by decide), z_bind s1, z_bind2 t1]
      have hM : f5_land x p = some (v, s5_now x5 now') := by
        unfold f5_land
        rw [z_bind k2, z_eqF xk (by decide) a, z_bind u2, z_eqF (by decide) (by decide) (by decide), z_bind s2, t2]
      have hv : xin (v) := ⟨by omega, by omega⟩
      have et : f5_thrown (s5_now x5 now') = some 0 := congrArg some (zSv_thr s3)
      refine ⟨s5_now x5 now', s4_bo (s4_hi y h') b', x_up o 0 (v), ?_, zGl_act (zGl_thr hG) s3 (zJ_le t3 (by omega)) (by omega)⟩
      refine (z_bb hF (b := ((0 : Int), s4_bo (s4_hi y h') b', x_up o 0 (v))) (by dsimp only; rw [z_eqT (by decide) rfl, z_ckT hv])).trans ?_
      dsimp only
      rw [z_bind2 hM]
      dsimp only
      rw [z_bind et, z_eqT (by decide) rfl, z_eqT (by decide) rfl, z_ckT hv, if_pos z_upS]

/-! The text, undo, digest. -/
theorem zk_append : zKK fC_append := by
  intro xi i x y o c hx c0 hc hG
  have xp := hx (i + 1)
  unfold fC_append fL_append
  generalize xi (i + 1) = p at xp
  have ep := z5_in xp (l := 0) (h := 127) (by decide) (by decide)
  obtain ⟨k1, k2, k3, k4⟩ := hG.2.2
  have el : f3_length (g4_tx y) = some (g5_typ x) := congrArg some k1
  by_cases d : 0 ≤ p ∧ p ≤ 127
  · by_cases e : g5_typ x < 100
    · have ea : f2_add 100 (g3_byts (g4_tx y)) p = some (g5_typ x + 1, x_up (g3_byts (g4_tx y)).2 (g5_typ x) p) := by
        have := z2_add (N := 100) (r := g3_byts (g4_tx y)) (v := p) (by omega) (by show _ < (100 : Int); omega) (by omega) (by decide)
        rw [k1] at this; exact this
      have ew : f3_write (g4_tx y) p = some (g5_typ x + 1, s3_byts (g4_tx y) (g5_typ x + 1, x_up (g3_byts (g4_tx y)).2 (g5_typ x) p)) := by
        unfold f3_write
        rw [z_bind ea]
        rfl
      have hF : f4_append y p = some (0, g5_typ x + 1, s4_tx y (s3_byts (g4_tx y) (g5_typ x + 1, x_up (g3_byts (g4_tx y)).2 (g5_typ x) p))) := by
        unfold f4_append
        rw [z_ltF xp (by decide) (by omega), z_ltF (by decide) xp (by omega), z_bind el, z_ltT ⟨by omega, by omega⟩ (by decide) e, z_bind2 ew]
      have hM : f5_append x p = some (g5_typ x + 1, s5_typ (s5_txt (s5_thr x 0) (x_up (g5_txt x) (g5_typ x) p)) (g5_typ x + 1)) := by
        unfold f5_append
        rw [z_bind ep, if_pos d, z_eqF (by decide) (by decide) (by decide), z_eqF ⟨by omega, by omega⟩ (by decide) (by omega), z_bind (z_stT k2 (by show _ < (100 : Int); omega))]
      have hz : zGl (s4_tx y (s3_byts (g4_tx y) (g5_typ x + 1, x_up (g3_byts (g4_tx y)).2 (g5_typ x) p))) (s5_typ (s5_txt (s5_thr x 0) (x_up (g5_txt x) (g5_typ x) p)) (g5_typ x + 1)) c := by
        unfold zGl
        simp only [gs4_tx, gs5_typ, gs5_txt, gs5_thr]
        refine ⟨hG.1, hG.2.1, rfl, by omega, by omega, fun j j0 j1 => ?_⟩
        show x_up (g5_txt x) (g5_typ x) p j = x_up (g3_byts (g4_tx y)).2 (g5_typ x) p j ∧ 0 ≤ x_up (g3_byts (g4_tx y)).2 (g5_typ x) p j ∧ x_up (g3_byts (g4_tx y)).2 (g5_typ x) p j ≤ 127
        by_cases f : j = g5_typ x
        · rw [f, z_upS, z_upS]; exact ⟨rfl, d.1, d.2⟩
        · rw [z_upN f, z_upN f]; exact k4 j j0 (by omega)
      have hv : xin (g5_typ x + 1) := ⟨by omega, by omega⟩
      have et : f5_thrown (s5_typ (s5_txt (s5_thr x 0) (x_up (g5_txt x) (g5_typ x) p)) (g5_typ x + 1)) = some 0 := congrArg some (by simp only [gs5_typ, gs5_txt, gs5_thr])
      refine ⟨s5_typ (s5_txt (s5_thr x 0) (x_up (g5_txt x) (g5_typ x) p)) (g5_typ x + 1), s4_tx y (s3_byts (g4_tx y) (g5_typ x + 1, x_up (g3_byts (g4_tx y)).2 (g5_typ x) p)), x_up o 0 (g5_typ x + 1), ?_, zGl_le hz (by omega)⟩
      refine (z_bb hF (b := ((0 : Int), s4_tx y (s3_byts (g4_tx y) (g5_typ x + 1, x_up (g3_byts (g4_tx y)).2 (g5_typ x) p)), x_up o 0 (g5_typ x + 1))) (by dsimp only; rw [z_eqT (by decide) rfl, z_ckT hv])).trans ?_
      dsimp only
      rw [z_bind2 hM]
      dsimp only
      rw [z_bind et, z_eqT (by decide) rfl, z_eqT (by decide) rfl, z_ckT hv, if_pos z_upS]
    · have hF : f4_append y p = some (2, 0, y) := by
        unfold f4_append
        rw [z_ltF xp (by decide) (by omega), z_ltF (by decide) xp (by omega), z_bind el, z_ltF ⟨by omega, by omega⟩ (by decide) e]
      have hM : f5_append x p = some (0, s5_thr x 2) := by
        unfold f5_append
        rw [z_bind ep, if_pos d, z_eqF (by decide) (by decide) (by decide), z_eqT ⟨by omega, by omega⟩ (by omega)]
      refine ⟨s5_thr x 2, y, o, ?_, zk_thr hG⟩
      refine (z_bb hF (b := ((2 : Int), y, o)) (by dsimp only; rw [z_eqF (by decide) (by decide) (by decide), z_eqF (by decide) (by decide) (by decide), z_eqT (by decide) rfl])).trans ?_
      dsimp only
      rw [z_bind2 hM]
      dsimp only
      rw [z_bind (show f5_thrown (s5_thr x 2) = some 2 from rfl), z_eqT (by decide) rfl, z_eqF (by decide) (by decide) (by decide)]
  · have hF : f4_append y p = some (1, 0, y) := by
      unfold f4_append
      by_cases e : p < 0
      · rw [z_ltT xp (by decide) e]
      · rw [z_ltF xp (by decide) e, z_ltT (by decide) xp (by omega)]
    have hM : f5_append x p = some (0, s5_thr x 1) := by
      unfold f5_append
      rw [z_bind ep, if_neg d, z_eqT (by decide) rfl]
    refine ⟨s5_thr x 1, y, o, ?_, zk_thr hG⟩
    refine (z_bb hF (b := ((1 : Int), y, o)) (by dsimp only; rw [z_eqF (by decide) (by decide) (by decide), z_eqT (by decide) rfl])).trans ?_
    dsimp only
    rw [z_bind2 hM]
    dsimp only
    rw [z_bind (show f5_thrown (s5_thr x 1) = some 1 from rfl), z_eqT (by decide) rfl, z_eqF (by decide) (by decide) (by decide)]
theorem zk_clearText : zKK fC_clearText := by
  intro xi i x y o c hx c0 hc hG
  unfold fC_clearText
  obtain ⟨k1, k2, k3, k4⟩ := hG.2.2
  have hF : f4_clearText y = some (g5_typ x, s4_tx y (s3_byts (g4_tx y) (0, (g3_byts (g4_tx y)).2))) := by
    rw [← k1]
    rfl
  have hM : f5_clearText x = some (g5_typ x, s5_typ (s5_thr x 0) 0) := rfl
  have hz : zGl (s4_tx y (s3_byts (g4_tx y) (0, (g3_byts (g4_tx y)).2))) (s5_typ (s5_thr x 0) 0) c := by
    unfold zGl
    simp only [gs4_tx, gs5_typ, gs5_thr]
    exact ⟨hG.1, hG.2.1, rfl, by decide, by decide, fun j j0 j1 => by omega⟩
  have hv : xin (g5_typ x) := ⟨by omega, by omega⟩
  refine ⟨s5_typ (s5_thr x 0) 0, s4_tx y (s3_byts (g4_tx y) (0, (g3_byts (g4_tx y)).2)), o, ?_, zGl_le hz (by omega)⟩
  rw [z_bind2 hF]
  dsimp only
  rw [z_bind2 hM]
  dsimp only
  rw [z_eqT hv rfl]
theorem zGl_tx {y : BrS} {x : ModS} {c a w : Int} {o : Int → Int} {t : TextS} (h : zGl y x c) (e : g3_byts t = g3_byts (g4_tx y)) : zGl (s4_tx y t) (zXX x a w o) c := by
  unfold zGl zXX
  simp only [gs4_tx, gs5_ors, gs5_wra, gs5_pos]
  rw [e]
  exact h
theorem zk_carryOut : zKK fC_carryOut := by
  intro xi i x y o c hx c0 hc hG
  unfold fC_carryOut
  have hG0 := zGl_thr (k := 0) hG
  have ht : zTx (g4_tx y) (s5_thr x 0) := zTx_of hG0.2.2
  have hL : zLL (g4_tx y) ≤ 100 := by rw [ht.1]; exact ht.2.2.1
  have hL0 : 0 ≤ zLL (g4_tx y) := by rw [ht.1]; exact ht.2.1
  generalize e0 : s3_snds (s3_fsts (s3_knds (g4_tx y) (0, (g3_knds (g4_tx y)).2)) (0, (g3_fsts (g4_tx y)).2)) (0, (g3_snds (g4_tx y)).2) = t0
  have eb : g3_byts t0 = g3_byts (g4_tx y) := by rw [← e0]; rfl
  have ht0 : zTx t0 (s5_thr x 0) := zTx_of (by rw [eb]; exact hG0.2.2)
  have eL : zLL t0 = zLL (g4_tx y) := congrArg Prod.fst eb
  have hz0 : zOr t0 (g5_ors (s5_thr x 0)) 0 := by
    refine ⟨?_, fun j j0 j1 => by omega⟩
    rw [← e0]
    exact ⟨rfl, rfl, rfl⟩
  obtain ⟨t', e, q1, q2, q3⟩ := zs_readL (x := s5_thr x 0) 100 xFU xFU t0 0 0 (g5_ors (s5_thr x 0)) ht0 (by decide) (by omega) (by omega) (by decide) (by decide) hz0 (by unfold xFU; omega) (by unfold xFU; omega)
  have er : f3_readOrders (g4_tx y) = some (e, t') := by
    rw [← q1, ← e0]
    rfl
  have em : f5_carryOut x = f5_carryOut_L17 xFU 0 (zXX (s5_thr x 0) 0 (-1) (g5_ors (s5_thr x 0))) := rfl
  rw [eL] at q3
  rcases q3 with ⟨ee, k', o', r1, r2, r3, r4⟩ | ⟨g0, g1, a', o', r1⟩
  · subst ee
    have hG1 : zGl (s4_tx y t') (zXX (s5_thr x 0) (zLL (g4_tx y)) (-1) o') c := zGl_tx hG0 (q2.trans eb)
    obtain ⟨h', x5, s1, s2, s3⟩ := zs_save2 hG1
    obtain ⟨v, b', now', u1, u2, u3, u4, u5⟩ := zs_carryL (K := k') (t := t') (o := o') r4 r2 k'.toNat xFU xFU 0 (s4_hi (s4_tx y t') h') x5 c rfl s3.2.2.2.2.1 (by rw [s3.1]; exact hG1.1) (by decide) (by omega) (by unfold xFU; omega) (by unfold xFU; omega) (by omega)
    have hF : f4_carryOut y = some (v, s4_bo (s4_hi (s4_tx y t') h') b') := by
      unfold f4_carryOut
      rw [z_bind2 er]
      dsimp only
      rw [z_eqT (by decide) rfl]
      refine (z_bind (show f1_save (g4_hi y) (g4_bo y) = some h' from s1)).trans ?_
      exact u1
    have hM : f5_carryOut x = some (v, s5_now x5 now') := by
      rw [em, r1, z_bind s2]
      exact u2
    have hv : xin (v) := ⟨by omega, by omega⟩
    refine ⟨s5_now x5 now', s4_bo (s4_hi (s4_tx y t') h') b', o, ?_, zGl_act hG1 s3 (zJ_le u3 (by omega)) (by omega)⟩
    rw [z_bind2 hF]
    dsimp only
    rw [z_bind2 hM]
    dsimp only
    rw [z_eqT hv rfl]
  · have hF : f4_carryOut y = some (-10 - e, s4_tx y t') := by
      unfold f4_carryOut
      rw [z_bind2 er]
      dsimp only
      rw [z_eqF ⟨by omega, by omega⟩ (by decide) (by omega)]
    have hM : f5_carryOut x = some (-10 - e, zXX (s5_thr x 0) a' e o') := by
      rw [em, r1]
    have hv : xin (-10 - e) := ⟨by omega, by omega⟩
    refine ⟨zXX (s5_thr x 0) a' e o', s4_tx y t', o, ?_, zGl_le (zGl_tx hG0 (q2.trans eb)) (by omega)⟩
    rw [z_bind2 hF]
    dsimp only
    rw [z_bind2 hM]
    dsimp only
    rw [z_eqT hv rfl]
theorem zk_undo : zKK fC_undo := by
  intro xi i x y o c hx c0 hc hG
  unfold fC_undo fL_undo
  have ha := hG.2.1.1
  have ec : f1_count (g4_hi y) = some (g5_acts x) := congrArg some ha.1
  by_cases g : g5_acts x = 0
  · have hF : f4_undo y = some (2, 0, y) := by
      unfold f4_undo
      rw [z_bind ec, z_eqT ⟨by omega, by omega⟩ g]
    have hM : f5_undo x = some (0, s5_thr x 1) := by
      unfold f5_undo
      rw [z_eqT ⟨by omega, by omega⟩ g]
    refine ⟨s5_thr x 1, y, o, ?_, zk_thr hG⟩
    refine (z_bb hF (b := ((1 : Int), y, o)) (by dsimp only; rw [z_eqF (by decide) (by decide) (by decide), z_eqT (by decide) rfl])).trans ?_
    dsimp only
    rw [z_bind2 hM]
    dsimp only
    rw [z_bind (show f5_thrown (s5_thr x 1) = some 1 from rfl), z_eqT (by decide) rfl, z_eqF (by decide) (by decide) (by decide)]
  · obtain ⟨h', b', now', t1, t2, t3, t4, t5⟩ := zs_undo (x := s5_thr x 0) (g4_bo y) hG.2.1 (by show 0 < g5_acts x; omega)
    have hF : f4_undo y = some (0, g5_acts x - 1, s4_bo (s4_hi y h') b') := by
      unfold f4_undo
      rw [z_bind ec, z_eqF ⟨by omega, by omega⟩ (by decide) g, z_bind2 t1]
      dsimp only
      rw [z_bind (show f1_count h' = some (g5_acts x - 1) from congrArg some t5)]
    have hM : f5_undo x = some (g5_acts x - 1, s5_now (s5_acts (s5_thr x 0) (g5_acts x - 1)) now') := by
      unfold f5_undo
      rw [z_eqF ⟨by omega, by omega⟩ (by decide) g]
      exact t2
    have hz : zGl (s4_bo (s4_hi y h') b') (s5_now (s5_acts (s5_thr x 0) (g5_acts x - 1)) now') c := by
      unfold zGl
      simp only [gs4_bo, gs4_hi, gs5_now, gs5_acts, gs5_thr]
      exact ⟨t4, t3, hG.2.2⟩
    have hv : xin (g5_acts x - 1) := ⟨by omega, by omega⟩
    have et : f5_thrown (s5_now (s5_acts (s5_thr x 0) (g5_acts x - 1)) now') = some 0 := congrArg some (by simp only [gs5_now, gs5_acts, gs5_thr])
    refine ⟨s5_now (s5_acts (s5_thr x 0) (g5_acts x - 1)) now', s4_bo (s4_hi y h') b', x_up o 0 (g5_acts x - 1), ?_, zGl_le hz (by omega)⟩
    refine (z_bb hF (b := ((0 : Int), s4_bo (s4_hi y h') b', x_up o 0 (g5_acts x - 1))) (by dsimp only; rw [z_eqT (by decide) rfl, z_ckT hv])).trans ?_
    dsimp only
    rw [z_bind2 hM]
    dsimp only
    rw [z_bind et, z_eqT (by decide) rfl, z_eqT (by decide) rfl, z_ckT hv, if_pos z_upS]
theorem z4_mixed {h v : Int} (hv : xin v) : f4_mixed h v = some (31 * h + v) := by
  unfold f4_mixed
  rw [z_ckT hv]
theorem zs_dg57 {y : BrS} {x : ModS} (hB : zB (g4_bo y)) (hR : zRel (g4_bo y) (g5_now x)) {p : Int} (p0 : 0 ≤ p) (p1 : p < zn (g4_bo y)) {kk : Int → Int → Option (Int × BrS)} {ll : Int → Int → Option (Int × ModS)} : ∀ (m fu fu2 : Nat) (h w : Int), 0 ≤ w → w + (m : Int) = 5 → m < fu → m < fu2 → ∃ h', f4_digest_L57 y p kk fu h w = kk h' (p + 1) ∧ f5_digest_L57 x p ll fu2 h w = ll h' (p + 1)
  | _, 0, _, _, _, _, _, h, _ => by omega
  | _, _ + 1, 0, _, _, _, _, _, h => by omega
  | 0, fu + 1, fu2 + 1, h, w, w0, wm, _, _ => by
    unfold f4_digest_L57 f5_digest_L57
    rw [z_ltF ⟨by omega, by omega⟩ (by decide) (by omega), z_ltF ⟨by omega, by omega⟩ (by decide) (by omega)]
    exact ⟨h, rfl, rfl⟩
  | m + 1, fu + 1, fu2 + 1, h, w, w0, wm, f1, f2 => by
    obtain ⟨v, t1, t2, t3, t4⟩ := zs_parcel (x := s5_thr x 0) hB hR p0 p1 w0 (by omega)
    have hv : xin v := ⟨by omega, by omega⟩
    obtain ⟨h', q1, q2⟩ := zs_dg57 hB hR p0 p1 (kk := kk) (ll := ll) m fu fu2 (31 * h + v) (w + 1) (by omega) (by omega) (by omega) (by omega)
    refine ⟨h', ?_, ?_⟩
    · unfold f4_digest_L57
      rw [z_ltT ⟨by omega, by omega⟩ (by decide) (by omega), z_bind t1, z_bind (z4_mixed hv), q1]
    · unfold f5_digest_L57
      rw [z_ltT ⟨by omega, by omega⟩ (by decide) (by omega), z_bind t2, z_ckT hv, q2]
theorem zs_dg123 {y : BrS} {x : ModS} (hB : zB (g4_bo y)) (hR : zRel (g4_bo y) (g5_now x)) {p : Int} (p0 : 0 ≤ p) (p1 : p < zR (g4_bo y)) {kk : Int → Int → Option (Int × BrS)} {ll : Int → Int → Option (Int × ModS)} : ∀ (m fu fu2 : Nat) (h w : Int), 0 ≤ w → w + (m : Int) = 6 → m < fu → m < fu2 → ∃ h', f4_digest_L123 y p (zF (g4_bo y) p) kk fu h w = kk h' (p + 1) ∧ f5_digest_L119 x p ll fu2 h w = ll h' (p + 1)
  | _, 0, _, _, _, _, _, h, _ => by omega
  | _, _ + 1, 0, _, _, _, _, _, h => by omega
  | 0, fu + 1, fu2 + 1, h, w, w0, wm, _, _ => by
    unfold f4_digest_L123 f5_digest_L119
    rw [z_ltF ⟨by omega, by omega⟩ (by decide) (by omega), z_ltF ⟨by omega, by omega⟩ (by decide) (by omega)]
    exact ⟨h, rfl, rfl⟩
  | m + 1, fu + 1, fu2 + 1, h, w, w0, wm, f1, f2 => by
    have rl := hB.R_le
    have h120 := hB.1.2.1
    obtain ⟨v, t1, t2, t3, t4⟩ := zs_run (x := s5_thr x 0) hB hR p0 p1 w0 (by omega)
    have hv : xin v := ⟨by omega, by omega⟩
    have en : f5_numberAt (s5_thr x 0) p = some (zF (g4_bo y) p) := by
      unfold f5_numberAt
      rw [z_bind (z_ldT (by omega) (by show _ < (730 : Int); omega))]
      exact congrArg some (hR.2.2.2.2.2.2.2.2.2 p p0 p1).1
    obtain ⟨h', q1, q2⟩ := zs_dg123 hB hR p0 p1 (kk := kk) (ll := ll) m fu fu2 (31 * h + v) (w + 1) (by omega) (by omega) (by omega) (by omega)
    refine ⟨h', ?_, ?_⟩
    · unfold f4_digest_L123
      rw [z_ltT ⟨by omega, by omega⟩ (by decide) (by omega), z_bind t1, z_bind (z4_mixed hv), q1]
    · unfold f5_digest_L119
      rw [z_ltT ⟨by omega, by omega⟩ (by decide) (by omega), z_bind en, z_bind t2, z_ckT hv, q2]
theorem zs_dg43 {y : BrS} {x : ModS} (hB : zB (g4_bo y)) (hR : zRel (g4_bo y) (g5_now x)) : ∀ (m fu fu2 : Nat) (h p : Int), 0 ≤ p → p + (m : Int) = zn (g4_bo y) → m < fu → m < fu2 → ∃ h', f4_digest_L43 y fu h p = f4_digest_L92 y xFU h' 0 ∧ f5_digest_L44 x fu2 h p = f5_digest_L92 x xFU h' 0
  | _, 0, _, _, _, _, _, h, _ => by omega
  | _, _ + 1, 0, _, _, _, _, _, h => by omega
  | 0, fu + 1, fu2 + 1, h, p, p0, pm, _, _ => by
    have h120 := hB.1.2.1
    unfold f4_digest_L43 f5_digest_L44
    rw [z_bind z0_loaded, z_ltF ⟨by omega, by omega⟩ ⟨by omega, by omega⟩ (by omega), z_bind (z5_n hR.1), z_ltF ⟨by omega, by omega⟩ ⟨by omega, by omega⟩ (by omega)]
    exact ⟨h, rfl, rfl⟩
  | m + 1, fu + 1, fu2 + 1, h, p, p0, pm, f1, f2 => by
    have h120 := hB.1.2.1
    obtain ⟨h1, t1, t2⟩ := zs_dg57 hB hR p0 (by omega) (kk := f4_digest_L43 y fu) (ll := f5_digest_L44 x fu2) 5 xFU xFU h 0 (by decide) (by decide) (by unfold xFU; omega) (by unfold xFU; omega)
    obtain ⟨h', q1, q2⟩ := zs_dg43 hB hR m fu fu2 h1 (p + 1) (by omega) (by omega) (by omega) (by omega)
    refine ⟨h', ?_, ?_⟩
    · unfold f4_digest_L43
      rw [z_bind z0_loaded, z_ltT ⟨by omega, by omega⟩ ⟨by omega, by omega⟩ (by omega), t1, q1]
    · unfold f5_digest_L44
      rw [z_bind (z5_n hR.1), z_ltT ⟨by omega, by omega⟩ ⟨by omega, by omega⟩ (by omega), t2, q2]
theorem zs_dg92 {y : BrS} {x : ModS} {c : Int} (hG : zGl y x c) : ∀ (m fu fu2 : Nat) (h p : Int), 0 ≤ p → p + (m : Int) = zR (g4_bo y) → m < fu → m < fu2 → ∃ v t' lf, f4_digest_L92 y fu h p = some (v, s4_tr y t') ∧ f5_digest_L92 x fu2 h p = some (v, s5_lef (s5_thr x 0) lf)
  | _, 0, _, _, _, _, _, h, _ => by omega
  | _, _ + 1, 0, _, _, _, _, _, h => by omega
  | 0, fu + 1, fu2 + 1, h, p, p0, pm, _, _ => by
    have hB := hG.1.1
    have hR := hG.1.2.1
    have h120 := hB.1.2.1
    have rl := hB.R_le
    have ha := hG.2.1.1
    have e8 : x_ld 730 (g5_now x) 8 = some (zR (g4_bo y)) := by rw [z_ldT (by decide) (by decide), hR.2.2.2.2.2.2.2.2.1]
    obtain ⟨v, t1, t2⟩ := zs_nextThrown (x := s5_thr x 0) hB hR
    have hr := z0_next_x hB t1
    have hv : xin v := ⟨by omega, by omega⟩
    obtain ⟨b1, q1, q2⟩ := z0_copy (g4_tr y) hB
    obtain ⟨u, b2, lf, u1, u2, u3, u4⟩ := zs_cbw (x := s5_thr x 0) hG.1 q2
    have hu : xin u := ⟨by omega, by omega⟩
    have hF : f4_costByWeight y = some (u, s4_tr y b2) := by
      unfold f4_costByWeight
      rw [z_bind q1, z_bind2 u1]
      rfl
    have hn : f4_nextThrown y = some v := by
      unfold f4_nextThrown
      rw [z_bind t1]
    have hxa : xin (g5_acts x) := ⟨by omega, by omega⟩
    have hcnt : f1_count (g4_hi (s4_tr y b2)) = some (g5_acts x) := congrArg some ha.1
    refine ⟨31 * (31 * (31 * h + v) + u) + g5_acts x, b2, lf, ?_, ?_⟩
    · unfold f4_digest_L92
      rw [z_bind (show f0_runs (g4_bo y) = some (zR (g4_bo y)) from rfl), z_ltF ⟨by omega, by omega⟩ ⟨by omega, by omega⟩ (by omega), z_bind hn, z_bind (z4_mixed hv), z_bind2 hF]
      dsimp only
      rw [z_bind (z4_mixed hu), z_bind hcnt, z_bind (z4_mixed hxa)]
    · unfold f5_digest_L92
      rw [z_bind e8, z_ltF ⟨by omega, by omega⟩ ⟨by omega, by omega⟩ (by omega), z_bind t2, z_ckT hv, z_bind2 u2]
      dsimp only
      rw [z_ckT hu]
      simp only [gs5_lef, gs5_thr]
      rw [z_ckT hxa]
  | m + 1, fu + 1, fu2 + 1, h, p, p0, pm, f1, f2 => by
    have hB := hG.1.1
    have hR := hG.1.2.1
    have h120 := hB.1.2.1
    have rl := hB.R_le
    have e8 : x_ld 730 (g5_now x) 8 = some (zR (g4_bo y)) := by rw [z_ldT (by decide) (by decide), hR.2.2.2.2.2.2.2.2.1]
    have xf : xin (zF (g4_bo y) p) := hB.xF p p0 (by show p < zR (g4_bo y); omega)
    have en : f5_numberAt (s5_thr x 0) p = some (zF (g4_bo y) p) := by
      unfold f5_numberAt
      rw [z_bind (z_ldT (by omega) (by show _ < (730 : Int); omega))]
      exact congrArg some (hR.2.2.2.2.2.2.2.2.2 p p0 (by omega)).1
    have er : f0_runNumber (g4_bo y) p = some (zF (g4_bo y) p) := by
      unfold f0_runNumber
      rw [z_bind (hB.getF p0 (by omega))]
    obtain ⟨h1, t1, t2⟩ := zs_dg123 hB hR p0 (by omega) (kk := f4_digest_L92 y fu) (ll := f5_digest_L92 x fu2) 6 xFU xFU (31 * h + zF (g4_bo y) p) 0 (by decide) (by decide) (by unfold xFU; omega) (by unfold xFU; omega)
    obtain ⟨v, t', lf, q1, q2⟩ := zs_dg92 hG m fu fu2 h1 (p + 1) (by omega) (by omega) (by omega) (by omega)
    refine ⟨v, t', lf, ?_, ?_⟩
    · unfold f4_digest_L92
      rw [z_bind (show f0_runs (g4_bo y) = some (zR (g4_bo y)) from rfl), z_ltT ⟨by omega, by omega⟩ ⟨by omega, by omega⟩ (by omega), z_bind er, z_bind (z4_mixed xf), t1, q1]
    · unfold f5_digest_L92
      rw [z_bind e8, z_ltT ⟨by omega, by omega⟩ ⟨by omega, by omega⟩ (by omega), z_bind en, z_ckT xf, t2, q2]
theorem zs_dg16 {y : BrS} {x : ModS} {c : Int} (hG : zGl y x c) (hc : c ≤ 1000000000) : ∀ (m fu fu2 : Nat) (h w : Int), 0 ≤ w → w + (m : Int) = 12 → m < fu → m < fu2 → ∃ h', f4_digest_L16 y fu h w = f4_digest_L43 y xFU h' 0 ∧ f5_digest_L17 x fu2 h w = f5_digest_L44 x xFU h' 0
  | _, 0, _, _, _, _, _, h, _ => by omega
  | _, _ + 1, 0, _, _, _, _, _, h => by omega
  | 0, fu + 1, fu2 + 1, h, w, w0, wm, _, _ => by
    unfold f4_digest_L16 f5_digest_L17
    rw [z_ltF ⟨by omega, by omega⟩ (by decide) (by omega), z_ltF ⟨by omega, by omega⟩ (by decide) (by omega)]
    exact ⟨h, rfl, rfl⟩
  | m + 1, fu + 1, fu2 + 1, h, w, w0, wm, f1, f2 => by
    obtain ⟨v, t1, t2, t3, t4⟩ := zs_number (x := s5_thr x 0) hG.1 hc w0 (by omega)
    have hv : xin v := ⟨by omega, by omega⟩
    obtain ⟨h', q1, q2⟩ := zs_dg16 hG hc m fu fu2 (31 * h + v) (w + 1) (by omega) (by omega) (by omega) (by omega)
    refine ⟨h', ?_, ?_⟩
    · unfold f4_digest_L16
      rw [z_ltT ⟨by omega, by omega⟩ (by decide) (by omega), z_bind t1, z_bind (z4_mixed hv), q1]
    · unfold f5_digest_L17
      rw [z_ltT ⟨by omega, by omega⟩ (by decide) (by omega), z_bind t2, z_ckT hv, q2]
theorem zk_digest : zKK fC_digest := by
  intro xi i x y o c hx c0 hc hG
  unfold fC_digest
  have h0 := hG.1.1.1.1
  have h120 := hG.1.1.1.2.1
  have r0 := hG.1.1.R0
  have rl := hG.1.1.R_le
  obtain ⟨k1, k2, k3, k4⟩ := hG.2.2
  have xt : xin (g5_typ x) := ⟨by omega, by omega⟩
  have el : f3_length (g4_tx y) = some (g5_typ x) := congrArg some k1
  obtain ⟨h1, a1, a2⟩ := zs_dg16 hG (by omega) 12 xFU xFU (31 * 3691 + g5_typ x) 0 (by decide) (by decide) (by unfold xFU; omega) (by unfold xFU; omega)
  obtain ⟨h2, b1, b2⟩ := zs_dg43 (x := x) hG.1.1 hG.1.2.1 (zn (g4_bo y)).toNat xFU xFU h1 0 (by decide) (by omega) (by unfold xFU; omega) (by unfold xFU; omega)
  obtain ⟨v, t', lf, d1, d2⟩ := zs_dg92 hG (zR (g4_bo y)).toNat xFU xFU h2 0 (by decide) (by omega) (by unfold xFU; omega) (by unfold xFU; omega)
  have hF : f4_digest y = some (v, s4_tr y t') := by
    unfold f4_digest
    rw [z_bind el, z_bind (z4_mixed xt), a1, b1, d1]
  have hM : f5_digest x = some (v, s5_lef (s5_thr x 0) lf) := by
    unfold f5_digest
    rw [z_ckT xt, show (114421 : Int) = 31 * 3691 by decide, a2, b2, d2]
  refine ⟨s5_lef (s5_thr x 0) lf, s4_tr y t', o, ?_, zGl_le (zGl_lef (zGl_tr (zGl_thr hG))) (by omega)⟩
  rw [z_bind2 hF]
  dsimp only
  rw [z_bind2 hM]
  dsimp only
  rw [if_pos rfl]

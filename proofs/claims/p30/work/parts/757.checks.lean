/-! What the law asks after every act: it is so. -/
section LCHK
variable {y : BrS} {va vh vf : Int → Int} {c : Int}
theorem la_valL (hY : lY y va vh vf c) (hc : c ≤ 1000000000) : ∀ (m fu : Nat) (l : Int) (vo : Int → Int), 0 ≤ l → l + (m : Int) = zC (zH (g4_bo y)) (-2) (zn (g4_bo y)) → m < fu → fL_areValues_L26 va vh vf (zC (zH (g4_bo y)) (-1) (zn (g4_bo y))) (zC (zH (g4_bo y)) (-2) (zn (g4_bo y))) fu l vo y = some (1, y)
  | 0, 0, _, _, _, _, q => by omega
  | m + 1, 0, _, _, _, _, q => by omega
  | 0, fu + 1, l, vo, l0, lm, _ => by
    have hB := hY.1.1
    have hR := hY.1.2.1
    obtain ⟨t1, t2, t3, t4, t5⟩ := hY.1.2.2
    have h120 := hB.1.2.1
    have h00 := hB.1.1
    have hRl := hB.R_le
    have r0 := hB.R0
    have hf0 := hB.2.2.2.1.1.2.1
    have hrm := hB.2.2.2.2.2
    have c1 := zC_nonneg (zH (g4_bo y)) (-1) (zn (g4_bo y))
    have c2 := zC_le (zH (g4_bo y)) (-1) h00
    have c3 := zC_nonneg (zH (g4_bo y)) (-2) (zn (g4_bo y))
    have c4 := zC_le (zH (g4_bo y)) (-2) h00
    obtain ⟨v, n1, n2, n3⟩ := lr_nextThrown hB hR
    have n1' : f4_nextThrown y = some v := by
      unfold f4_nextThrown
      rw [z_bind n1]
    unfold fL_areValues_L26
    rw [z_ltF ⟨by omega, by omega⟩ ⟨by omega, by omega⟩ (by omega), z_bind (lh_ashore_1 (l_ashoreNo hB))]
    dsimp only
    rw [z_eqT (by decide) rfl, z_bind2 (l_value (by decide) (by decide) l_num0)]
    dsimp only
    rw [z_zr0, z_bind hR.ld1, z_eqT ⟨by omega, by omega⟩ rfl, z_bind2 (l_value (by decide) (by decide) (l_num1 hB))]
    dsimp only
    rw [z_zr0, z_eqT ⟨by omega, by omega⟩ rfl, z_bind2 (l_value (by decide) (by decide) l_num2)]
    dsimp only
    rw [z_zr0, z_bind hR.ld0, z_eqT ⟨by omega, by omega⟩ rfl, z_bind2 (l_value (by decide) (by decide) l_num3)]
    dsimp only
    rw [z_zr0, z_bind (lr_runs hB hR), z_eqT ⟨by omega, by omega⟩ rfl, z_bind2 (l_value (by decide) (by decide) (l_num4 hB))]
    dsimp only
    rw [z_zr0, z_bind hR.ld0, z_eqT ⟨by omega, by omega⟩ rfl, z_bind2 (l_value (by decide) (by decide) (l_num5 hB))]
    dsimp only
    rw [z_zr0, z_eqT ⟨by omega, by omega⟩ rfl, z_bind2 (l_value (by decide) (by decide) l_num6)]
    dsimp only
    rw [z_zr0, z_bind hR.ld4, z_eqT ⟨by omega, by omega⟩ rfl, z_bind2 (l_value (by decide) (by decide) l_num7)]
    dsimp only
    rw [z_zr0, z_bind hR.ld5, z_eqT ⟨by omega, by omega⟩ rfl, z_bind2 (l_value (by decide) (by decide) l_num8)]
    dsimp only
    rw [z_zr0, z_bind hR.ld6, z_eqT ⟨by omega, by omega⟩ rfl, z_bind2 (l_value (by decide) (by decide) l_num9)]
    dsimp only
    rw [z_zr0, z_bind hR.ld7, z_eqT ⟨by omega, by omega⟩ rfl, z_bind2 (l_value (by decide) (by decide) l_num10)]
    dsimp only
    rw [z_zr0, z_bind hR.ld2, z_eqT hB.opn_x rfl, z_bind2 (l_value (by decide) (by decide) l_num11)]
    dsimp only
    rw [z_zr0, z_bind hR.ld3, z_eqT ⟨by omega, by omega⟩ rfl, z_bind n1', z_bind n2, z_eqT n3 rfl]
  | m + 1, fu + 1, l, vo, l0, lm, q => by
    have hB := hY.1.1
    have hR := hY.1.2.1
    have h120 := hB.1.2.1
    have h00 := hB.1.1
    have c4 := zC_le (zH (g4_bo y)) (-2) h00
    obtain ⟨p, e1, p0, p1, p2, p3⟩ := z0_parcelAt hB (h := -2) (k := l) (by decide) l0 (by omega)
    have p3' : zRk (zK (g4_bo y)) (zH (g4_bo y)) (zn (g4_bo y)) (-2) p = l := p3
    have e2 : fL_ranked va vh 2 (-1) l = some p := by
      rw [← p3']
      exact lq_rankedAt hR.1 hR.h0 (by decide) (by decide) (by decide) (by decide) p0 p1 p2
    unfold fL_areValues_L26
    rw [z_ltT ⟨by omega, by omega⟩ ⟨by omega, by omega⟩ (by omega), z_bind (lh_ashore_0 (l_ashore hB l0 (by omega) e1))]
    dsimp only
    rw [z_eqT (by decide) rfl, z_bind l_o, z_bind e2, z_eqT ⟨by omega, by omega⟩ rfl]
    exact la_valL hY hc m fu (l + 1) _ (by omega) (by omega) (by omega)
theorem la_values (hY : lY y va vh vf c) (hc : c ≤ 1000000000) : fL_areValues va vh vf y = some (1, y) := by
  have hR := hY.1.2.1
  have hn := hR.1.1
  have h00 := hY.1.1.1.1
  have c3 := zC_nonneg (zH (g4_bo y)) (-2) (zn (g4_bo y))
  have c4 := zC_le (zH (g4_bo y)) (-2) h00
  unfold fL_areValues
  rw [z_bind (lr_many0 hR), z_bind (lr_many2 hR)]
  exact la_valL hY hc (zC (zH (g4_bo y)) (-2) (zn (g4_bo y))).toNat 70 0 _ (by omega) (by omega) (by omega)
theorem la_runsI (hY : lY y va vh vf c) {i l6 : Int} (i0 : 0 ≤ i) (i1 : i < zR (g4_bo y)) {kk : Int → (Int → Int) → BrS → Option (Int × BrS)} : ∀ (m fu : Nat) (l : Int) (vo : Int → Int), 0 ≤ l → l + (m : Int) = zC (zH (g4_bo y)) (zF (g4_bo y) i) (zn (g4_bo y)) → m < fu → ∃ vo', fL_areRuns_L178 va vh l6 (zF (g4_bo y) i) (zC (zH (g4_bo y)) (zF (g4_bo y) i) (zn (g4_bo y))) kk fu l vo y = kk (l6 + 1) vo' y
  | 0, 0, _, _, _, _, q => by omega
  | m + 1, 0, _, _, _, _, q => by omega
  | 0, fu + 1, l, vo, l0, lm, _ => by
    have hB := hY.1.1
    have h120 := hB.1.2.1
    have h00 := hB.1.1
    have c4 := zC_le (zH (g4_bo y)) (zF (g4_bo y) i) h00
    unfold fL_areRuns_L178
    rw [z_ltF ⟨by omega, by omega⟩ ⟨by omega, by omega⟩ (by omega), z_bind (lh_inRun_2 (l_inRunNo hB i0 i1))]
    dsimp only
    rw [z_eqT (by decide) rfl]
    exact ⟨_, rfl⟩
  | m + 1, fu + 1, l, vo, l0, lm, q => by
    have hB := hY.1.1
    have hR := hY.1.2.1
    have h120 := hB.1.2.1
    have h00 := hB.1.1
    have hf := hR.2.2.2
    have hi := hB.2.2.2.1.2.2.1 i i0 i1
    have c4 := zC_le (zH (g4_bo y)) (zF (g4_bo y) i) h00
    obtain ⟨p, e1, p0, p1, p2, p3⟩ := z0_parcelAt hB (h := zF (g4_bo y) i) (k := l) (hB.xF i i0 i1) l0 (by omega)
    have p3' : zRk (zK (g4_bo y)) (zH (g4_bo y)) (zn (g4_bo y)) (zF (g4_bo y) i) p = l := p3
    have e2 : fL_ranked va vh 1 (zF (g4_bo y) i) l = some p := by
      rw [← p3']
      exact lq_rankedAt hR.1 hR.h0 (zwh_run hi.1) (zof_0 hi.1).symm (by omega) (by omega) p0 p1 p2
    unfold fL_areRuns_L178
    rw [z_ltT ⟨by omega, by omega⟩ ⟨by omega, by omega⟩ (by omega), z_bind (lh_inRun_0 (l_inRun hB i0 i1 l0 (by omega) e1))]
    dsimp only
    rw [z_eqT (by decide) rfl, z_bind l_o, z_bind e2, z_eqT ⟨by omega, by omega⟩ rfl]
    exact la_runsI hY i0 i1 m fu (l + 1) _ (by omega) (by omega) (by omega)
theorem la_runsL (hY : lY y va vh vf c) : ∀ (m fu : Nat) (i : Int) (vo : Int → Int), 0 ≤ i → i + (m : Int) = zR (g4_bo y) → m < fu → fL_areRuns_L15 va vh vf (zR (g4_bo y)) fu i vo y = some (1, y)
  | 0, 0, _, _, _, _, q => by omega
  | m + 1, 0, _, _, _, _, q => by omega
  | 0, fu + 1, i, vo, i0, im, _ => by
    have hB := hY.1.1
    have hR := hY.1.2.1
    have h120 := hB.1.2.1
    have hRl := hB.R_le
    have hf0 := hB.2.2.2.1.1.2.1
    have hf := hR.2.2.2
    unfold fL_areRuns_L15
    rw [z_ltF ⟨by omega, by omega⟩ ⟨by omega, by omega⟩ (by omega), z_bind (lh_runAt_1 (l_runAtNo hB ⟨by omega, by omega⟩ (Or.inr (Int.le_refl _))))]
    dsimp only
    rw [z_eqT (by decide) rfl, z_bind (lh_runAt_1 (l_runAtNo hB (by decide) (Or.inl (by decide))))]
    dsimp only
    rw [z_eqT (by decide) rfl, z_bind hR.ld3, z_bind (lh_inRun_1 (l_inRunGone (l_hasNo hB ⟨by omega, by omega⟩ (l_flo hB))))]
    dsimp only
    rw [z_eqT (by decide) rfl]
  | m + 1, fu + 1, i, vo, i0, im, q => by
    have hB := hY.1.1
    have hR := hY.1.2.1
    have hn := hR.1.1
    have h120 := hB.1.2.1
    have h00 := hB.1.1
    have hRl := hB.R_le
    have hf := hR.2.2.2
    have i1 : i < zR (g4_bo y) := by omega
    have hi := hB.2.2.2.1.2.2.1 i i0 i1
    have xF : xin (zF (g4_bo y) i) := ⟨by omega, by omega⟩
    have hg := hB.G_rng i0 i1
    have c3 := zC_nonneg (zH (g4_bo y)) (zF (g4_bo y) i) (zn (g4_bo y))
    have c4 := zC_le (zH (g4_bo y)) (zF (g4_bo y) i) h00
    obtain ⟨p, e1, p0, p1, hp⟩ := z0_first hB i0 i1
    obtain ⟨t, e2, ht⟩ := z0_lastAt hB (h := zF (g4_bo y) i) (hB.xF i i0 i1)
    obtain ⟨w, w0, w1, hw⟩ := hi.2.2.2.2.2
    have nt := zMin_some ht w0 w1 hw
    have rt := zMin_rng ht nt
    have hkp := hB.1.2.2 p p0 p1
    have hkt := hB.1.2.2 t rt.1 rt.2.1
    have l1 := lr_first hR (g := zF (g4_bo y) i) (zwh_run hi.1) (zof_0 hi.1).symm (by omega) (by omega) (by omega) hp
    have l2 := lr_lastOf hR hi.1 (by omega) nt ht
    have l3 : x_ld 64 vf (zF (g4_bo y) i) = some (zS (g4_bo y) i) := by rw [z_ldT hi.1 (by show zF (g4_bo y) i < (64 : Int); omega), hR.2.2.1.1 i i0 i1]
    obtain ⟨vo', e3⟩ := la_runsI hY (l6 := i) i0 i1 (kk := fL_areRuns_L15 va vh vf (zR (g4_bo y)) fu) (zC (zH (g4_bo y)) (zF (g4_bo y) i) (zn (g4_bo y))).toNat 70 0 (x_up vo 0 (zF (g4_bo y) i)) (by omega) (by omega) (by omega)
    have ih := la_runsL hY m fu (i + 1) vo' (by omega) (by omega) (by omega)
    unfold fL_areRuns_L15
    rw [z_ltT ⟨by omega, by omega⟩ ⟨by omega, by omega⟩ i1, z_bind (lr_runBy hB hR i0 i1), z_bind (lr_manyR hR hi.1 (by omega)), z_bind (lh_runAt_0 (l_runAt hB i0 i1))]
    dsimp only
    rw [z_eqT (by decide) rfl, z_bind l_o, z_eqT xF rfl, z_bind2 (l_run hB i0 i1 (by decide) (by decide) (l_rf0 hB i0 i1))]
    dsimp only
    rw [z_zr0, z_eqT ⟨by omega, by omega⟩ rfl, z_bind2 (l_run hB i0 i1 (by decide) (by decide) (l_rf1 hB i0 i1))]
    dsimp only
    rw [z_zr0, z_bind (lr_weighs hR hB i0 i1), z_eqT ⟨by omega, by omega⟩ rfl, z_bind2 (l_run hB i0 i1 (by decide) (by decide) (l_rf2 hB i0 i1))]
    dsimp only
    rw [z_zr0, z_bind l3, z_eqT ⟨by omega, by omega⟩ rfl, z_bind2 (l_run hB i0 i1 (by decide) (by decide) (l_rf3 hB e1 p0 p1))]
    dsimp only
    rw [z_zr0, z_bind l1, z_bind (lq_key hR.1 p0 p1), z_eqT ⟨by omega, by omega⟩ rfl, z_bind2 (l_run hB i0 i1 (by decide) (by decide) (l_rf4 hB e2 rt.1 rt.2.1))]
    dsimp only
    rw [z_zr0, z_bind l2, z_bind (lq_key hR.1 rt.1 rt.2.1), z_eqT ⟨by omega, by omega⟩ rfl, z_bind2 (l_run hB i0 i1 (by decide) (by decide) (l_rf5 hB i0 i1))]
    dsimp only
    rw [z_zr0, z_bind hR.ld2]
    by_cases d : g0_opn (g4_bo y) = zF (g4_bo y) i
    · rw [if_pos d, z_eqT hB.opn_x d, z_eqT (by decide) rfl, e3]
      exact ih
    · rw [if_neg d, z_eqF hB.opn_x xF d, z_eqT (by decide) rfl, e3]
      exact ih
theorem la_runs (hY : lY y va vh vf c) : fL_areRuns va vh vf y = some (1, y) := by
  have hB := hY.1.1
  have hR := hY.1.2.1
  have hn := hR.1.1
  have hRl := hB.R_le
  have r0 := hB.R0
  unfold fL_areRuns
  rw [z_bind (lr_runs hB hR)]
  exact la_runsL hY (zR (g4_bo y)).toNat 70 0 _ (by omega) (by omega) (by omega)
theorem la_parL (hY : lY y va vh vf c) : ∀ (m fu : Nat) (p : Int) (vo : Int → Int), 0 ≤ p → p + (m : Int) = zn (g4_bo y) → m < fu → fL_areParcels_L7 va vh fu p vo y = some (1, y)
  | 0, 0, _, _, _, _, q => by omega
  | m + 1, 0, _, _, _, _, q => by omega
  | 0, fu + 1, p, vo, p0, pm, _ => by
    have hB := hY.1.1
    have hR := hY.1.2.1
    have hn := hR.1.1
    unfold fL_areParcels_L7
    rw [z_bind hR.ld0, z_ltF ⟨by omega, by omega⟩ ⟨by omega, by omega⟩ (by omega), z_bind hR.ld0, z_bind (lh_parcel_1 (l_parcelNo hB ⟨by omega, by omega⟩ (Or.inr (Int.le_refl _))))]
    dsimp only
    rw [z_eqT (by decide) rfl, z_bind (lh_parcel_1 (l_parcelNo hB (by decide) (Or.inl (by decide))))]
    dsimp only
    rw [z_eqT (by decide) rfl, z_bind hR.ld0]
    by_cases d : zn (g4_bo y) = 0
    · rw [z_eqT ⟨by omega, by omega⟩ d]
    · rw [z_eqF ⟨by omega, by omega⟩ (by decide) d, z_bind (lh_parcel_2 (l_parcelW hB (by decide) (by omega)))]
      dsimp only
      rw [z_eqT (by decide) rfl]
  | m + 1, fu + 1, p, vo, p0, pm, q => by
    have hB := hY.1.1
    have hR := hY.1.2.1
    have hn := hR.1.1
    have p1 : p < zn (g4_bo y) := by omega
    have hp := hB.1.2.2 p p0 p1
    have hA := (hR.1.2 p p0 p1).2.2.2
    have r2 := zof_rng hA.2
    have rk := zRk_rng (zK (g4_bo y)) (zH (g4_bo y)) hB.1.1 (zH (g4_bo y) p) p
    unfold fL_areParcels_L7
    rw [z_bind hR.ld0, z_ltT ⟨by omega, by omega⟩ ⟨by omega, by omega⟩ p1, z_bind (lh_parcel_0 (l_parcel hB p0 p1 (by decide) (by decide) (l_pf0 hB p0 p1)))]
    dsimp only
    rw [z_eqT (by decide) rfl, z_bind l_o, z_bind (lq_key hR.1 p0 p1), z_eqT ⟨by omega, by omega⟩ rfl, z_bind (lh_parcel_0 (l_parcel hB p0 p1 (by decide) (by decide) (l_pf1 hB p0 p1)))]
    dsimp only
    rw [z_eqT (by decide) rfl, z_bind l_o, z_bind (lq_weight hR.1 p0 p1), z_eqT ⟨by omega, by omega⟩ rfl, z_bind (lh_parcel_0 (l_parcel hB p0 p1 (by decide) (by decide) (l_pf2 hB p0 p1)))]
    dsimp only
    rw [z_eqT (by decide) rfl, z_bind l_o, z_bind (lq_where hR.1 p0 p1), z_eqT (l_wxin _) rfl, z_bind (lh_parcel_0 (l_parcel hB p0 p1 (by decide) (by decide) (l_pf3 hB p0 p1)))]
    dsimp only
    rw [z_eqT (by decide) rfl, z_bind l_o, z_bind (lq_run hR.1 p0 p1), z_eqT ⟨by omega, by omega⟩ rfl, z_bind (lh_parcel_0 (l_parcel hB p0 p1 (by decide) (by decide) (l_pf4 hB p0 p1)))]
    dsimp only
    rw [z_eqT (by decide) rfl, z_bind (lq_where hR.1 p0 p1)]
    by_cases d : zH (g4_bo y) p = -1
    · rw [if_pos d, z_eqT (l_wxin _) (zwh_0.mpr d), z_bind l_o, z_eqT (by decide) rfl]
      exact la_parL hY m fu (p + 1) _ (by omega) (by omega) (by omega)
    · rw [if_neg d, z_eqF (l_wxin _) (by decide) (fun z => d (zwh_0.mp z)), z_bind (lq_where hR.1 p0 p1), z_bind (lq_run hR.1 p0 p1), z_bind l_o, z_bind (lq_rankedAt hR.1 hR.h0 rfl rfl hA.1 hA.2 p0 p1 rfl), z_eqT ⟨by omega, by omega⟩ rfl]
      exact la_parL hY m fu (p + 1) _ (by omega) (by omega) (by omega)
theorem la_parcels (hY : lY y va vh vf c) : fL_areParcels va vh y = some (1, y) := by
  have hn := hY.1.2.1.1.1
  unfold fL_areParcels
  exact la_parL hY (zn (g4_bo y)).toNat 70 0 _ (by omega) (by omega) (by omega)
end LCHK

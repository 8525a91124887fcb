/-! What can be asked of parcels, runs, numbers. -/
theorem xS_ind {P : Int → Prop} [∀ p, Decidable (P p)] {n : Int} (hn : 0 ≤ n) : 0 ≤ xS (fun q => if P q then 1 else 0) 0 n.toNat ∧ xS (fun q => if P q then 1 else 0) 0 n.toNat ≤ n := by
  constructor
  · exact xS_nonneg _ _ (fun q _ _ => by split <;> omega)
  · have := xS_le (f := fun q => if P q then 1 else 0) (g := fun _ => 1) n.toNat 0 (fun q _ _ => by split <;> omega)
    rw [xS_one] at this
    omega
theorem zs_parcel {b : BoatS} {x : ModS} (hB : zB b) (hR : zRel b (g5_now x)) {p w : Int} (p0 : 0 ≤ p) (p1 : p < zn b) (w0 : 0 ≤ w) (w1 : w < 5) : ∃ v, f0_parcelFact b p w = some v ∧ f5_parcelBy x p w = some v ∧ -1 ≤ v ∧ v ≤ 1000000000 := by
  have h120 := hB.1.2.1
  have hp := hB.1.2.2 p p0 p1
  have xH : xin (zH b p) := hB.xH p p0 p1
  unfold f0_parcelFact f5_parcelBy
  rw [z_bind (hB.getH p0 p1)]
  by_cases e0 : w = 0
  · subst e0
    rw [z_eqT (by decide) rfl, z_ltT (by decide) (by decide) (by decide), z_bind (hB.getK p0 p1), z_bind (z5_ofK hR.1 hB.1 p0 p1)]
    exact ⟨_, rfl, rfl, by omega, by omega⟩
  rw [z_eqF ⟨by omega, by omega⟩ (by decide) e0]
  by_cases e1 : w = 1
  · subst e1
    rw [z_eqT (by decide) rfl, z_ltT (by decide) (by decide) (by decide), z_bind (hB.getW p0 p1), z_bind (z5_ofW hR.1 hB.1 p0 p1)]
    exact ⟨_, rfl, rfl, by omega, by omega⟩
  rw [z_eqF ⟨by omega, by omega⟩ (by decide) e1]
  by_cases e2 : w = 2
  · subst e2
    rw [z_eqT (by decide) rfl, z_ltT (by decide) (by decide) (by decide), z_bind (z5_ofA hR.1 hB.1 p0 p1)]
    by_cases a : zH b p = -1
    · rw [z_eqT xH a, zwh_0.mpr a]; exact ⟨_, rfl, rfl, by omega, by omega⟩
    · rw [z_eqF xH (by decide) a]
      by_cases c : zH b p = -2
      · rw [z_eqT xH c, zwh_2.mpr c]; exact ⟨_, rfl, rfl, by omega, by omega⟩
      · rw [z_eqF xH (by decide) c, (zwh_1 hp.2.2.2.2.1).mpr (by omega)]; exact ⟨_, rfl, rfl, by omega, by omega⟩
  rw [z_eqF ⟨by omega, by omega⟩ (by decide) e2, z_ltF ⟨by omega, by omega⟩ (by decide) (by omega), z_bind (z5_ofA hR.1 hB.1 p0 p1), z_bind (z5_ofO hR.1 hB.1 p0 p1), z_bind (z5_ofA hR.1 hB.1 p0 p1)]
  by_cases e3 : w = 3
  · subst e3
    rw [z_eqT (by decide) rfl, z_eqT (by decide) rfl]
    by_cases a : zH b p = -1
    · rw [z_eqT xH a, z_eqF (zwh_xin _) (by decide) (by rw [zwh_0.mpr a]; decide)]; exact ⟨_, rfl, rfl, by omega, by omega⟩
    · rw [z_eqF xH (by decide) a]
      by_cases c : zH b p = -2
      · rw [z_eqT xH c, z_eqF (zwh_xin _) (by decide) (by rw [zwh_2.mpr c]; decide)]; exact ⟨_, rfl, rfl, by omega, by omega⟩
      · rw [z_eqF xH (by decide) c, z_eqT (zwh_xin _) ((zwh_1 hp.2.2.2.2.1).mpr (by omega)), zof_0 (by omega)]; exact ⟨_, rfl, rfl, by omega, by omega⟩
  · rw [z_eqF ⟨by omega, by omega⟩ (by decide) e3, z_eqF ⟨by omega, by omega⟩ (by decide) e3, z_bind (z0_placeOf hB p0 p1), z_bind (z5_placeIn hR.1 hB.1 p0 p1)]
    have hi := xS_ind (P := fun q => zH b q = zH b p ∧ zl (zK b) q p) hB.1.1
    by_cases a : zH b p = -1
    · rw [z_eqT xH a, z_eqT (zwh_xin _) (zwh_0.mpr a)]; exact ⟨_, rfl, rfl, by omega, by omega⟩
    · rw [z_eqF xH (by decide) a, z_eqF (zwh_xin _) (by decide) (fun z => a (zwh_0.mp z))]; exact ⟨_, rfl, rfl, by omega, by omega⟩
theorem zs_run {b : BoatS} {x : ModS} (hB : zB b) (hR : zRel b (g5_now x)) {i w : Int} (i0 : 0 ≤ i) (i1 : i < zR b) (w0 : 0 ≤ w) (w1 : w < 6) : ∃ v, f0_runFact b (zF b i) w = some v ∧ f5_runBy x (zF b i) w = some v ∧ -1 ≤ v ∧ v ≤ 1000000000 := by
  have h0 := hB.1.1
  have h120 := hB.1.2.1
  have hRl := hB.R_le
  have hi := hB.2.2.2.1.2.2.1 i i0 i1
  have xF : xin (zF b i) := hB.xF i i0 i1
  have h9 := hR.2.2.2.2.2.2.2.2.2 i i0 i1
  have hpl : f5_placeOf x (zF b i) = some i := z5_placeAt hB hR.2.2.2.2.2.2.2.2.1 (fun k k0 k1 => (hR.2.2.2.2.2.2.2.2.2 k k0 k1).1) i0 i1
  unfold f0_runFact f5_runBy
  by_cases e0 : w = 0
  · rw [z_eqT ⟨by omega, by omega⟩ e0, z_eqT ⟨by omega, by omega⟩ e0, z_bind (z0_countAt hB xF), z_bind (z5_manyOf hR.1 hB.1 hi.1 xF)]
    have := xS_ind (P := fun q => zH b q = zF b i) h0
    exact ⟨_, rfl, rfl, by unfold zC; omega, by unfold zC; omega⟩
  rw [z_eqF ⟨by omega, by omega⟩ (by decide) e0, z_eqF ⟨by omega, by omega⟩ (by decide) e0]
  by_cases e1 : w = 1
  · have hg := hB.G_rng i0 i1
    rw [z_eqT ⟨by omega, by omega⟩ e1, z_eqT ⟨by omega, by omega⟩ e1, z_bind (hB.idxAt i0 i1), z_bind (hB.getG i0 i1), z_bind (z5_weightOf hR.1 hB.1 hi.1 xF), ← hi.2.2.2.2.1]
    exact ⟨_, rfl, rfl, by omega, by omega⟩
  rw [z_eqF ⟨by omega, by omega⟩ (by decide) e1, z_eqF ⟨by omega, by omega⟩ (by decide) e1]
  by_cases e2 : w = 2
  · rw [z_eqT ⟨by omega, by omega⟩ e2, z_eqT ⟨by omega, by omega⟩ e2, z_bind (hB.idxAt i0 i1), z_bind (hB.getS i0 i1), z_bind hpl, z_bind (z_ldT (by omega) (by show _ < (730 : Int); omega)), h9.2]
    exact ⟨_, rfl, rfl, by omega, by omega⟩
  rw [z_eqF ⟨by omega, by omega⟩ (by decide) e2, z_eqF ⟨by omega, by omega⟩ (by decide) e2]
  by_cases e3 : w = 3
  · obtain ⟨r, t1, r0, r1, hr⟩ := z0_first hB i0 i1
    obtain ⟨r2, t2, hr2⟩ := z5_firstOf hR.1 hB.1 (r := zF b i) hi.1 xF
    rw [zMin_uniq (fun _ _ => zl_asym) hr2 hr] at t2
    have hk := hB.1.2.2 r r0 r1
    rw [z_eqT ⟨by omega, by omega⟩ e3, z_eqT ⟨by omega, by omega⟩ e3, z_bind t1, z_bind t2, z_bind (hB.getK r0 r1), z_bind (z5_ofK hR.1 hB.1 r0 r1)]
    exact ⟨_, rfl, rfl, by omega, by omega⟩
  rw [z_eqF ⟨by omega, by omega⟩ (by decide) e3, z_eqF ⟨by omega, by omega⟩ (by decide) e3]
  by_cases e4 : w = 4
  · obtain ⟨r, t1, hr⟩ := z0_lastAt hB (h := zF b i) xF
    obtain ⟨r2, t2, hr2⟩ := z5_lastOf hR.1 hB.1 (r := zF b i) hi.1 xF
    rw [zMin_uniq (fun _ _ => zl_asym) hr2 hr] at t2
    obtain ⟨p, p0, p1, hp⟩ := hi.2.2.2.2.2
    have rr := zMin_rng hr (zMin_some hr p0 p1 hp)
    have hk := hB.1.2.2 r rr.1 rr.2.1
    rw [z_eqT ⟨by omega, by omega⟩ e4, z_eqT ⟨by omega, by omega⟩ e4, z_bind t1, z_bind t2, z_bind (hB.getK rr.1 rr.2.1), z_bind (z5_ofK hR.1 hB.1 rr.1 rr.2.1)]
    exact ⟨_, rfl, rfl, by omega, by omega⟩
  · rw [z_eqF ⟨by omega, by omega⟩ (by decide) e4, z_eqF ⟨by omega, by omega⟩ (by decide) e4, z_bind (show x_ld 730 (g5_now x) 6 = some (g0_opn b) by rw [z_ldT (by decide) (by decide), hR.2.2.2.2.2.2.1])]
    by_cases c : g0_opn b = zF b i
    · rw [z_eqT hB.opn_x c]; exact ⟨_, rfl, rfl, by omega, by omega⟩
    · rw [z_eqF hB.opn_x xF c]; exact ⟨_, rfl, rfl, by omega, by omega⟩
theorem zs_number {b : BoatS} {x : ModS} {c : Int} (hJ : zJ b (g5_now x) c) (hc : c ≤ 1000000000) {w : Int} (w0 : 0 ≤ w) (w1 : w < 12) : ∃ v, f0_number b w = some v ∧ f5_valueBy x w = some v ∧ -1 ≤ v ∧ v ≤ 1000000000 := by
  have hB := hJ.1
  have hT := hJ.2.2
  have h0 := hB.1.1
  have h120 := hB.1.2.1
  have hRl := hB.R_le
  have r0 := hB.R0
  have hrm := hB.2.2.2.2.2
  have hf := hB.2.2.2.1.1
  obtain ⟨hm, q0, q2, q3, q4, q5, q6, q7, q8, q9⟩ := hJ.2.1
  obtain ⟨t1, t2, t3, t4, t5⟩ := hT
  have c1 := zC_nonneg (zH b) (-1) (zn b)
  have c2 := zC_le (zH b) (-1) h0
  have c3 := zC_nonneg (zH b) (-2) (zn b)
  have c4 := zC_le (zH b) (-2) h0
  have ld : ∀ k v, 0 ≤ k → k < 730 → g5_now x k = v → x_ld 730 (g5_now x) k = some v := fun k v k0 k1 e => by rw [z_ldT k0 (by show k < (730 : Int); exact k1), e]
  have fin : ∀ v : Int, -1 ≤ v → v ≤ 1000000000 → ∃ v', some v = some v' ∧ some v = some v' ∧ -1 ≤ v' ∧ v' ≤ 1000000000 := fun v a c => ⟨v, rfl, rfl, a, c⟩
  unfold f0_number f5_valueBy
  by_cases e : w = 0
  · rw [z_eqT ⟨by omega, by omega⟩ e, z_eqT ⟨by omega, by omega⟩ e, z_bind (ld 0 _ (by decide) (by decide) q0)]
    exact fin _ (by omega) (by omega)
  rw [z_eqF ⟨by omega, by omega⟩ (by decide) e, z_eqF ⟨by omega, by omega⟩ (by decide) e]
  clear e
  by_cases e : w = 1
  · rw [z_eqT ⟨by omega, by omega⟩ e, z_eqT ⟨by omega, by omega⟩ e, z_bind (z0_countAt hB (by decide)), z_bind (z5_many0 hm hB.1)]
    exact fin _ (by omega) (by omega)
  rw [z_eqF ⟨by omega, by omega⟩ (by decide) e, z_eqF ⟨by omega, by omega⟩ (by decide) e]
  by_cases e : w = 2
  · rw [z_eqT ⟨by omega, by omega⟩ e, z_eqT ⟨by omega, by omega⟩ e, z_bind (show f2_size 120 (g0_keys b) = some (zn b) from rfl), z_bind (ld 1 _ (by decide) (by decide) hm.1)]
    exact fin _ (by omega) (by omega)
  rw [z_eqF ⟨by omega, by omega⟩ (by decide) e, z_eqF ⟨by omega, by omega⟩ (by decide) e]
  by_cases e : w = 3
  · rw [z_eqT ⟨by omega, by omega⟩ e, z_eqT ⟨by omega, by omega⟩ e, z_bind (show f2_size 120 (g0_flts b) = some (zR b) from rfl), z_bind (ld 8 _ (by decide) (by decide) q8)]
    exact fin _ (by omega) (by omega)
  rw [z_eqF ⟨by omega, by omega⟩ (by decide) e, z_eqF ⟨by omega, by omega⟩ (by decide) e]
  by_cases e : w = 4
  · rw [z_eqT ⟨by omega, by omega⟩ e, z_eqT ⟨by omega, by omega⟩ e, z_bind (show f2_size 120 (g0_keys b) = some (zn b) from rfl), z_bind (z0_countAt hB (by decide)), z_bind (z0_countAt hB (by decide)), z_bind (z5_many hm hB.1 (by decide))]
    have es : xS (fun _ => 1) 0 (zn b).toNat = xS (fun p => (if zH b p = -1 then 1 else 0) + ((if zH b p = -2 then 1 else 0) + (if zwh (zH b p) = 1 then 1 else 0))) 0 (zn b).toNat := xS_congr _ _ (fun p p0 p1 => by
      have hp := hB.1.2.2 p p0 (by omega)
      have hw := zwh_1 hp.2.2.2.2.1
      by_cases a : zH b p = -1
      · rw [if_pos a, if_neg (by omega), if_neg (by omega)]; rfl
      · by_cases d : zH b p = -2
        · rw [if_neg a, if_pos d, if_neg (by omega)]; rfl
        · rw [if_neg a, if_neg d, if_pos (by omega)]; rfl)
    rw [xS_one, xS_add, xS_add] at es
    have e1 : zn b - zC (zH b) (-1) (zn b) - zC (zH b) (-2) (zn b) = xS (fun p => if zwh (zH b p) = 1 then 1 else 0) 0 (zn b).toNat := by
      unfold zC; omega
    have hx := xS_ind (P := fun p => zwh (zH b p) = 1) h0
    rw [e1]
    exact fin _ (by omega) (by omega)
  rw [z_eqF ⟨by omega, by omega⟩ (by decide) e, z_eqF ⟨by omega, by omega⟩ (by decide) e]
  by_cases e : w = 5
  · rw [z_eqT ⟨by omega, by omega⟩ e, z_eqT ⟨by omega, by omega⟩ e, z_bind (z0_countAt hB (by decide)), z_bind (z5_many2 hm hB.1)]
    exact fin _ (by omega) (by omega)
  rw [z_eqF ⟨by omega, by omega⟩ (by decide) e, z_eqF ⟨by omega, by omega⟩ (by decide) e]
  by_cases e : w = 6
  · rw [z_eqT ⟨by omega, by omega⟩ e, z_eqT ⟨by omega, by omega⟩ e, z_bind (ld 2 _ (by decide) (by decide) q2)]
    exact fin _ (by omega) (by omega)
  rw [z_eqF ⟨by omega, by omega⟩ (by decide) e, z_eqF ⟨by omega, by omega⟩ (by decide) e]
  by_cases e : w = 7
  · rw [z_eqT ⟨by omega, by omega⟩ e, z_eqT ⟨by omega, by omega⟩ e, z_bind (ld 3 _ (by decide) (by decide) q3)]
    exact fin _ (by omega) (by omega)
  rw [z_eqF ⟨by omega, by omega⟩ (by decide) e, z_eqF ⟨by omega, by omega⟩ (by decide) e]
  by_cases e : w = 8
  · rw [z_eqT ⟨by omega, by omega⟩ e, z_eqT ⟨by omega, by omega⟩ e, z_bind (ld 4 _ (by decide) (by decide) q4)]
    exact fin _ (by omega) (by omega)
  rw [z_eqF ⟨by omega, by omega⟩ (by decide) e, z_eqF ⟨by omega, by omega⟩ (by decide) e]
  by_cases e : w = 9
  · rw [z_eqT ⟨by omega, by omega⟩ e, z_eqT ⟨by omega, by omega⟩ e, z_bind (ld 5 _ (by decide) (by decide) q5)]
    exact fin _ (by omega) (by omega)
  rw [z_eqF ⟨by omega, by omega⟩ (by decide) e, z_eqF ⟨by omega, by omega⟩ (by decide) e]
  by_cases e : w = 10
  · rw [z_eqT ⟨by omega, by omega⟩ e, z_eqT ⟨by omega, by omega⟩ e, z_bind (ld 6 _ (by decide) (by decide) q6)]
    refine fin _ ?_ ?_
    · rcases hB.2.2.2.2.1 with q | ⟨k, k0, k1, hk⟩
      · omega
      · have := hB.2.2.2.1.2.2.1 k k0 k1; omega
    · rcases hB.2.2.2.2.1 with q | ⟨k, k0, k1, hk⟩
      · omega
      · have := hB.2.2.2.1.2.2.1 k k0 k1; omega
  rw [z_eqF ⟨by omega, by omega⟩ (by decide) e, z_eqF ⟨by omega, by omega⟩ (by decide) e, z_bind (ld 7 _ (by decide) (by decide) q7)]
  exact fin _ (by omega) (by omega)
theorem zRank_inj {K H : Int → Int} {n h p r : Int} (p0 : 0 ≤ p) (p1 : p < n) (hp : H p = h) (r0 : 0 ≤ r) (r1 : r < n) (hr : H r = h) (e : xS (fun q => if H q = h ∧ zl K q p then 1 else 0) 0 n.toNat = xS (fun q => if H q = h ∧ zl K q r then 1 else 0) 0 n.toNat) : p = r := by
  have key : ∀ p r, 0 ≤ p → p < n → H p = h → zl K p r → xS (fun q => if H q = h ∧ zl K q p then 1 else 0) 0 n.toNat < xS (fun q => if H q = h ∧ zl K q r then 1 else 0) 0 n.toNat := fun p r p0 p1 hp hl => by
    have e1 : xS (fun q => if q = p then 1 else 0) 0 n.toNat = 1 := by
      rw [xS_point (f := fun q => if q = p then 1 else 0) (k := p) n.toNat 0 p0 (by omega) (fun q _ _ z => if_neg z), if_pos rfl]
    have e2 := xS_add (fun q => if H q = h ∧ zl K q p then 1 else 0) (fun q => if q = p then 1 else 0) n.toNat 0
    have e3 : xS (fun q => (if H q = h ∧ zl K q p then 1 else 0) + (if q = p then 1 else 0)) 0 n.toNat ≤ xS (fun q => if H q = h ∧ zl K q r then 1 else 0) 0 n.toNat := xS_le _ _ (fun q _ _ => by
      by_cases z : q = p
      · subst z
        rw [if_neg (fun w => zl_irr w.2), if_pos rfl, if_pos ⟨hp, hl⟩]; omega
      · rw [if_neg z]
        by_cases w : H q = h ∧ zl K q p
        · rw [if_pos w, if_pos ⟨w.1, zl_trans w.2 hl⟩]; omega
        · rw [if_neg w]; split <;> omega)
    omega
  refine Classical.byContradiction fun ne => ?_
  by_cases a : zl K p r
  · have := key p r p0 p1 hp a; omega
  · have := key r p r0 r1 hr (zl_tri a ne); omega
theorem z5_inRunL {b : BoatS} {x : ModS} (hB : zB b) (hR : zRel b (g5_now x)) (ht : g5_thr x = 0) {i k r : Int} (i0 : 0 ≤ i) (i1 : i < zR b) (k0 : 0 ≤ k) (k1 : k ≤ 120) (r0 : 0 ≤ r) (r1 : r < zn b) (hr : zH b r = zF b i) (hk : xS (fun q => if zH b q = zF b i ∧ zl (zK b) q r then 1 else 0) 0 (zn b).toNat = k) : ∀ (m fu : Nat) (l : Int), 0 ≤ l → l + (m : Int) = r → m < fu → f5_inRun_L39 (zF b i) k fu l x = some (r, x)
  | 0, 0, _, _, _, h => by omega
  | m + 1, 0, _, _, _, h => by omega
  | 0, fu + 1, l, l0, lm, _ => by
    have h120 := hB.1.2.1
    have hi := hB.2.2.2.1.2.2.1 i i0 i1
    have xF : xin (zF b i) := hB.xF i i0 i1
    have el : l = r := by omega
    subst el
    have hx := z5_placeIn hR.1 hB.1 r0 r1
    rw [hr, hk] at hx
    unfold f5_inRun_L39
    rw [z_bind (z5_n hR.1), z_ltT ⟨by omega, by omega⟩ ⟨by omega, by omega⟩ r1, z_eqT (by rw [ht]; decide) ht, z_bind (z5_isOf hR.1 hB.1 r0 r1 hi.1 xF), if_pos hr, z_eqF (by decide) (by decide) (by decide), z_bind hx, z_eqT ⟨by omega, by omega⟩ rfl]
  | m + 1, fu + 1, l, l0, lm, h => by
    have h120 := hB.1.2.1
    have hi := hB.2.2.2.1.2.2.1 i i0 i1
    have xF : xin (zF b i) := hB.xF i i0 i1
    have hx := z5_placeIn hR.1 hB.1 l0 (by omega : l < zn b)
    have ih := z5_inRunL hB hR ht i0 i1 k0 k1 r0 r1 hr hk m fu (l + 1) (by omega) (by omega) (by omega)
    unfold f5_inRun_L39
    rw [z_bind (z5_n hR.1), z_ltT ⟨by omega, by omega⟩ ⟨by omega, by omega⟩ (by omega), z_eqT (by rw [ht]; decide) ht, z_bind (z5_isOf hR.1 hB.1 l0 (by omega) hi.1 xF)]
    by_cases e : zH b l = zF b i
    · have hb := xS_ind (P := fun q => zH b q = zH b l ∧ zl (zK b) q l) hB.1.1
      rw [if_pos e, z_eqF (by decide) (by decide) (by decide), z_bind hx, z_eqF ⟨by omega, by omega⟩ ⟨by omega, by omega⟩ (fun z => by
        rw [e] at z
        have := zRank_inj l0 (by omega) e r0 r1 hr (z.trans hk.symm)
        omega)]
      exact ih
    · rw [if_neg e, z_eqT (by decide) rfl]
      exact ih
theorem z5_ashoreL {b : BoatS} {x : ModS} (hB : zB b) (hR : zRel b (g5_now x)) (ht : g5_thr x = 0) {k r : Int} (k0 : 0 ≤ k) (k1 : k ≤ 120) (r0 : 0 ≤ r) (r1 : r < zn b) (hr : zH b r = -2) (hk : xS (fun q => if zH b q = -2 ∧ zl (zK b) q r then 1 else 0) 0 (zn b).toNat = k) : ∀ (m fu : Nat) (l : Int), 0 ≤ l → l + (m : Int) = r → m < fu → f5_ashore_L26 k fu l x = some (r, x)
  | 0, 0, _, _, _, h => by omega
  | m + 1, 0, _, _, _, h => by omega
  | 0, fu + 1, l, l0, lm, _ => by
    have h120 := hB.1.2.1
    have el : l = r := by omega
    subst el
    have hx := z5_placeIn hR.1 hB.1 r0 r1
    rw [hr, hk] at hx
    unfold f5_ashore_L26
    rw [z_bind (z5_n hR.1), z_ltT ⟨by omega, by omega⟩ ⟨by omega, by omega⟩ r1, z_eqT (by rw [ht]; decide) ht, z_bind (z5_ofA hR.1 hB.1 r0 r1), z_eqT (zwh_xin _) (zwh_2.mpr hr), z_bind hx, z_eqT ⟨by omega, by omega⟩ rfl]
  | m + 1, fu + 1, l, l0, lm, h => by
    have h120 := hB.1.2.1
    have hx := z5_placeIn hR.1 hB.1 l0 (by omega : l < zn b)
    have ih := z5_ashoreL hB hR ht k0 k1 r0 r1 hr hk m fu (l + 1) (by omega) (by omega) (by omega)
    unfold f5_ashore_L26
    rw [z_bind (z5_n hR.1), z_ltT ⟨by omega, by omega⟩ ⟨by omega, by omega⟩ (by omega), z_eqT (by rw [ht]; decide) ht, z_bind (z5_ofA hR.1 hB.1 l0 (by omega))]
    by_cases e : zH b l = -2
    · have hb := xS_ind (P := fun q => zH b q = zH b l ∧ zl (zK b) q l) hB.1.1
      rw [z_eqT (zwh_xin _) (zwh_2.mpr e), z_bind hx, z_eqF ⟨by omega, by omega⟩ ⟨by omega, by omega⟩ (fun z => by
        rw [e] at z
        have := zRank_inj l0 (by omega) e r0 r1 hr (z.trans hk.symm)
        omega)]
      exact ih
    · rw [z_eqF (zwh_xin _) (by decide) (fun z => e (zwh_2.mp z))]
      exact ih

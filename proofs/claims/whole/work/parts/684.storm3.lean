/-! A storm. -/
theorem zM_cgH {now K W H H' : Int → Int} {n : Int} (h : zM now K W H n) (e : ∀ p, 0 ≤ p → p < n → H' p = H p) : zM now K W H' n := ⟨h.1, fun p p0 p1 => by rw [e p p0 p1]; exact h.2 p p0 p1⟩
def zDc (s : Int) : Int := if s - 1 < 0 then 0 else s - 1
theorem zDc_rng {s : Int} (h0 : 0 ≤ s) (h1 : s ≤ 9) : 0 ≤ zDc s ∧ zDc s ≤ 9 := by unfold zDc; split <;> omega
def zDec (D S : Int → Int) (k R : Int) : Prop := ∀ t, 0 ≤ t → t < R → D t = if t < k then zDc (S t) else S t
theorem zDec_s {D S : Int → Int} {k R : Int} (h : zDec D S k R) : zDec (x_up D k (zDc (S k))) S (k + 1) R := fun t t0 t1 => by
  by_cases e : t = k
  · rw [e, z_upS, if_pos (by omega)]
  · rw [z_upN e, h t t0 t1]
    by_cases g : t < k
    · rw [if_pos g, if_pos (by omega)]
    · rw [if_neg g, if_neg (by omega)]
theorem zDec_rng {u : BoatS} {D : Int → Int} {k : Int} (hB : zB u) (h : zDec D (zS u) k (zR u)) : ∀ t, 0 ≤ t → t < zR u → 0 ≤ D t ∧ D t ≤ 9 := fun t t0 t1 => by
  have hk := hB.2.2.2.1.2.2.1 t t0 t1
  rw [h t t0 t1]
  by_cases g : t < k
  · rw [if_pos g]; exact zDc_rng hk.2.2.1 hk.2.2.2.1
  · rw [if_neg g]; exact ⟨hk.2.2.1, hk.2.2.2.1⟩
/-- the weakening of one float -/
theorem z0_weak {u : BoatS} {D : Int → Int} {k : Int} (hB : zB u) (h : zDec D (zS u) k (zR u)) (k0 : 0 ≤ k) (k1 : k < zR u) {f : RowS → Option (Int × BoatS)} : ((f2_get 120 (g0_strs (s0_strs u (zR u, D))) k).bind fun v10 => (x_max (v10 - 1) 0).bind fun v11 => (f2_set 120 (g0_strs (s0_strs u (zR u, D))) k v11).bind f) = f (zR u, x_up D k (zDc (zS u k))) := by
  have hk := hB.2.2.2.1.2.2.1 k k0 k1
  have hR := hB.R_le
  have h120 := hB.1.2.1
  have eD : D k = zS u k := by rw [h k k0 k1, if_neg (by omega)]
  have e1 : f2_get 120 (g0_strs (s0_strs u (zR u, D))) k = some (zS u k) := by
    rw [← eD]
    exact z2_get (N := 120) (r := (zR u, D)) (by show zR u ≤ (120 : Int); omega) (by show zR u ≤ 100000; omega) k0 k1
  rw [z_bind e1, z_bind (z_max ⟨by omega, by omega⟩ (by decide))]
  exact z_bind (z2_set (N := 120) (r := (zR u, D)) (by show zR u ≤ (120 : Int); omega) (by show zR u ≤ 100000; omega) k0 k1)
theorem ss0_strs {x : BoatS} {v w : RowS} : s0_strs (s0_strs x v) w = s0_strs x w := rfl
theorem zs_brkStep {kk : Int → Int → ModS → Option (Int × ModS)} {l3 l4 k force : Int} {u : BoatS} {D : Int → Int} {x : ModS} {c : Int} (hJ : zJ u (g5_now x) c) (k0 : 0 ≤ k) (k1 : k < zR u) (hBk : zB (s0_strs u (zR u, D))) (hc : c < 1000000000) (hbr : zS u k < force ∧ 2 ≤ zC (zH u) (zF u k) (zn u)) : ∃ Hc Gc n', zJ (zX u Hc Gc) n' (c + 1) ∧ f0_breakRun (s0_strs u (zR u, D)) k = some (s0_strs (zX u Hc Gc) (zR u + 1, x_up D (zR u) 5)) ∧ ((f5_newRun x).bind fun (v11, x10) => f5_stormBy_L71 l3 l4 (zF u k) (zC (zH u) (zF u k) (zn u)) v11 kk xFU 0 x10) = kk (l3 + 1) (l4 + 1) (s5_now x n') := by
  have hB := hJ.1
  have hR := hB.R_le
  have h0 := hB.1.1
  have h120 := hB.1.2.1
  have hf : g0_flo u < 1000000000 := by have := hJ.2.2.1; omega
  have cl := zC_le (zH u) (zF u k) h0
  have cn := zC_nonneg (zH u) (zF u k) (zn u)
  have hRn := hB.room_run k0 (by omega) hbr.2
  obtain ⟨Hc, Gc, q1, q2, q3⟩ := z0_brk hBk hf k0 (by show k < zR u; omega) hbr.2
  have hB' : zB (zX u Hc Gc) := zB_brk hB hf k0 (by omega) hbr.2 q2 q3
  obtain ⟨n1, f1', f2', f3', f4', f5', f6', f7', f8'⟩ := z5_newRun hJ.2.1 hB.R0 (by omega)
  have hM1 : zM n1 (zK u) (zW u) (zH u) (zn u) := zM_lo hJ.2.1.1 (f3' 1 (by decide) (by decide)) f2'
  obtain ⟨n', H', T', w1, w2, w3, w4, w5, w6, w7⟩ := z5_brkL (x := x) (n1 := n1) (kk := kk) (l3 := l3) (l4 := l4) hB hf k0 (by omega) (zC (zH u) (zF u k) (zn u) / 2).toNat xFU 0 n1 (zH u) (zn u) (by omega) (by omega) (by unfold xFU; omega) hM1 (fun _ _ => rfl) h0 (Int.le_refl _) (by rw [zCn_all h0 hB.2.2.1]; omega) (fun j j0 j1 => by rw [if_neg (by omega)])
  have hH : ∀ p, 0 ≤ p → p < zn u → Hc p = H' p := fun p p0 p1 => by
    obtain ⟨j, j0, j1, hj⟩ := hB.2.2.1.2.2.1 p p0 (by omega)
    have a1 : Hc (zO u j) = zTg (zO u) (zH u) (zF u k) ((zC (zH u) (zF u k) (zn u) + 1) / 2) (g0_flo u) j := q2 j j0 (by show j < zn u; omega)
    have a2 := w7 j j0 (by omega)
    rw [← hj, a1, a2]
    unfold zTg
    by_cases e : zH u (zO u j) = zF u k
    · have cs := zCn_s (O := zO u) (H := zH u) (run := zF u k) j0
      rw [if_pos e] at cs
      by_cases d : T' ≤ j
      · have := zCn_mono (O := zO u) (H := zH u) (run := zF u k) w4 d
        rw [if_pos ⟨e, by omega⟩, if_pos ⟨e, d⟩]
      · have := zCn_mono (O := zO u) (H := zH u) (run := zF u k) (i := j + 1) (j := T') (by omega) (by omega)
        rw [if_neg (fun z => by have := z.2; omega), if_neg (fun z => d z.2)]
    · rw [if_neg (fun z => e z.1), if_neg (fun z => e z.1)]
  have hR' : zRel (zX u Hc Gc) n' := by
    obtain ⟨hm, r0, r2, r3, r4, r5, r6, r7, r8, r9⟩ := hJ.2.1
    refine zRel_mk (zM_cgH w2 hH) ?_ ?_ ?_ ?_ ?_ ?_ ?_ ?_ (fun t t0 t1 => ?_)
    · rw [w3 _ (by decide), f3' _ (by decide) (by decide)]; exact r0
    · rw [w3 _ (by decide), f3' _ (by decide) (by decide)]; exact r2
    · rw [w3 _ (by decide), f3' _ (by decide) (by decide)]; exact r3
    · rw [w3 _ (by decide), f3' _ (by decide) (by decide)]; exact r4
    · rw [w3 _ (by decide), f3' _ (by decide) (by decide)]; exact r5
    · rw [w3 _ (by decide), f3' _ (by decide) (by decide)]; exact r6
    · rw [w3 _ (by decide), f4']
    · rw [w3 _ (by decide), f5']
    · have t1' : t < zR u + 1 := t1
      rw [w3 _ (by omega), w3 _ (by omega)]
      show n1 (10 + 2 * t) = x_up (zF u) (zR u) (g0_flo u) t ∧ n1 (10 + 2 * t + 1) = x_up (zS u) (zR u) 5 t
      by_cases e : t = zR u
      · rw [e, z_upS, z_upS]; exact ⟨f7', f8'⟩
      · rw [z_upN e, z_upN e]; exact f6' t t0 (by omega)
  have hJ' : zJ (zX u Hc Gc) n' (c + 1) := by
    obtain ⟨a1, a2, a3, a4, a5⟩ := hJ.2.2
    exact ⟨hB', hR', by show g0_flo u + 1 ≤ c + 1; omega, ⟨a2.1, by show g0_cst u ≤ c + 1; omega⟩, ⟨a3.1, by show g0_mrg u ≤ c + 1; omega⟩, ⟨a4.1, by show g0_stm u ≤ c + 1; omega⟩, ⟨a5.1, by show g0_brk u ≤ c + 1; omega⟩⟩
  refine ⟨Hc, Gc, n', hJ', ?_, ?_⟩
  · rw [q1]
    unfold zX
    simp only [zn, zR, zK, zW, zO, zF, zS, se0R, gm0]
  · rw [z_bind2 f1']
    exact w1
theorem zs_stormL {force before : Int} (f0 : 1 ≤ force) (f1 : force ≤ 9) : ∀ (m fu fu2 : Nat) (k brk : Int) (u : BoatS) (D : Int → Int) (x : ModS) (c : Int), zJ u (g5_now x) c → 0 ≤ k → k + (m : Int) = before → before ≤ zR u → zDec D (zS u) k (zR u) → 0 ≤ brk → brk ≤ k → c + (m : Int) < 1000000000 → m < fu → m < fu2 → ∃ u' D' v now', f0_breakRuns_L13 force before fu brk k (s0_strs u (zR u, D)) = some (v, s0_brk (s0_stm (s0_opn (s0_strs u' (zR u', D')) (-1)) (g0_stm u' + 1)) (g0_brk u' + v)) ∧ f5_stormBy_L13 force before fu2 brk k x = f5_stormBy_L108 before v xFU 0 (s5_now x now') ∧ zJ u' now' (c + (m : Int)) ∧ before ≤ zR u' ∧ zDec D' (zS u') before (zR u') ∧ 0 ≤ v ∧ v ≤ before
  | 0, 0, _, _, _, _, _, _, _, _, _, _, _, _, _, _, _, h, _ => by omega
  | m + 1, 0, _, _, _, _, _, _, _, _, _, _, _, _, _, _, _, h, _ => by omega
  | 0, _ + 1, 0, _, _, _, _, _, _, _, _, _, _, _, _, _, _, _, h => by omega
  | m + 1, _ + 1, 0, _, _, _, _, _, _, _, _, _, _, _, _, _, _, _, h => by omega
  | 0, fu + 1, fu2 + 1, k, brk, u, D, x, c, hJ, k0, km, hb, hD, b0, b1, hc, _, _ => by
    have hR := hJ.1.R_le
    have h120 := hJ.1.1.2.1
    refine ⟨u, D, brk, g5_now x, ?_, ?_, ⟨hJ.1, hJ.2.1, zT_le hJ.2.2 (by omega)⟩, hb, by rw [← show k = before by omega]; exact hD, b0, by omega⟩
    · unfold f0_breakRuns_L13
      rw [z_ltF ⟨by omega, by omega⟩ ⟨by omega, by omega⟩ (by omega)]
      simp only [se0I, se0R, gm0]
    · unfold f5_stormBy_L13
      rw [z_ltF ⟨by omega, by omega⟩ ⟨by omega, by omega⟩ (by omega), show s5_now x (g5_now x) = x from rfl]
  | m + 1, fu + 1, fu2 + 1, k, brk, u, D, x, c, hJ, k0, km, hb, hD, b0, b1, hc, h1, h2 => by
    have hB := hJ.1
    have hR := hB.R_le
    have h0 := hB.1.1
    have h120 := hB.1.2.1
    have hk := hB.2.2.2.1.2.2.1 k k0 (by omega)
    have hf : g0_flo u < 1000000000 := by have := hJ.2.2.1; omega
    have hBk : zB (s0_strs u (zR u, D)) := zB_S hB (zDec_rng hB hD)
    have eD : D k = zS u k := by rw [hD k k0 (by omega), if_neg (by omega)]
    have cl := zC_le (zH u) (zF u k) h0
    have cn := zC_nonneg (zH u) (zF u k) (zn u)
    have hr9 := hJ.2.1.2.2.2.2.2.2.2.2.2 k k0 (by omega)
    have g1 : f2_get 120 (g0_strs (s0_strs u (zR u, D))) k = some (zS u k) := by
      rw [← eD]; exact hBk.getS k0 (by show k < zR u; omega)
    have g2 : f2_get 120 (g0_flts (s0_strs u (zR u, D))) k = some (zF u k) := hBk.getF k0 (by show k < zR u; omega)
    have g3 : f0_countAt (s0_strs u (zR u, D)) (zF u k) = some (zC (zH u) (zF u k) (zn u)) := z0_countAt hBk (hB.xF k k0 (by show k < zR u; omega))
    have m1 : f5_numberAt x k = some (zF u k) := by
      unfold f5_numberAt
      rw [z_bind (z_ldT (by omega) (by show _ < (730 : Int); omega)), hr9.1]
    have m2 : f5_manyOf x (zF u k) = some (zC (zH u) (zF u k) (zn u)) := z5_manyOf hJ.2.1.1 hB.1 hk.1 (hB.xF k k0 (by show k < zR u; omega))
    have m3 : x_ld 730 (g5_now x) ((10 + (2 * k)) + 1) = some (zS u k) := by rw [z_ldT (by omega) (by show _ < (730 : Int); omega), hr9.2]
    by_cases hbr : zS u k < force ∧ 2 ≤ zC (zH u) (zF u k) (zn u)
    · obtain ⟨Hc, Gc, n', hJ', q1, w1⟩ := zs_brkStep (kk := f5_stormBy_L13 force before fu2) (l3 := brk) (l4 := k) (force := force) hJ k0 (by omega) hBk (by omega) hbr
      have eS : zS (zX u Hc Gc) = x_up (zS u) (zR u) 5 := by unfold zX; simp only [zS, gm0]
      have eR : zR (zX u Hc Gc) = zR u + 1 := by unfold zX; simp only [zR, gm0]
      have hD1 : zDec (x_up D (zR u) 5) (zS (zX u Hc Gc)) k (zR (zX u Hc Gc)) := fun t t0 t1 => by
        rw [eS]
        rw [eR] at t1
        by_cases e : t = zR u
        · rw [e, z_upS, z_upS, if_neg (by omega)]
        · rw [z_upN e, z_upN e]; exact hD t t0 (by omega)
      have hD2 := zDec_s hD1
      obtain ⟨u', D', v, now', i1, i2, i3, i4, i5, i6, i7⟩ := zs_stormL (force := force) (before := before) f0 f1 m fu fu2 (k + 1) (brk + 1) (zX u Hc Gc) _ (s5_now x n') (c + 1) hJ' (by omega) (by omega) (by rw [eR]; omega) hD2 (by omega) (by omega) (by omega) (by omega) (by omega)
      refine ⟨u', D', v, now', ?_, ?_, ?_, i4, i5, i6, i7⟩
      · unfold f0_breakRuns_L13
        rw [z_ltT ⟨by omega, by omega⟩ ⟨by omega, by omega⟩ (by omega), z_bind g1, z_ltT ⟨by omega, by omega⟩ ⟨by omega, by omega⟩ hbr.1, z_bind g2, z_bind g3, z_ltF ⟨by omega, by omega⟩ (by decide) (by omega), z_bind q1, ← eR]
        refine (z0_weak (f := fun r16 => f0_breakRuns_L13 force before fu (brk + 1) (k + 1) (s0_strs (s0_strs (zX u Hc Gc) (zR (zX u Hc Gc), x_up D (zR u) 5)) r16)) hJ'.1 hD1 k0 (by omega)).trans ?_
        rw [ss0_strs]
        exact i1
      · unfold f5_stormBy_L13
        rw [z_ltT ⟨by omega, by omega⟩ ⟨by omega, by omega⟩ (by omega), z_bind m1, z_bind m2, z_ltT (by decide) ⟨by omega, by omega⟩ (by omega), z_bind m3, z_ltT ⟨by omega, by omega⟩ ⟨by omega, by omega⟩ hbr.1, w1, i2, ss5_now]
      · rw [show c + ((m + 1 : Nat) : Int) = c + 1 + (m : Int) by omega]; exact i3
    · have hD2 := zDec_s hD
      obtain ⟨u', D', v, now', i1, i2, i3, i4, i5, i6, i7⟩ := zs_stormL (force := force) (before := before) f0 f1 m fu fu2 (k + 1) brk u _ x c hJ (by omega) (by omega) hb hD2 b0 (by omega) (by omega) (by omega) (by omega)
      refine ⟨u', D', v, now', ?_, ?_, ⟨i3.1, i3.2.1, zT_le i3.2.2 (by omega)⟩, i4, i5, i6, i7⟩
      · unfold f0_breakRuns_L13
        rw [← i1]
        rw [z_ltT ⟨by omega, by omega⟩ ⟨by omega, by omega⟩ (by omega), z_bind g1]
        by_cases e : zS u k < force
        · rw [z_ltT ⟨by omega, by omega⟩ ⟨by omega, by omega⟩ e, z_bind g2, z_bind g3, z_ltT ⟨by omega, by omega⟩ (by decide) (by omega)]
          exact z0_weak (f := fun r16 => f0_breakRuns_L13 force before fu brk (k + 1) (s0_strs u r16)) hB hD k0 (by omega)
        · rw [z_ltF ⟨by omega, by omega⟩ ⟨by omega, by omega⟩ e]
          exact z0_weak (f := fun r16 => f0_breakRuns_L13 force before fu brk (k + 1) (s0_strs u r16)) hB hD k0 (by omega)
      · unfold f5_stormBy_L13
        rw [← i2]
        rw [z_ltT ⟨by omega, by omega⟩ ⟨by omega, by omega⟩ (by omega), z_bind m1, z_bind m2]
        by_cases e : 2 ≤ zC (zH u) (zF u k) (zn u)
        · rw [z_ltT (by decide) ⟨by omega, by omega⟩ (by omega), z_bind m3, z_ltF ⟨by omega, by omega⟩ ⟨by omega, by omega⟩ (by omega)]
        · rw [z_ltF (by decide) ⟨by omega, by omega⟩ (by omega)]
theorem zRel_Scg {b : BoatS} {now D D2 : Int → Int} (hR : zRel (s0_strs b (zR b, D2)) now) (e : ∀ t, 0 ≤ t → t < zR b → D t = D2 t) : zRel (s0_strs b (zR b, D)) now := by
  simp only [se0R, gm0] at hR ⊢
  obtain ⟨hm, h0, h2, h3, h4, h5, h6, h7, h8, h9⟩ := hR
  exact zRel_mk hm h0 h2 h3 h4 h5 h6 h7 h8 (fun k k0 k1 => by
    have := h9 k k0 k1
    refine ⟨this.1, ?_⟩
    show now (10 + 2 * k + 1) = D k
    rw [e k k0 k1]; exact this.2)
theorem z5_weakL {u : BoatS} {x : ModS} {before v : Int} (hB : zB u) (hb : before ≤ zR u) : ∀ (m fu : Nat) (k : Int) (D nl : Int → Int), 0 ≤ k → k + (m : Int) = before → m < fu → zRel (s0_strs u (zR u, D)) nl → zDec D (zS u) k (zR u) → ∃ D' now', f5_stormBy_L108 before v fu k (s5_now x nl) = some (v, s5_now x (x_up (x_up (x_up now' 6 (-1)) 4 (g0_stm u + 1)) 5 (g0_brk u + v))) ∧ zRel (s0_strs u (zR u, D')) now' ∧ zDec D' (zS u) before (zR u)
  | 0, 0, _, _, _, _, _, h, _, _ => by omega
  | m + 1, 0, _, _, _, _, _, h, _, _ => by omega
  | 0, fu + 1, k, D, nl, k0, km, _, hR, hD => by
    have hRl := hB.R_le
    have h120 := hB.1.2.1
    refine ⟨D, nl, ?_, hR, by rw [← show k = before by omega]; exact hD⟩
    unfold f5_stormBy_L108
    rw [z_ltF ⟨by omega, by omega⟩ ⟨by omega, by omega⟩ (by omega), z_bind (z_stT (by decide) (by decide)), z_bind (z_ldT (by decide) (by decide)), z_bind (z_stT (by decide) (by decide)), z_bind (z_ldT (by decide) (by decide)), z_bind (z_stT (by decide) (by decide))]
    have e4 : x_up (g5_now (s5_now x nl)) 6 (-1) 4 = g0_stm u := by rw [z_upN (by decide)]; exact hR.2.2.2.2.1
    have e5 : ∀ w, x_up (x_up (g5_now (s5_now x nl)) 6 (-1)) 4 w 5 = g0_brk u := fun w => by rw [z_upN (by decide), z_upN (by decide)]; exact hR.2.2.2.2.2.1
    rw [e4, e5]
    rfl
  | m + 1, fu + 1, k, D, nl, k0, km, hfu, hR, hD => by
    have hRl := hB.R_le
    have h120 := hB.1.2.1
    have hk := hB.2.2.2.1.2.2.1 k k0 (by omega)
    have eD : D k = zS u k := by rw [hD k k0 (by omega), if_neg (by omega)]
    have h9 : nl (10 + 2 * k + 1) = zS u k := by rw [← eD]; exact (hR.2.2.2.2.2.2.2.2.2 k k0 (by show k < zR u; omega)).2
    have el : x_ld 730 (g5_now (s5_now x nl)) ((10 + (2 * k)) + 1) = some (zS u k) := by rw [z_ldT (by omega) (by show _ < (730 : Int); omega)]; exact congrArg some h9
    have hR2 : zRel (s0_strs u (zR u, x_up D k (zDc (zS u k)))) (x_up nl (10 + 2 * k + 1) (zDc (zS u k))) := by
      have h := zRel_S (b := s0_strs u (zR u, D)) (i := k) (v := zDc (zS u k)) hR (by show zR u ≤ 120; omega) k0 (by show k < zR u; omega)
      simp only [zR, zS, se0R, gm0] at h ⊢
      exact h
    obtain ⟨D', now', q1, q2⟩ := z5_weakL (x := x) (v := v) hB hb m fu (k + 1) _ _ (by omega) (by omega) (by omega) hR2 (zDec_s hD)
    refine ⟨D', now', ?_, q2⟩
    unfold f5_stormBy_L108
    rw [← q1]
    rw [z_ltT ⟨by omega, by omega⟩ ⟨by omega, by omega⟩ (by omega), z_bind el]
    by_cases e : 0 < zS u k
    · rw [z_ltT (by decide) ⟨by omega, by omega⟩ e, z_bind el, z_bind (z_stT (by omega) (by show _ < (730 : Int); omega))]
      rw [show zDc (zS u k) = zS u k - 1 by unfold zDc; rw [if_neg (by omega)]]
      rfl
    · rw [z_ltF (by decide) ⟨by omega, by omega⟩ e, z_bind (z_stT (by omega) (by show _ < (730 : Int); omega))]
      rw [show zDc (zS u k) = 0 by unfold zDc; rw [if_pos (by omega)]]
      rfl
theorem zs_storm {b : BoatS} {x : ModS} {c force : Int} (hJ : zJ b (g5_now x) c) (hc : c + 6000 < 1000000000) (f0 : 1 ≤ force) (f1 : force ≤ 9) : ∃ v b' now', f0_breakRuns b force = some (v, b') ∧ f5_stormBy x force = some (v, s5_now x now') ∧ zJ b' now' (c + 6000) ∧ 0 ≤ v ∧ v ≤ 120 := by
  have hB := hJ.1
  have hR := hB.R_le
  have r0 := hB.R0
  have h120 := hB.1.2.1
  have e0 : s0_strs b (zR b, zS b) = b := by rw [← hB.eS]; rfl
  obtain ⟨u, D, v, n1, i1, i2, i3, i4, i5, i6, i7⟩ := zs_stormL (force := force) (before := zR b) f0 f1 (zR b).toNat xFU xFU 0 0 b (zS b) x c hJ (by omega) (by omega) (Int.le_refl _) (fun t t0 t1 => by rw [if_neg (by omega)]) (by omega) (by omega) (by omega) (by unfold xFU; omega) (by unfold xFU; omega)
  rw [e0] at i1
  have hBu := i3.1
  obtain ⟨D', n2, q1, q2, q3⟩ := z5_weakL (x := x) (v := v) hBu i4 (zR b).toNat xFU 0 (zS u) n1 (by omega) (by omega) (by unfold xFU; omega) (by rw [← hBu.eS]; exact i3.2.1) (fun t t0 t1 => by rw [if_neg (by omega)])
  have hq : zRel (s0_strs u (zR u, D)) n2 := zRel_Scg q2 (fun t t0 t1 => by rw [i5 t t0 t1, q3 t t0 t1])
  refine ⟨v, s0_brk (s0_stm (s0_opn (s0_strs u (zR u, D)) (-1)) (g0_stm u + 1)) (g0_brk u + v), x_up (x_up (x_up n2 6 (-1)) 4 (g0_stm u + 1)) 5 (g0_brk u + v), ?_, ?_, ⟨?_, ?_, ?_⟩, i6, by omega⟩
  · unfold f0_breakRuns
    rw [z_bind (show f2_size 120 (g0_flts b) = some (zR b) from rfl)]
    exact i1
  · unfold f5_stormBy
    rw [z_bind (show x_ld 730 (g5_now x) 8 = some (zR b) by rw [z_ldT (by decide) (by decide), hJ.2.1.2.2.2.2.2.2.2.2.1]), i2]
    exact q1
  · have hz := zB_opn (zB_S hBu (zDec_rng hBu i5))
    simp only [se0I, se0R, gm0] at hz ⊢
    exact ⟨hz.1, hz.2.1, hz.2.2.1, hz.2.2.2.1, hz.2.2.2.2.1, hz.2.2.2.2.2⟩
  · simp only [se0R, gm0] at hq
    simp only [se0I, se0R, gm0]
    obtain ⟨hm, h0, h2, h3, h4, h5, h6, h7, h8, h9⟩ := hq
    refine zRel_mk (zM_lo hm (by rw [z_upN (by decide), z_upN (by decide), z_upN (by decide)]) (fun j hj => by rw [z_upN (by omega), z_upN (by omega), z_upN (by omega)])) ?_ ?_ ?_ ?_ ?_ ?_ ?_ ?_ (fun k k0 k1 => ?_)
    · rw [z_upN (by decide), z_upN (by decide), z_upN (by decide)]; exact h0
    · rw [z_upN (by decide), z_upN (by decide), z_upN (by decide)]; exact h2
    · rw [z_upN (by decide), z_upN (by decide), z_upN (by decide)]; exact h3
    · rw [z_upN (by decide), z_upS]
    · rw [z_upS]
    · rw [z_upN (by decide), z_upN (by decide), z_upS]
    · rw [z_upN (by decide), z_upN (by decide), z_upN (by decide)]; exact h7
    · rw [z_upN (by decide), z_upN (by decide), z_upN (by decide)]; exact h8
    · have hk := h9 k k0 k1
      refine ⟨?_, ?_⟩
      · rw [z_upN (by omega), z_upN (by omega), z_upN (by omega)]; exact hk.1
      · rw [z_upN (by omega), z_upN (by omega), z_upN (by omega)]; exact hk.2
  · obtain ⟨a1, a2, a3, a4, a5⟩ := i3.2.2
    unfold zT
    simp only [se0I, se0R, gm0]
    exact ⟨by omega, ⟨a2.1, by omega⟩, ⟨a3.1, by omega⟩, ⟨by omega, by omega⟩, ⟨by omega, by omega⟩⟩

/-! The least room; pairs in the wrong order. -/
theorem z0_egL {b : BoatS} (hB : zB b) {p : Int} (p0 : 0 ≤ p) (p1 : p < zn b) : ∀ (m fu : Nat) (acc i : Int), 0 ≤ i → i + (m : Int) = p → m < fu → f0_earlierGreater_L4 b p fu acc i = some (acc + xS (fun e => if zK b p < zK b e then 1 else 0) i m)
  | 0, 0, _, _, _, _, q => by omega
  | m + 1, 0, _, _, _, _, q => by omega
  | 0, fu + 1, acc, i, h0, h1, _ => by
    have hn := hB.1.2.1
    unfold f0_earlierGreater_L4
    rw [z_ltF ⟨by omega, by omega⟩ ⟨by omega, by omega⟩ (by omega)]
    show some acc = some (acc + 0)
    rw [Int.add_zero]
  | m + 1, fu + 1, acc, i, h0, h1, q => by
    have hn := hB.1.2.1
    unfold f0_earlierGreater_L4
    rw [z_ltT ⟨by omega, by omega⟩ ⟨by omega, by omega⟩ (by omega), z_bind (hB.getK h0 (by omega)), z_bind (hB.getK p0 p1)]
    by_cases e : zK b p < zK b i
    · rw [z_ltT (hB.xK p0 p1) (hB.xK h0 (by omega)) e, z0_egL hB p0 p1 m fu _ _ (by omega) (by omega) (by omega)]
      show _ = some (acc + ((if zK b p < zK b i then 1 else 0) + xS (fun e => if zK b p < zK b e then 1 else 0) (i + 1) m))
      rw [if_pos e]
      exact congrArg some (by omega)
    · rw [z_ltF (hB.xK p0 p1) (hB.xK h0 (by omega)) e, z0_egL hB p0 p1 m fu _ _ (by omega) (by omega) (by omega)]
      show _ = some (acc + ((if zK b p < zK b i then 1 else 0) + xS (fun e => if zK b p < zK b e then 1 else 0) (i + 1) m))
      rw [if_neg e]
      exact congrArg some (by omega)
theorem z0_eg {b : BoatS} (hB : zB b) {p : Int} (p0 : 0 ≤ p) (p1 : p < zn b) : f0_earlierGreater b p = some (zEg (zK b) p) := by
  have hn := hB.1.2.1
  unfold f0_earlierGreater
  rw [z0_egL hB p0 p1 p.toNat xFU 0 0 (by omega) (by omega) (by unfold xFU; omega), Int.zero_add]
  rfl
theorem z4_leastL {y : BrS} (hB : zB (g4_bo y)) : ∀ (m fu : Nat) (M i : Int), 0 ≤ i → i + (m : Int) = zn (g4_bo y) → m < fu → 0 ≤ M → M ≤ 119 → (∀ q, 0 ≤ q → q < i → zEg (zK (g4_bo y)) q ≤ M) → (M = 0 ∨ ∃ q, 0 ≤ q ∧ q < i ∧ zEg (zK (g4_bo y)) q = M) → ∃ L, f4_leastRoom_L4 y fu M i = some (L + 1) ∧ 0 ≤ L ∧ L ≤ 119 ∧ (∀ q, 0 ≤ q → q < zn (g4_bo y) → zEg (zK (g4_bo y)) q ≤ L) ∧ (L = 0 ∨ ∃ q, 0 ≤ q ∧ q < zn (g4_bo y) ∧ zEg (zK (g4_bo y)) q = L)
  | 0, 0, _, _, _, _, h, _, _, _, _ => by omega
  | m + 1, 0, _, _, _, _, h, _, _, _, _ => by omega
  | 0, fu + 1, M, i, i0, im, _, M0, M1, h1, h2 => by
    have hn := hB.1.2.1
    refine ⟨M, ?_, M0, M1, fun q q0 q1 => h1 q q0 (by omega), ?_⟩
    · unfold f4_leastRoom_L4
      rw [z_bind z0_loaded, z_ltF ⟨by omega, by omega⟩ ⟨by omega, by omega⟩ (by omega)]
    · rcases h2 with h2 | ⟨q, q0, q1, q2⟩
      · exact Or.inl h2
      · exact Or.inr ⟨q, q0, by omega, q2⟩
  | m + 1, fu + 1, M, i, i0, im, hf, M0, M1, h1, h2 => by
    have hn := hB.1.2.1
    have he := zEg_le (K := zK (g4_bo y)) i0
    obtain ⟨L, q1, q2⟩ := z4_leastL hB m fu (if M < zEg (zK (g4_bo y)) i then zEg (zK (g4_bo y)) i else M) (i + 1) (by omega) (by omega) (by omega) (by split <;> omega) (by split <;> omega) (fun q a c => by
      by_cases e : q = i
      · rw [e]; split <;> omega
      · have := h1 q a (by omega)
        split <;> omega) (by
      by_cases g : M < zEg (zK (g4_bo y)) i
      · rw [if_pos g]; exact Or.inr ⟨i, i0, by omega, rfl⟩
      · rw [if_neg g]
        rcases h2 with h2 | ⟨q, a, c, d⟩
        · exact Or.inl h2
        · exact Or.inr ⟨q, a, by omega, d⟩)
    refine ⟨L, ?_, q2⟩
    unfold f4_leastRoom_L4
    rw [← q1]
    rw [z_bind z0_loaded, z_ltT ⟨by omega, by omega⟩ ⟨by omega, by omega⟩ (by omega), z_bind (z0_eg hB i0 (by omega)), z_bind (z_max ⟨by omega, by omega⟩ ⟨by omega, by omega⟩)]
theorem z5_leastL' {b : BoatS} {L : Int} (hB : zB b) (L0 : 0 ≤ L) (L1 : L ≤ 119) (hL : ∀ q, 0 ≤ q → q < zn b → zEg (zK b) q ≤ L) (hq : L = 0 ∨ ∃ q, 0 ≤ q ∧ q < zn b ∧ zEg (zK b) q = L) (y : BrS) (hy : g4_bo y = b) : ∀ (m fu : Nat) (r : Int) (x : ModS), zRel b (g5_now x) → 1 ≤ r → r + (m : Int) = L + 1 → m < fu → ∃ a l, f5_leastRoom_L7 fu r x = some (L + 1, s5_lat (s5_abo x a) l)
  | 0, 0, _, _, _, _, _, h => by omega
  | m + 1, 0, _, _, _, _, _, h => by omega
  | 0, fu + 1, r, x, hR, r0, rm, _ => by
    obtain ⟨v, t', a, l, _, q2, q3, q4, q5⟩ := zs_runsBy hy hB hR (room := r) r0 (by omega) b
    have hv : v ≤ 1 := q5.mpr (fun q a c => by have := hL q a c; omega)
    refine ⟨a, l, ?_⟩
    unfold f5_leastRoom_L7
    rw [z_bind2 q2]
    dsimp only
    rw [z_ltF (by decide) ⟨by omega, by omega⟩ (by omega), show r = L + 1 by omega]
  | m + 1, fu + 1, r, x, hR, r0, rm, hf => by
    obtain ⟨v, t', a, l, _, q2, q3, q4, q5⟩ := zs_runsBy hy hB hR (room := r) r0 (by omega) b
    have hv : ¬ v ≤ 1 := fun z => by
      rcases hq with g | ⟨q, g0, g1, g2⟩
      · omega
      · have := q5.mp z q g0 g1; omega
    obtain ⟨a2, l2, w⟩ := z5_leastL' hB L0 L1 hL hq y hy m fu (r + 1) (s5_lat (s5_abo x a) l) hR (by omega) (by omega) (by omega)
    refine ⟨a2, l2, ?_⟩
    unfold f5_leastRoom_L7
    rw [z_bind2 q2]
    dsimp only
    rw [z_ltT (by decide) ⟨by omega, by omega⟩ (by omega), w, ssT]
theorem zs_leastRoom {b : BoatS} {y : BrS} {x : ModS} (hy : g4_bo y = b) (hB : zB b) (hR : zRel b (g5_now x)) : ∃ v a l, f4_leastRoom y = some v ∧ f5_leastRoom_L7 xFU 1 x = some (v, s5_lat (s5_abo x a) l) ∧ 0 ≤ v ∧ v ≤ 120 := by
  subst hy
  have h0 := hB.1.1
  have h120 := hB.1.2.1
  obtain ⟨L, q1, q2, q3, q4, q5⟩ := z4_leastL hB (zn (g4_bo y)).toNat xFU 0 0 (by decide) (by omega) (by unfold xFU; omega) (by decide) (by decide) (fun q a c => by omega) (Or.inl rfl)
  obtain ⟨a, l, w⟩ := z5_leastL' hB q2 q3 q4 q5 y rfl L.toNat xFU 1 x hR (by decide) (by omega) (by unfold xFU; omega)
  exact ⟨L + 1, a, l, q1, w, by omega, by omega⟩
theorem z4_invL {y : BrS} (hB : zB (g4_bo y)) : ∀ (m fu : Nat) (acc i : Int), 0 ≤ i → i + (m : Int) = zn (g4_bo y) → m < fu → f4_inversions_L4 y fu acc i = some (acc + xS (fun q => zEg (zK (g4_bo y)) q) i m)
  | 0, 0, _, _, _, _, q => by omega
  | m + 1, 0, _, _, _, _, q => by omega
  | 0, fu + 1, acc, i, h0, h1, _ => by
    have hn := hB.1.2.1
    unfold f4_inversions_L4
    rw [z_bind z0_loaded, z_ltF ⟨by omega, by omega⟩ ⟨by omega, by omega⟩ (by omega)]
    show some acc = some (acc + 0)
    rw [Int.add_zero]
  | m + 1, fu + 1, acc, i, h0, h1, q => by
    have hn := hB.1.2.1
    unfold f4_inversions_L4
    rw [z_bind z0_loaded, z_ltT ⟨by omega, by omega⟩ ⟨by omega, by omega⟩ (by omega), z_bind (z0_eg hB h0 (by omega)), z4_invL hB m fu _ _ (by omega) (by omega) (by omega)]
    show _ = some (acc + (zEg (zK (g4_bo y)) i + xS (fun q => zEg (zK (g4_bo y)) q) (i + 1) m))
    exact congrArg some (by omega)
theorem z5_invL2 {b : BoatS} {x : ModS} (hB : zB b) (hR : zRel b (g5_now x)) {p : Int} (p0 : 0 ≤ p) (p1 : p < zn b) {kk : Int → Int → Option (Int × ModS)} : ∀ (m fu : Nat) (acc i : Int), 0 ≤ i → i + (m : Int) = zn b → m < fu → f5_inversions_L23 x p kk fu acc i = kk (acc + xS (fun e => if zK b e < zK b p then 1 else 0) i m) (p + 1)
  | 0, 0, _, _, _, _, q => by omega
  | m + 1, 0, _, _, _, _, q => by omega
  | 0, fu + 1, acc, i, h0, h1, _ => by
    have hn := hB.1.2.1
    unfold f5_inversions_L23
    rw [z_bind (z5_n hR.1), z_ltF ⟨by omega, by omega⟩ ⟨by omega, by omega⟩ (by omega)]
    show kk acc (p + 1) = kk (acc + 0) (p + 1)
    rw [Int.add_zero]
  | m + 1, fu + 1, acc, i, h0, h1, q => by
    have hn := hB.1.2.1
    have e1 : f5_of (s5_thr x 0) p 0 = some (zK b p) := z5_ofK (x := s5_thr x 0) hR.1 hB.1 p0 p1
    have e2 : f5_of (s5_thr x 0) i 0 = some (zK b i) := z5_ofK (x := s5_thr x 0) hR.1 hB.1 h0 (by omega)
    unfold f5_inversions_L23
    rw [z_bind (z5_n hR.1), z_ltT ⟨by omega, by omega⟩ ⟨by omega, by omega⟩ (by omega), z_bind e1, z_bind e2]
    by_cases e : zK b i < zK b p
    · rw [z_ltT (hB.xK h0 (by omega)) (hB.xK p0 p1) e, z5_invL2 hB hR p0 p1 m fu _ _ (by omega) (by omega) (by omega)]
      show _ = kk (acc + ((if zK b i < zK b p then 1 else 0) + xS (fun e => if zK b e < zK b p then 1 else 0) (i + 1) m)) (p + 1)
      rw [if_pos e, Int.add_assoc]
    · rw [z_ltF (hB.xK h0 (by omega)) (hB.xK p0 p1) e, z5_invL2 hB hR p0 p1 m fu _ _ (by omega) (by omega) (by omega)]
      show _ = kk (acc + ((if zK b i < zK b p then 1 else 0) + xS (fun e => if zK b e < zK b p then 1 else 0) (i + 1) m)) (p + 1)
      rw [if_neg e, Int.add_assoc]
def zLg (K : Int → Int) (n p : Int) : Int := xS (fun e => if K e < K p then 1 else 0) (p + 1) (n - (p + 1)).toNat
theorem z5_invL {b : BoatS} {x : ModS} (hB : zB b) (hR : zRel b (g5_now x)) : ∀ (m fu : Nat) (acc i : Int), 0 ≤ i → i + (m : Int) = zn b → m < fu → f5_inversions_L9 x fu acc i = some (acc + xS (fun p => zLg (zK b) (zn b) p) i m, s5_thr x 0)
  | 0, 0, _, _, _, _, q => by omega
  | m + 1, 0, _, _, _, _, q => by omega
  | 0, fu + 1, acc, i, h0, h1, _ => by
    have hn := hB.1.2.1
    unfold f5_inversions_L9
    rw [z_bind (z5_n hR.1), z_ltF ⟨by omega, by omega⟩ ⟨by omega, by omega⟩ (by omega)]
    show some (acc, s5_thr x 0) = some (acc + 0, s5_thr x 0)
    rw [Int.add_zero]
  | m + 1, fu + 1, acc, i, h0, h1, q => by
    have hn := hB.1.2.1
    unfold f5_inversions_L9
    rw [z_bind (z5_n hR.1), z_ltT ⟨by omega, by omega⟩ ⟨by omega, by omega⟩ (by omega), z5_invL2 hB hR h0 (by omega) (zn b - (i + 1)).toNat xFU acc (i + 1) (by omega) (by omega) (by unfold xFU; omega), z5_invL hB hR m fu _ _ (by omega) (by omega) (by omega)]
    show _ = some (acc + (zLg (zK b) (zn b) i + xS (fun p => zLg (zK b) (zn b) p) (i + 1) m), s5_thr x 0)
    rw [← Int.add_assoc]
    rfl
theorem zEgLg {K : Int → Int} {n : Int} (hn : 0 ≤ n) : xS (fun p => zLg K n p) 0 n.toNat = xS (fun q => zEg K q) 0 n.toNat := by
  have e1 : xS (fun p => zLg K n p) 0 n.toNat = xS (fun p => xS (fun e => if p < e ∧ K e < K p then 1 else 0) 0 n.toNat) 0 n.toNat := xS_congr _ _ (fun p p0 p1 => by
    unfold zLg
    rw [show n.toNat = (p + 1).toNat + (n - (p + 1)).toNat by omega, xS_app, xS_congr (f := fun e => if p < e ∧ K e < K p then 1 else 0) (g := fun _ => 0) (p + 1).toNat 0 (fun e e0 e1 => if_neg (fun w => by omega)), xS_zero, show (0 : Int) + ((p + 1).toNat : Int) = p + 1 by omega]
    have : xS (fun e => if K e < K p then 1 else 0) (p + 1) (n - (p + 1)).toNat = xS (fun e => if p < e ∧ K e < K p then 1 else 0) (p + 1) (n - (p + 1)).toNat := xS_congr _ _ (fun e e0 e1 => by
      by_cases g : K e < K p
      · rw [if_pos g, if_pos ⟨by omega, g⟩]
      · rw [if_neg g, if_neg (fun w => g w.2)])
    omega)
  have e2 : xS (fun q => zEg K q) 0 n.toNat = xS (fun q => xS (fun p => if p < q ∧ K q < K p then 1 else 0) 0 n.toNat) 0 n.toNat := xS_congr _ _ (fun q q0 q1 => by
    unfold zEg
    rw [show n.toNat = q.toNat + (n - q).toNat by omega, xS_app, xS_congr (f := fun p => if p < q ∧ K q < K p then 1 else 0) (g := fun _ => 0) (n - q).toNat (0 + (q.toNat : Int)) (fun e e0 e1 => if_neg (fun w => by omega)), xS_zero]
    have : xS (fun e => if K q < K e then 1 else 0) 0 q.toNat = xS (fun p => if p < q ∧ K q < K p then 1 else 0) 0 q.toNat := xS_congr _ _ (fun e e0 e1 => by
      by_cases g : K q < K e
      · rw [if_pos g, if_pos ⟨by omega, g⟩]
      · rw [if_neg g, if_neg (fun w => g w.2)])
    omega)
  rw [e1, e2, xS_swap (fun p e => if p < e ∧ K e < K p then 1 else 0) 0 n.toNat n.toNat 0]
theorem zs_inv {b : BoatS} {y : BrS} {x : ModS} (hy : g4_bo y = b) (hB : zB b) (hR : zRel b (g5_now x)) : ∃ v, f4_inversions y = some v ∧ f5_inversions x = some (v, s5_thr x 0) ∧ 0 ≤ v ∧ v ≤ 14400 := by
  subst hy
  have h0 := hB.1.1
  have h120 := hB.1.2.1
  refine ⟨xS (fun q => zEg (zK (g4_bo y)) q) 0 (zn (g4_bo y)).toNat, ?_, ?_, ?_, ?_⟩
  · unfold f4_inversions
    rw [z4_invL hB (zn (g4_bo y)).toNat xFU 0 0 (by decide) (by omega) (by unfold xFU; omega), Int.zero_add]
  · unfold f5_inversions
    rw [z5_invL hB hR (zn (g4_bo y)).toNat xFU 0 0 (by decide) (by omega) (by unfold xFU; omega), Int.zero_add, zEgLg h0]
  · exact xS_nonneg _ _ (fun q a c => (zEg_le (by omega)).1)
  · have := xS_bound (f := fun q => zEg (zK (g4_bo y)) q) 120 (zn (g4_bo y)).toNat 0 (fun q a c => by
      have := (zEg_le (K := zK (g4_bo y)) (q := q) (by omega)).2
      show zEg (zK (g4_bo y)) q ≤ 120
      omega)
    omega

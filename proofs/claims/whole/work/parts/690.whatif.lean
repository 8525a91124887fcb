/-! What if: the boat emptied; the runs merged. -/
def rieTail (x1 : ModS) : Option (Int × ModS) := (f5_emptyAll x1).bind fun x6 => (x_ld 730 (g5_now x6) 8).bind fun v7 => f5_runsIfEmptied_L46 v7 xFU 0 x6
theorem z5_putL {x : ModS} : ∀ (m fu : Nat) (l : Int) (pl : Int → Int), 0 ≤ l → l + (m : Int) = 730 → m < fu → (∀ i, 0 ≤ i → i < l → pl i = g5_now x i) → ∃ pl', f5_runsIfEmptied_L7 fu l (s5_put x pl) = rieTail (s5_put x pl') ∧ ∀ i, 0 ≤ i → i < 730 → pl' i = g5_now x i
  | 0, 0, _, _, _, _, h, _ => by omega
  | m + 1, 0, _, _, _, _, h, _ => by omega
  | 0, fu + 1, l, pl, l0, lm, _, h => by
    refine ⟨pl, ?_, fun i i0 i1 => h i i0 (by omega)⟩
    unfold f5_runsIfEmptied_L7
    rw [z_ltF ⟨by omega, by omega⟩ (by decide) (by omega)]
    rfl
  | m + 1, fu + 1, l, pl, l0, lm, hf, h => by
    obtain ⟨pl', q1, q2⟩ := z5_putL (x := x) m fu (l + 1) (x_up pl l (g5_now x l)) (by omega) (by omega) (by omega) (fun i i0 i1 => by
      by_cases e : i = l
      · rw [e, z_upS]
      · rw [z_upN e]; exact h i i0 (by omega))
    refine ⟨pl', ?_, q2⟩
    unfold f5_runsIfEmptied_L7
    rw [← q1]
    rw [z_ltT ⟨by omega, by omega⟩ (by decide) (by omega), z_bind (z_ldT l0 (by show _ < (730 : Int); omega)), z_bind (z_stT l0 (by show _ < (730 : Int); omega))]
    rfl
theorem z5_backL {x : ModS} {v : Int} : ∀ (m fu : Nat) (l : Int) (nl : Int → Int), 0 ≤ l → l + (m : Int) = 730 → m < fu → (∀ i, 0 ≤ i → i < l → nl i = g5_put x i) → ∃ nl', f5_runsIfEmptied_L46 v fu l (s5_now x nl) = some (v, s5_now x nl') ∧ ∀ i, 0 ≤ i → i < 730 → nl' i = g5_put x i
  | 0, 0, _, _, _, _, h, _ => by omega
  | m + 1, 0, _, _, _, _, h, _ => by omega
  | 0, fu + 1, l, nl, l0, lm, _, h => by
    refine ⟨nl, ?_, fun i i0 i1 => h i i0 (by omega)⟩
    unfold f5_runsIfEmptied_L46
    rw [z_ltF ⟨by omega, by omega⟩ (by decide) (by omega)]
  | m + 1, fu + 1, l, nl, l0, lm, hf, h => by
    obtain ⟨nl', q1, q2⟩ := z5_backL (x := x) (v := v) m fu (l + 1) (x_up nl l (g5_put x l)) (by omega) (by omega) (by omega) (fun i i0 i1 => by
      by_cases e : i = l
      · rw [e, z_upS]
      · rw [z_upN e]; exact h i i0 (by omega))
    refine ⟨nl', ?_, q2⟩
    unfold f5_runsIfEmptied_L46
    rw [← q1]
    rw [z_ltT ⟨by omega, by omega⟩ (by decide) (by omega), z_bind (z_ldT l0 (by show _ < (730 : Int); omega)), z_bind (z_stT l0 (by show _ < (730 : Int); omega))]
    rfl
theorem zs_rie {b b1 : BoatS} {x : ModS} {c : Int} (hJ : zJ b (g5_now x) c) (hc : c + 120 < 1000000000) (he : zEq b1 b) : ∃ v b2 pl nw, f0_throwAll b1 = some (v, b2) ∧ f5_runsIfEmptied_L7 xFU 0 x = some (v, s5_now (s5_put x pl) nw) ∧ (∀ i, 0 ≤ i → i < 730 → nw i = g5_now x i) ∧ 0 ≤ v ∧ v ≤ 120 := by
  have hJ1 := zJ_eq hJ he
  obtain ⟨pl, p1, p2⟩ := z5_putL (x := x) 730 xFU 0 (g5_put x) (by decide) (by decide) (by unfold xFU; omega) (fun i a c => by omega)
  obtain ⟨b2, now2, t1, t2, t3, t4, t5, t6⟩ := zs_throwAll (x := s5_put x pl) hJ1 hc
  obtain ⟨nw, w1, w2⟩ := z5_backL (x := s5_put x pl) (v := zR b2) 730 xFU 0 now2 (by decide) (by decide) (by unfold xFU; omega) (fun i a c => by omega)
  have hR := t3.1.R_le
  have h120 := t3.1.1.2.1
  have r0 := t3.1.R0
  refine ⟨zR b2, b2, pl, nw, t1, ?_, fun i i0 i1 => by rw [w2 i i0 i1]; exact p2 i i0 i1, r0, by omega⟩
  have e8 : x_ld 730 (g5_now (s5_now (s5_put x pl) now2)) 8 = some (zR b2) := by
    rw [z_ldT (by decide) (by decide)]
    exact congrArg some t3.2.1.2.2.2.2.2.2.2.2.1
  refine p1.trans ?_
  unfold rieTail
  rw [z_bind t2, z_bind e8]
  exact w1
theorem zG_join0 {b : BoatS} (h : 2 ≤ zR b) : zG (bJoin b 0 1) 0 = zG b 0 + zG b 1 ∧ ∀ j, 1 ≤ j → j < zR b - 1 → zG (bJoin b 0 1) j = zG b (j + 1) := by
  constructor
  · show zRem (x_up (zG b) 0 (zG b 0 + zG b 1)) 1 (zR b) 0 = _
    unfold zRem
    rw [if_neg (by omega), z_upS]
  · intro j j0 j1
    show zRem (x_up (zG b) 0 (zG b 0 + zG b 1)) 1 (zR b) j = _
    unfold zRem
    rw [if_pos ⟨j0, j1⟩, z_upN (by omega)]
theorem zs_cbnL {b b0 : BoatS} {x : ModS} (hB : zB b) (hR : zRel b (g5_now x)) : ∀ (m fu fu2 : Nat) (t l1 l2 : Int) (bt : BoatS), zB bt → zR bt = zR b - t → (m : Int) + 1 = zR bt → 0 ≤ t → zG bt 0 = l2 → (∀ j, 1 ≤ j → j < zR bt → zG bt j = zG b (j + t)) → g0_cst bt - g0_cst b0 = l1 → 0 ≤ l1 → l1 ≤ 6000 * t → m + 1 < fu → m < fu2 → ∃ v b2, f0_joinAllByNumber_L13 b0 fu ((m : Int) + 1) bt = some (v, b2) ∧ f5_costByNumber_L11 x fu2 l1 l2 (t + 1) = some (v, s5_thr x 0) ∧ 0 ≤ v ∧ v ≤ 720000
  | _, 0, _, _, _, _, _, _, _, _, _, _, _, _, _, _, h, _ => by omega
  | 0, _ + 1, 0, _, _, _, _, _, _, _, _, _, _, _, _, _, _, h => by omega
  | m + 1, _ + 1, 0, _, _, _, _, _, _, _, _, _, _, _, _, _, _, h => by omega
  | 0, fu + 1, fu2 + 1, t, l1, l2, bt, hBt, hRt, hm, t0, g0, g1, hc, c0, c1, _, _ => by
    have hRl := hB.R_le
    have h120 := hB.1.2.1
    have e8 : x_ld 730 (g5_now x) 8 = some (zR b) := by rw [z_ldT (by decide) (by decide), hR.2.2.2.2.2.2.2.2.1]
    refine ⟨l1, bt, ?_, ?_, c0, by omega⟩
    · unfold f0_joinAllByNumber_L13
      rw [z_ltF (by decide) ⟨by omega, by omega⟩ (by omega), hc]
    · unfold f5_costByNumber_L11
      rw [z_bind e8, z_ltF ⟨by omega, by omega⟩ ⟨by omega, by omega⟩ (by omega)]
  | m + 1, fu + 1, fu2 + 1, t, l1, l2, bt, hBt, hRt, hm, t0, g0, g1, hc, c0, c1, hf1, hf2 => by
    have hRl := hB.R_le
    have h120 := hB.1.2.1
    have e8 : x_ld 730 (g5_now x) 8 = some (zR b) := by rw [z_ldT (by decide) (by decide), hR.2.2.2.2.2.2.2.2.1]
    have hi := hB.2.2.2.1.2.2.1 (t + 1) (by omega) (by omega)
    have en : f5_numberAt (s5_thr x 0) (t + 1) = some (zF b (t + 1)) := by
      unfold f5_numberAt
      rw [z_bind (z_ldT (by omega) (by show _ < (730 : Int); omega))]
      exact congrArg some (hR.2.2.2.2.2.2.2.2.2 (t + 1) (by omega) (by omega)).1
    have ew : f5_weightOf (s5_thr x 0) (zF b (t + 1)) = some (zG b (t + 1)) := by
      rw [z5_weightOf (x := s5_thr x 0) hR.1 hB.1 hi.1 (hB.xF _ (by omega) (by show t + 1 < zR b; omega)), hi.2.2.2.2.1]
    have g1' : zG bt 1 = zG b (t + 1) := by rw [g1 1 (by decide) (by omega), Int.add_comm]
    have h2 := hBt.G_two (i := 0) (j := 1) (by decide) (by decide) (by omega)
    have hj := zG_join0 (b := bt) (by omega)
    obtain ⟨v, b2, q1, q2, q3⟩ := zs_cbnL (b0 := b0) hB hR m fu fu2 (t + 1) (l1 + (l2 + zG b (t + 1))) (l2 + zG b (t + 1)) (bJoin bt 0 1) (zB_join hBt (by decide) (by decide) (by omega)) (by show zR bt - 1 = zR b - (t + 1); omega) (by show (m : Int) + 1 = zR bt - 1; omega) (by omega) (by rw [hj.1, g0, g1']) (fun j j0 j1 => by
      have j1' : j < zR bt - 1 := j1
      rw [hj.2 j j0 j1', g1 (j + 1) (by omega) (by omega), show j + 1 + t = j + (t + 1) by omega]) (by show g0_cst bt + (zG bt 0 + zG bt 1) - g0_cst b0 = _; omega) (by omega) (by omega) (by omega) (by omega)
    refine ⟨v, b2, ?_, ?_, q3⟩
    · unfold f0_joinAllByNumber_L13
      rw [z_ltT (by decide) ⟨by omega, by omega⟩ (by omega), z_bind (hBt.getF (i := 0) (by decide) (by omega)), z_bind (hBt.getF (i := 1) (by decide) (by omega)), z_bind2 (z0_join hBt (i := 0) (j := 1) (by decide) (by decide) (by omega) (Or.inl ⟨rfl, rfl⟩))]
      dsimp only
      rw [show ((m + 1 : Nat) : Int) + 1 + (-1) = (m : Int) + 1 by omega]
      exact q1
    · unfold f5_costByNumber_L11
      rw [z_bind e8, z_ltT ⟨by omega, by omega⟩ ⟨by omega, by omega⟩ (by omega), z_bind en, z_bind ew, z_ltT (by decide) ⟨by omega, by omega⟩ (by omega)]
      exact q2
theorem zs_cbn {b b1 : BoatS} {x : ModS} {c : Int} (hJ : zJ b (g5_now x) c) (he : zEq b1 b) : ∃ v b2, f0_joinAllByNumber b1 = some (v, b2) ∧ f5_costByNumber x = some (v, s5_thr x 0) ∧ 0 ≤ v ∧ v ≤ 720000 := by
  have hB := hJ.1
  have hB1 := zB_eq hB he
  have hR := hJ.2.1
  have hRl := hB.R_le
  have r0 := hB.R0
  have h120 := hB.1.2.1
  have eR : zR b1 = zR b := he.2.2.2.2.2.1.1
  have eG : ∀ k, 0 ≤ k → k < zR b → zG b1 k = zG b k := fun k k0 k1 => he.2.2.2.2.2.2.2.2 k k0 (by rw [hB.eG]; exact k1)
  have e8 : x_ld 730 (g5_now x) 8 = some (zR b) := by rw [z_ldT (by decide) (by decide), hR.2.2.2.2.2.2.2.2.1]
  unfold f0_joinAllByNumber f5_costByNumber
  rw [z_bind (show f2_size 120 (g0_flts b1) = some (zR b1) from rfl)]
  by_cases h : zR b = 0
  · refine ⟨0, b1, ?_, ?_, by decide, by decide⟩
    · rw [show xFU = 99999 + 1 from rfl]
      unfold f0_joinAllByNumber_L13
      rw [z_ltF (by decide) ⟨by omega, by omega⟩ (by omega), Int.sub_self]
    · rw [show xFU = 99999 + 1 from rfl]
      unfold f5_costByNumber_L11
      rw [z_bind e8, z_ltF (by decide) ⟨by omega, by omega⟩ (by omega)]
  · have hi := hB.2.2.2.1.2.2.1 0 (by decide) (by omega)
    have en : f5_numberAt (s5_thr x 0) 0 = some (zF b 0) := by
      unfold f5_numberAt
      rw [z_bind (z_ldT (by decide) (by decide))]
      exact congrArg some (hR.2.2.2.2.2.2.2.2.2 0 (by decide) (by omega)).1
    have ew : f5_weightOf (s5_thr x 0) (zF b 0) = some (zG b 0) := by
      rw [z5_weightOf (x := s5_thr x 0) hR.1 hB.1 hi.1 (hB.xF _ (by decide) (by show 0 < zR b; omega)), hi.2.2.2.2.1]
    obtain ⟨v, b2, q1, q2, q3⟩ := zs_cbnL (b := b) (b0 := b1) (x := x) hB hR (zR b - 1).toNat xFU 99999 0 0 (zG b 0) b1 hB1 (by omega) (by omega) (by decide) (eG 0 (by decide) (by omega)) (fun j j0 j1 => by rw [Int.add_zero]; exact eG j (by omega) (by omega)) (by omega) (by decide) (by decide) (by unfold xFU; omega) (by omega)
    refine ⟨v, b2, ?_, ?_, q3⟩
    · rw [show (((zR b - 1).toNat : Nat) : Int) + 1 = zR b1 by omega] at q1
      exact q1
    · rw [show xFU = 99999 + 1 from rfl]
      unfold f5_costByNumber_L11
      rw [z_bind e8, z_ltT (by decide) ⟨by omega, by omega⟩ (by omega), z_bind en, z_bind ew, z_ltF (by decide) (by decide) (by decide)]
      rw [show (0 : Int) + 0 = 0 from rfl, Int.zero_add, Int.zero_add]
      exact q2

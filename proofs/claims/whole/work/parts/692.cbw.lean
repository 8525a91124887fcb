/-! What if: the runs merged by weight. -/
theorem z5_leftL {x : ModS} {R v : Int} (h8 : g5_now x 8 = R) (R1 : R ≤ 120) (hv : xin v) (hl : ∀ q, 0 ≤ q → q < R → -1 ≤ g5_lef x q ∧ g5_lef x q ≤ 1000000) : ∀ (m fu : Nat) (r l : Int), 0 ≤ l → l + (m : Int) = R → m < fu → zMin (fun q => ¬ q = v ∧ ¬ g5_lef x q = -1) (zl (g5_lef x)) l r → ∃ t, f5_lightestLeft_L4 x v fu r l = some t ∧ zMin (fun q => ¬ q = v ∧ ¬ g5_lef x q = -1) (zl (g5_lef x)) R t
  | 0, 0, _, _, _, _, h, _ => by omega
  | m + 1, 0, _, _, _, _, h, _ => by omega
  | 0, fu + 1, r, l, l0, lm, _, hz => by
    have e8 : x_ld 730 (g5_now x) 8 = some R := by rw [z_ldT (by decide) (by decide), h8]
    unfold f5_lightestLeft_L4
    rw [z_bind e8, z_ltF ⟨by omega, by omega⟩ ⟨by omega, by omega⟩ (by omega)]
    rw [show l = R by omega] at hz
    exact ⟨r, rfl, hz⟩
  | m + 1, fu + 1, r, l, l0, lm, h, hz => by
    have e8 : x_ld 730 (g5_now x) 8 = some R := by rw [z_ldT (by decide) (by decide), h8]
    have hge := zMin_ge hz
    have hll := hl l l0 (by omega)
    have el : x_ld 120 (g5_lef x) l = some (g5_lef x l) := z_ldT l0 (by show l < (120 : Int); omega)
    unfold f5_lightestLeft_L4
    rw [z_bind e8, z_ltT ⟨by omega, by omega⟩ ⟨by omega, by omega⟩ (by omega)]
    by_cases e : l = v
    · rw [z_eqT ⟨by omega, by omega⟩ e]
      exact z5_leftL h8 R1 hv hl m fu r (l + 1) (by omega) (by omega) (by omega) (zMin_no hz (fun w => w.1 e))
    · rw [z_eqF ⟨by omega, by omega⟩ hv e, z_bind el]
      by_cases d : g5_lef x l = -1
      · rw [z_eqT ⟨by omega, by omega⟩ d]
        exact z5_leftL h8 R1 hv hl m fu r (l + 1) (by omega) (by omega) (by omega) (zMin_no hz (fun w => w.2 d))
      · rw [z_eqF ⟨by omega, by omega⟩ (by decide) d]
        by_cases g : r = -1
        · rw [z_eqT ⟨by omega, by omega⟩ g]
          exact z5_leftL h8 R1 hv hl m fu l (l + 1) (by omega) (by omega) (by omega) (zMin_new l0 (by rw [g] at hz; exact hz) ⟨e, d⟩)
        · have hlr := hl r (by omega) (by omega)
          have er : x_ld 120 (g5_lef x) r = some (g5_lef x r) := z_ldT (by omega) (by show r < (120 : Int); omega)
          rw [z_eqF ⟨by omega, by omega⟩ (by decide) g, z_bind el, z_bind er]
          by_cases w : g5_lef x l < g5_lef x r
          · rw [z_ltT ⟨by omega, by omega⟩ ⟨by omega, by omega⟩ w]
            exact z5_leftL h8 R1 hv hl m fu l (l + 1) (by omega) (by omega) (by omega) (zMin_take (fun _ _ _ => zl_trans) l0 hz g ⟨e, d⟩ (Or.inl w))
          · rw [z_ltF ⟨by omega, by omega⟩ ⟨by omega, by omega⟩ w]
            exact z5_leftL h8 R1 hv hl m fu r (l + 1) (by omega) (by omega) (by omega) (zMin_keep hz g (by unfold zl; omega))
theorem z5_left {x : ModS} {R v : Int} (h8 : g5_now x 8 = R) (R0 : 0 ≤ R) (R1 : R ≤ 120) (hv : xin v) (hl : ∀ q, 0 ≤ q → q < R → -1 ≤ g5_lef x q ∧ g5_lef x q ≤ 1000000) : ∃ t, f5_lightestLeft x v = some t ∧ zMin (fun q => ¬ q = v ∧ ¬ g5_lef x q = -1) (zl (g5_lef x)) R t :=
  z5_leftL h8 R1 hv hl R.toNat xFU (-1) 0 (by omega) (by omega) (by unfold xFU; omega) zMin_0
def zIota (ι lef G : Int → Int) (n R : Int) : Prop := (∀ k, 0 ≤ k → k < n → 0 ≤ ι k ∧ ι k < R) ∧ (∀ i j, 0 ≤ i → i < j → j < n → ι i < ι j) ∧ (∀ k, 0 ≤ k → k < n → lef (ι k) = G k) ∧ (∀ q, 0 ≤ q → q < R → (∀ k, 0 ≤ k → k < n → ¬ ι k = q) → lef q = -1)
theorem zIota_inj {ι lef G : Int → Int} {n R i j : Int} (h : zIota ι lef G n R) (i0 : 0 ≤ i) (i1 : i < n) (j0 : 0 ≤ j) (j1 : j < n) (e : ι i = ι j) : i = j := by
  rcases Int.lt_trichotomy i j with q | q | q
  · have := h.2.1 i j i0 q j1; omega
  · exact q
  · have := h.2.1 j i j0 q i1; omega
theorem zIota_min {ι lef G : Int → Int} {n R v v' r : Int} (h : zIota ι lef G n R) (hG : ∀ k, 0 ≤ k → k < n → 1 ≤ G k) (hr : zMin (fun k => ¬ k = v) (zl G) n r) (nr : ¬ r = -1) (hv : ∀ k, 0 ≤ k → k < n → (k = v ↔ ι k = v')) : zMin (fun q => ¬ q = v' ∧ ¬ lef q = -1) (zl lef) R (ι r) := by
  have rr := zMin_rng hr nr
  have ir := h.1 r rr.1 rr.2.1
  have gr := hG r rr.1 rr.2.1
  have lr := h.2.2.1 r rr.1 rr.2.1
  refine Or.inr ⟨ir.1, ir.2, ⟨fun z => rr.2.2 ((hv r rr.1 rr.2.1).mpr z), by omega⟩, fun q q0 q1 hq => ?_⟩
  have hk : ∃ k, 0 ≤ k ∧ k < n ∧ ι k = q := Classical.byContradiction fun hn => hq.2 (h.2.2.2 q q0 q1 (fun k k0 k1 z => hn ⟨k, k0, k1, z⟩))
  obtain ⟨k, k0, k1, hk⟩ := hk
  have lk := h.2.2.1 k k0 k1
  rcases hr with ⟨g, _⟩ | ⟨_, _, _, g⟩
  · exact absurd g nr
  · rcases g k k0 k1 (fun z => hq.1 (by rw [← hk]; exact (hv k k0 k1).mp z)) with z | z
    · left; rw [← hk, z]
    · right
      rw [← hk]
      unfold zl at z ⊢
      rw [lr, lk]
      rcases z with z | ⟨z, w⟩
      · exact Or.inl z
      · exact Or.inr ⟨z, h.2.1 r k rr.1 w k1⟩
theorem zIota_step {ι lef lef' G : Int → Int} {n R i j : Int} (h : zIota ι lef G n R) (i0 : 0 ≤ i) (ij : i < j) (j1 : j < n) (hi : lef' (ι i) = G i + G j) (hj : lef' (ι j) = -1) (ho : ∀ q, ¬ q = ι i → ¬ q = ι j → lef' q = lef q) : zIota (zRem ι j n) lef' (zRem (x_up G i (G i + G j)) j n) (n - 1) R := by
  refine ⟨fun k k0 k1 => ?_, fun a c a0 ac c1 => ?_, fun k k0 k1 => ?_, fun q q0 q1 hq => ?_⟩
  · obtain ⟨k', a1, a2, a3, a4, a5⟩ := zRem_at (j := j) (R := n) (by omega) j1 k0 k1
    rw [a5]; exact h.1 k' a1 a2
  · obtain ⟨a', a1, a2, a3, a4, a5⟩ := zRem_at (j := j) (R := n) (by omega) j1 a0 (by omega)
    obtain ⟨c', c3, c4, c5, c6, c7⟩ := zRem_at (j := j) (R := n) (by omega) j1 (by omega : 0 ≤ c) (by omega)
    rw [a5, c7]; exact h.2.1 a' c' a1 (by omega) c4
  · obtain ⟨k', a1, a2, a3, a4, a5⟩ := zRem_at (j := j) (R := n) (by omega) j1 k0 k1
    rw [a5, a5]
    by_cases e : k' = i
    · rw [e, z_upS]; exact hi
    · rw [z_upN e, ho _ (fun z => e (zIota_inj h a1 a2 i0 (by omega) z)) (fun z => a3 (zIota_inj h a1 a2 (by omega) j1 z))]
      exact h.2.2.1 k' a1 a2
  · by_cases e : q = ι j
    · rw [e]; exact hj
    · have hall : ∀ k, 0 ≤ k → k < n → ¬ ι k = q := fun k k0 k1 z => by
        by_cases g : k = j
        · rw [g] at z; exact e z.symm
        · obtain ⟨k', a1, a2, a3, a4⟩ := zRem_to (j := j) (R := n) (k := k) (by omega) j1 k0 k1 g
          exact hq k' a1 a2 (by rw [a4]; exact z)
      rw [ho q (fun z => hall i i0 (by omega) z.symm) e]
      exact h.2.2.2 q q0 q1 hall
theorem zs_cbwL {b0 : BoatS} {R : Int} (R0 : 0 ≤ R) (R1 : R ≤ 120) : ∀ (m fu fu2 : Nat) (bt : BoatS) (x : ModS) (ι : Int → Int) (s : Int), zB bt → zR bt ≤ (m : Int) → m < fu → m < fu2 → g5_now x 8 = R → zIota ι (g5_lef x) (zG bt) (zR bt) R → g0_cst bt - g0_cst b0 = s → 0 ≤ s → s + 6000 * zR bt ≤ 720000 → ∃ v b2 lf, f0_joinAllByWeight_L13 b0 fu (zR bt) bt = some (v, b2) ∧ f5_costOfAll_L44 fu2 s (zR bt) x = some (v, s5_lef x lf) ∧ 0 ≤ v ∧ v ≤ 720000
  | 0, 0, _, _, _, _, _, _, _, h, _, _, _, _, _, _ => by omega
  | m + 1, 0, _, _, _, _, _, _, _, h, _, _, _, _, _, _ => by omega
  | 0, _ + 1, 0, _, _, _, _, _, _, _, h, _, _, _, _, _ => by omega
  | m + 1, _ + 1, 0, _, _, _, _, _, _, _, h, _, _, _, _, _ => by omega
  | 0, fu + 1, fu2 + 1, bt, x, ι, s, hB, hm, _, _, h8, hι, hc, s0, s1 => by
    have r0 := hB.R0
    unfold f0_joinAllByWeight_L13 f5_costOfAll_L44
    rw [z_ltF (by decide) ⟨by omega, by omega⟩ (by omega), z_ltF (by decide) ⟨by omega, by omega⟩ (by omega), hc]
    exact ⟨s, bt, g5_lef x, rfl, rfl, s0, by omega⟩
  | m + 1, fu + 1, fu2 + 1, bt, x, ι, s, hB, hm, f1, f2, h8, hι, hc, s0, s1 => by
    have r0 := hB.R0
    have rn := hB.R_le
    have h120 := hB.1.2.1
    by_cases h2 : 1 < zR bt
    · obtain ⟨r, t, i, j, hr, ht, i0, ij, j1, hd, e⟩ := z0_joinLight hB (by omega)
      have hG := fun k k0 k1 => (hB.G_rng (i := k) k0 k1).1
      have hl : ∀ q, 0 ≤ q → q < R → -1 ≤ g5_lef x q ∧ g5_lef x q ≤ 1000000 := fun q q0 q1 => by
        by_cases hk : ∃ k, 0 ≤ k ∧ k < zR bt ∧ ι k = q
        · obtain ⟨k, k0, k1, hk⟩ := hk
          have := hι.2.2.1 k k0 k1
          have := hB.G_rng k0 k1
          rw [← hk]; omega
        · rw [hι.2.2.2 q q0 q1 (fun k k0 k1 z => hk ⟨k, k0, k1, z⟩)]; omega
      have hrt : 0 ≤ r ∧ r < zR bt ∧ 0 ≤ t ∧ t < zR bt := by omega
      have ir := hι.1 r hrt.1 hrt.2.1
      have it := hι.1 t hrt.2.2.1 hrt.2.2.2
      obtain ⟨o, w1, w2⟩ := z5_left h8 R0 R1 (v := -1) (by decide) hl
      have eo : o = ι r := zMin_uniq (fun _ _ => zl_asym) w2 (zIota_min hι hG hr (by omega) (fun k k0 k1 => ⟨fun z => by omega, fun z => by have := hι.1 k k0 k1; omega⟩))
      rw [eo] at w1
      obtain ⟨o2, w3, w4⟩ := z5_left h8 R0 R1 (v := ι r) ⟨by omega, by omega⟩ hl
      have eo2 : o2 = ι t := zMin_uniq (fun _ _ => zl_asym) w4 (zIota_min hι hG ht (by omega) (fun k k0 k1 => ⟨fun z => by rw [z], fun z => zIota_inj hι k0 k1 hrt.1 hrt.2.1 z⟩))
      rw [eo2] at w3
      have g2 := hB.G_two i0 ij j1
      have li := hι.2.2.1 i i0 (by omega)
      have lj := hι.2.2.1 j (by omega) j1
      have lt := hι.2.1 i j i0 ij j1
      have hBj := zB_join hB i0 ij j1
      have step : ∀ lf, zIota (zRem ι j (zR bt)) lf (zG (bJoin bt i j)) (zR (bJoin bt i j)) R → ∃ v b2 lf', f0_joinAllByWeight_L13 b0 fu (zR bt + (-1)) (bJoin bt i j) = some (v, b2) ∧ f5_costOfAll_L44 fu2 (s + (zG bt i + zG bt j)) (zR bt + (-1)) (s5_lef x lf) = some (v, s5_lef x lf') ∧ 0 ≤ v ∧ v ≤ 720000 := fun lf hz => by
        obtain ⟨v, b2, lf', q1, q2, q3⟩ := zs_cbwL (b0 := b0) R0 R1 m fu fu2 (bJoin bt i j) (s5_lef x lf) (zRem ι j (zR bt)) (s + (zG bt i + zG bt j)) hBj (by show zR bt - 1 ≤ (m : Int); omega) (by omega) (by omega) h8 hz (by show g0_cst bt + (zG bt i + zG bt j) - g0_cst b0 = _; omega) (by omega) (by show s + (zG bt i + zG bt j) + 6000 * (zR bt - 1) ≤ 720000; omega)
        exact ⟨v, b2, lf', q1, by rw [← ss5_lef (x := x) (v := lf)]; exact q2, q3⟩
      have hcl : ∀ {v b2}, f0_joinAllByWeight_L13 b0 fu (zR bt + (-1)) (bJoin bt i j) = some (v, b2) → f0_joinAllByWeight_L13 b0 (fu + 1) (zR bt) bt = some (v, b2) := fun {v b2} q => by
        conv => lhs; unfold f0_joinAllByWeight_L13
        rw [z_ltT (by decide) ⟨by omega, by omega⟩ h2, z_bind2 e]
        exact q
      have ls : ∀ (f : Int → Int) k, 0 ≤ k → k < R → x_ld 120 f k = some (f k) := fun f k k0 k1 => z_ldT k0 (by show k < (120 : Int); omega)
      have st : ∀ (f : Int → Int) k v, 0 ≤ k → k < R → x_st 120 f k v = some (x_up f k v) := fun f k v k0 k1 => z_stT k0 (by show k < (120 : Int); omega)
      rcases hd with ⟨h1, h3⟩ | ⟨h1, h3⟩
      · subst h1; subst h3
        obtain ⟨v, b2, lf, q1, q2, q3⟩ := step (x_up (x_up (x_up (g5_lef x) (ι r) (-1)) (ι t) (-1)) (ι r) (zG bt r + zG bt t)) (zIota_step hι i0 ij j1 z_upS (by rw [z_upN (by omega), z_upS]) (fun q a c => by rw [z_upN a, z_upN c, z_upN a]))
        refine ⟨v, b2, lf, hcl q1, ?_, q3⟩
        conv => lhs; unfold f5_costOfAll_L44
        rw [z_ltT (by decide) ⟨by omega, by omega⟩ h2, z_bind w1, z_bind w3, z_ltT ⟨by omega, by omega⟩ ⟨by omega, by omega⟩ lt, z_bind (ls _ _ ir.1 ir.2), z_bind (ls _ _ it.1 it.2), z_bind (st _ _ _ ir.1 ir.2), z_bind (st _ _ _ it.1 it.2), z_bind (st _ _ _ ir.1 ir.2), li, lj, ss5_lef, ss5_lef]
        exact q2
      · subst h1; subst h3
        obtain ⟨v, b2, lf, q1, q2, q3⟩ := step (x_up (x_up (x_up (g5_lef x) (ι r) (-1)) (ι t) (-1)) (ι t) (zG bt t + zG bt r)) (zIota_step hι i0 ij j1 z_upS (by rw [z_upN (by omega), z_upN (by omega), z_upS]) (fun q a c => by rw [z_upN a, z_upN a, z_upN c]))
        refine ⟨v, b2, lf, hcl q1, ?_, q3⟩
        conv => lhs; unfold f5_costOfAll_L44
        rw [z_ltT (by decide) ⟨by omega, by omega⟩ h2, z_bind w1, z_bind w3, z_ltF ⟨by omega, by omega⟩ ⟨by omega, by omega⟩ (by omega), z_bind (ls _ _ ir.1 ir.2), z_bind (ls _ _ it.1 it.2), z_bind (st _ _ _ ir.1 ir.2), z_bind (st _ _ _ it.1 it.2), z_bind (st _ _ _ it.1 it.2), li, lj, ss5_lef, ss5_lef, Int.add_comm (zG bt r) (zG bt t)]
        exact q2
    · unfold f0_joinAllByWeight_L13 f5_costOfAll_L44
      rw [z_ltF (by decide) ⟨by omega, by omega⟩ h2, z_ltF (by decide) ⟨by omega, by omega⟩ h2, hc]
      exact ⟨s, bt, g5_lef x, rfl, rfl, s0, by omega⟩
theorem z5_fillL {b : BoatS} {x : ModS} (hB : zB b) (hR : zRel b (g5_now x)) : ∀ (m fu : Nat) (l : Int) (lf : Int → Int), 0 ≤ l → l + (m : Int) = zR b → m < fu → (∀ k, 0 ≤ k → k < l → lf k = zG b k) → ∃ lf', f5_costOfAll_L2 fu l (s5_lef x lf) = f5_costOfAll_L44 xFU 0 (zR b) (s5_lef x lf') ∧ ∀ k, 0 ≤ k → k < zR b → lf' k = zG b k
  | 0, 0, _, _, _, _, h, _ => by omega
  | m + 1, 0, _, _, _, _, h, _ => by omega
  | 0, fu + 1, l, lf, l0, lm, _, h => by
    have hRl := hB.R_le
    have h120 := hB.1.2.1
    have e8 : x_ld 730 (g5_now (s5_lef x lf)) 8 = some (zR b) := by rw [z_ldT (by decide) (by decide)]; exact congrArg some hR.2.2.2.2.2.2.2.2.1
    refine ⟨lf, ?_, fun k k0 k1 => h k k0 (by omega)⟩
    unfold f5_costOfAll_L2
    rw [z_bind e8, z_ltF ⟨by omega, by omega⟩ ⟨by omega, by omega⟩ (by omega), z_bind e8]
  | m + 1, fu + 1, l, lf, l0, lm, hf, h => by
    have hRl := hB.R_le
    have h120 := hB.1.2.1
    have e8 : x_ld 730 (g5_now (s5_lef x lf)) 8 = some (zR b) := by rw [z_ldT (by decide) (by decide)]; exact congrArg some hR.2.2.2.2.2.2.2.2.1
    have hi := hB.2.2.2.1.2.2.1 l l0 (by omega)
    have en : f5_numberAt (s5_lef x lf) l = some (zF b l) := by
      unfold f5_numberAt
      rw [z_bind (z_ldT (by omega) (by show _ < (730 : Int); omega))]
      exact congrArg some (hR.2.2.2.2.2.2.2.2.2 l l0 (by omega)).1
    have ew : f5_weightOf (s5_lef x lf) (zF b l) = some (zG b l) := by
      rw [z5_weightOf (x := s5_lef x lf) hR.1 hB.1 hi.1 (hB.xF _ l0 (by show l < zR b; omega)), hi.2.2.2.2.1]
    obtain ⟨lf', q1, q2⟩ := z5_fillL hB hR m fu (l + 1) (x_up lf l (zG b l)) (by omega) (by omega) (by omega) (fun k k0 k1 => by
      by_cases e : k = l
      · rw [e, z_upS]
      · rw [z_upN e]; exact h k k0 (by omega))
    refine ⟨lf', ?_, q2⟩
    unfold f5_costOfAll_L2
    rw [← q1]
    rw [z_bind e8, z_ltT ⟨by omega, by omega⟩ ⟨by omega, by omega⟩ (by omega), z_bind en, z_bind ew, z_bind (z_stT l0 (by show l < (120 : Int); omega)), ss5_lef]
    rfl
theorem zs_cbw {b b1 : BoatS} {x : ModS} {c : Int} (hJ : zJ b (g5_now x) c) (he : zEq b1 b) : ∃ v b2 lf, f0_joinAllByWeight b1 = some (v, b2) ∧ f5_costOfAll x = some (v, s5_lef x lf) ∧ 0 ≤ v ∧ v ≤ 720000 := by
  have hB := hJ.1
  have hB1 := zB_eq hB he
  have r0 := hB.R0
  have rn := hB.R_le
  have h120 := hB.1.2.1
  have eR : zR b1 = zR b := he.2.2.2.2.2.1.1
  have eG : ∀ k, 0 ≤ k → k < zR b → zG b1 k = zG b k := fun k k0 k1 => he.2.2.2.2.2.2.2.2 k k0 (by rw [hB.eG]; exact k1)
  obtain ⟨lf, q1, q2⟩ := z5_fillL (x := x) hB hJ.2.1 (zR b).toNat xFU 0 (g5_lef x) (by omega) (by omega) (by unfold xFU; omega) (fun k a d => by omega)
  obtain ⟨v, b2, lf2, w1, w2, w3⟩ := zs_cbwL (b0 := b1) (R := zR b) r0 (by omega) (zR b).toNat xFU xFU b1 (s5_lef x lf) (fun k => k) 0 hB1 (by omega) (by unfold xFU; omega) (by unfold xFU; omega) hJ.2.1.2.2.2.2.2.2.2.2.1 ⟨fun k k0 k1 => ⟨k0, by show k < zR b; omega⟩, fun i j _ ij _ => ij, fun k k0 k1 => by rw [eG k k0 (by omega)]; exact q2 k k0 (by omega), fun q q0 q1 hq => absurd rfl (hq q q0 (by omega))⟩ (by omega) (by decide) (by omega)
  refine ⟨v, b2, lf2, ?_, ?_, w3⟩
  · unfold f0_joinAllByWeight
    rw [z_bind (show f2_size 120 (g0_flts b1) = some (zR b1) from rfl)]
    exact w1
  · have e0 : f5_costOfAll x = f5_costOfAll_L2 xFU 0 (s5_lef x (g5_lef x)) := rfl
    rw [e0, q1, ← eR, w2, ss5_lef]

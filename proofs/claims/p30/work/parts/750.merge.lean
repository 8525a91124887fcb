/-! The law merges two runs, and lets one be brought ashore: homes that change. -/
theorem lQ_cg {va K W H H' : Int → Int} {n : Int} (h : lQ va K W H n) (e : ∀ p, 0 ≤ p → p < n → H' p = H p) : lQ va K W H' n := ⟨h.1, fun p p0 p1 => by rw [e p p0 p1]; exact h.2 p p0 p1⟩
/-- a parcel's home told again -/
theorem lV_gone {vf F S : Int → Int} {R flo j : Int} (h : lV vf F S R flo) (hinc : ∀ i k, 0 ≤ i → i < k → k < R → F i < F k) (j0 : 0 ≤ j) (j1 : j < R) : lV (x_up vf (F j) (-1)) (zRem F j R) (zRem S j R) (R - 1) flo := by
  have inj : ∀ i k, 0 ≤ i → i < R → 0 ≤ k → k < R → F i = F k → i = k := fun i k i0 i1 k0 k1 e => by
    rcases Int.lt_trichotomy i k with q | q | q
    · have := hinc i k i0 q k1; omega
    · exact q
    · have := hinc k i k0 q i1; omega
  refine ⟨fun k k0 k1 => ?_, fun r r0 r1 hr => ?_⟩
  · obtain ⟨k', a1, a2, a3, a4, a5⟩ := zRem_at (j := j) (R := R) j0 j1 k0 k1
    rw [a5, a5, z_upN (fun z => a3 (inj k' j a1 a2 j0 j1 z))]
    exact h.1 k' a1 a2
  · by_cases e : r = F j
    · rw [e, z_upS]
    · rw [z_upN e]
      refine h.2 r r0 r1 (fun k k0 k1 z => ?_)
      obtain ⟨k', a1, a2, a3, a4⟩ := zRem_to (j := j) (R := R) (k := k) j0 j1 k0 k1 (fun w => e (by rw [← z, w]))
      exact hr k' a1 a2 (by rw [a4]; exact z)
def lmTail (k3 k4 k6 k7 : Int) (va g144 g145 : Int → Int) : Option (Int × (Int → Int) × (Int → Int) × (Int → Int)) :=
        (x_st 64 g145 k6 (-1)).bind fun g154 =>
        (x_ld 8 g144 2).bind fun v155 =>
        x_eq v155 k3 (
          (x_st 8 g144 2 (-1)).bind fun g157 =>
          (x_ld 8 g157 4).bind fun v158 =>
          (x_st 8 g157 4 (v158 + k7)).bind fun g159 =>
          (x_ld 8 g159 5).bind fun v160 =>
          (x_st 8 g159 5 (v160 + 1)).bind fun g161 =>
          some (k7, va, g161, g154)) (
          (x_ld 8 g144 2).bind fun v162 =>
          x_eq v162 k4 (
            (x_st 8 g144 2 (-1)).bind fun g164 =>
            (x_ld 8 g164 4).bind fun v165 =>
            (x_st 8 g164 4 (v165 + k7)).bind fun g166 =>
            (x_ld 8 g166 5).bind fun v167 =>
            (x_st 8 g166 5 (v167 + 1)).bind fun g168 =>
            some (k7, va, g168, g154)) (
            (x_ld 8 g144 2).bind fun v169 =>
            (x_st 8 g144 2 v169).bind fun g170 =>
            (x_ld 8 g170 4).bind fun v171 =>
            (x_st 8 g170 4 (v171 + k7)).bind fun g172 =>
            (x_ld 8 g172 5).bind fun v173 =>
            (x_st 8 g172 5 (v173 + 1)).bind fun g174 =>
            some (k7, va, g174, g154)))
theorem lr_mvL {vh vf K W H : Int → Int} {n p q a c cost : Int} (hv : vh 0 = n) (a0 : 0 ≤ a) (a1 : a ≤ 4000) (c0 : 0 ≤ c) (c1 : c ≤ 4000) : ∀ (m fu : Nat) (l : Int) (va : Int → Int), 0 ≤ l → l + (m : Int) = n → m < fu → lQ va K W (zMv H a c l) n → ∃ va', fL_merges_L42 p q c a cost fu l va vh vf = lmTail p q a cost va' vh vf ∧ lQ va' K W (zMv H a c n) n
  | 0, 0, _, _, _, _, h, _ => by omega
  | m + 1, 0, _, _, _, _, h, _ => by omega
  | 0, fu + 1, l, va, l0, hl, _, hA => by
    have hn := hA.1
    refine ⟨va, ?_, by rw [← show l = n by omega] at hA ⊢; exact hA⟩
    unfold fL_merges_L42
    rw [z_bind (z_ldT (by decide) (by decide)), hv, z_ltF ⟨by omega, by omega⟩ ⟨by omega, by omega⟩ (by omega)]
    rfl
  | m + 1, fu + 1, l, va, l0, hl, h, hA => by
    have hn := hA.1
    have hi := (hA.2 l l0 (by omega)).2.2.2
    have e1 := lq_where hA l0 (by omega : l < n)
    have e2 := lq_run hA l0 (by omega : l < n)
    rw [zMv_at] at e1 e2 hi
    have r2 := zof_rng hi.2
    unfold fL_merges_L42
    rw [z_bind (z_ldT (by decide) (by decide)), hv, z_ltT ⟨by omega, by omega⟩ ⟨by omega, by omega⟩ (by omega), z_bind e1]
    by_cases d : 0 ≤ H l
    · rw [z_eqT (l_wxin _) ((zwh_1 hi.1).mpr d), z_bind e2, zof_0 d]
      by_cases e : H l = a
      · have hg := lq_goes hA (h' := c) l0 (by omega) (zwh_run c0) (zof_0 c0).symm c1
        have hu := lq_up (p := l) (r := c) hA (by omega) c1
        rw [zMv_y l0 e] at hu
        rw [z_eqT ⟨by omega, by omega⟩ e, z_bind hg]
        exact lr_mvL hv a0 a1 c0 c1 m fu (l + 1) _ (by omega) (by omega) (by omega) hu
      · rw [z_eqF ⟨by omega, by omega⟩ ⟨by omega, by omega⟩ e]
        exact lr_mvL hv a0 a1 c0 c1 m fu (l + 1) va (by omega) (by omega) (by omega) (by rw [zMv_n e]; exact hA)
    · rw [z_eqF (l_wxin _) (by decide) (fun z => d ((zwh_1 hi.1).mp z))]
      exact lr_mvL hv a0 a1 c0 c1 m fu (l + 1) va (by omega) (by omega) (by omega) (by rw [zMv_n (by omega)]; exact hA)
theorem lm_end {vh : Int → Int} {cst mrg cost o : Int} (h4 : vh 4 = cst) (h5 : vh 5 = mrg) {va f : Int → Int} : ((x_st 8 vh 2 o).bind fun g157 => (x_ld 8 g157 4).bind fun v158 => (x_st 8 g157 4 (v158 + cost)).bind fun g159 => (x_ld 8 g159 5).bind fun v160 => (x_st 8 g159 5 (v160 + 1)).bind fun g161 => some (cost, va, g161, f)) = some (cost, va, x_up (x_up (x_up vh 2 o) 4 (cst + cost)) 5 (mrg + 1), f) := by
  rw [z_bind (z_stT (by decide) (by decide)), z_bind (z_ldT (by decide) (by decide)), z_bind (z_stT (by decide) (by decide)), z_bind (z_ldT (by decide) (by decide)), z_bind (z_stT (by decide) (by decide)), z_upN (by decide), h4, z_upN (by decide), z_upN (by decide), h5]
theorem lr_merge {b : BoatS} {va vh vf : Int → Int} {c : Int} (hJ : lJ b va vh vf c) (hc : c + 6000 < 1000000000) {i j p q : Int} (i0 : 0 ≤ i) (ij : i < j) (j1 : j < zR b) (hpq : (p = zF b i ∧ q = zF b j) ∨ (p = zF b j ∧ q = zF b i)) : ∃ va' vh' vf', f0_join b p q = some (zG b i + zG b j, bJoin b i j) ∧ fL_merges va vh vf p q = some (zG b i + zG b j, va', vh', vf') ∧ lJ (bJoin b i j) va' vh' vf' (c + 6000) ∧ 2 ≤ zG b i + zG b j ∧ zG b i + zG b j ≤ 6000 := by
  obtain ⟨hB, hR, hT⟩ := hJ
  have hi := hB.2.2.2.1.2.2.1 i i0 (by omega)
  have hj := hB.2.2.2.1.2.2.1 j (by omega) j1
  have hf := hR.2.2.2
  have lt := hB.2.2.2.1.2.1 i j i0 ij j1
  have hG := hB.G_two i0 ij j1
  have hx := hB.opn_x
  have hn := hR.1.1
  have w1 := lr_weighs hR hB i0 (by omega)
  have w2 := lr_weighs hR hB (i := j) (by omega) j1
  obtain ⟨va', e1, e2⟩ := lr_mvL (vh := vh) (vf := vf) (p := p) (q := q) (cost := zG b i + zG b j) hR.h0 (a := zF b j) (c := zF b i) hj.1 (by omega) hi.1 (by omega) (zn b).toNat xFU 0 va (by omega) (by omega) (by unfold xFU; omega) (by rw [zMv_0]; exact hR.1)
  have em : fL_merges va vh vf p q = lmTail p q (zF b j) (zG b i + zG b j) va' vh vf := by
    unfold fL_merges
    rcases hpq with ⟨h1, h2⟩ | ⟨h1, h2⟩
    · subst h1; subst h2
      rw [z_ltT ⟨by omega, by omega⟩ ⟨by omega, by omega⟩ lt, z_bind w1, z_bind w2, show zF b i + zF b j - zF b i = zF b j by omega]
      exact e1
    · subst h1; subst h2
      rw [z_ltF ⟨by omega, by omega⟩ ⟨by omega, by omega⟩ (by omega), z_bind w2, z_bind w1, show zF b j + zF b i - zF b i = zF b j by omega, show zG b j + zG b i = zG b i + zG b j by omega]
      exact e1
  have xp : xin p := by rcases hpq with ⟨h1, h2⟩ | ⟨h1, h2⟩ <;> rw [h1] <;> exact ⟨by omega, by omega⟩
  have xq : xin q := by rcases hpq with ⟨h1, h2⟩ | ⟨h1, h2⟩ <;> rw [h2] <;> exact ⟨by omega, by omega⟩
  obtain ⟨h0, h1, h2, h3, h4, h5, h6, h7⟩ := hR.2.1
  have et : lmTail p q (zF b j) (zG b i + zG b j) va' vh vf = some (zG b i + zG b j, va', x_up (x_up (x_up vh 2 (if g0_opn b = zF b i ∨ g0_opn b = zF b j then -1 else g0_opn b)) 4 (g0_cst b + (zG b i + zG b j))) 5 (g0_mrg b + 1), x_up vf (zF b j) (-1)) := by
    unfold lmTail
    rw [z_bind (z_stT hj.1 (by show zF b j < (64 : Int); omega)), z_bind hR.ld2]
    by_cases c1 : g0_opn b = p
    · rw [z_eqT hx c1, if_pos (by omega)]
      exact lm_end h4 h5
    · rw [z_eqF hx xp c1, z_bind hR.ld2]
      by_cases c2 : g0_opn b = q
      · rw [z_eqT hx c2, if_pos (by omega)]
        exact lm_end h4 h5
      · rw [z_eqF hx xq c2, z_bind hR.ld2, if_neg (by omega)]
        exact lm_end h4 h5
  refine ⟨_, _, _, z0_join hB i0 ij j1 hpq, em.trans et, ⟨zB_join hB i0 ij j1, ⟨e2, ⟨?_, ?_, ?_, ?_, ?_, ?_, ?_, ?_⟩, lV_gone hR.2.2.1 hB.2.2.2.1.2.1 (by omega) j1, hf⟩, ?_⟩, hG.1, hG.2⟩
  · rw [z_upN (by decide), z_upN (by decide), z_upN (by decide)]; exact h0
  · rw [z_upN (by decide), z_upN (by decide), z_upN (by decide)]; exact h1
  · rw [z_upN (by decide), z_upN (by decide), z_upS]; rfl
  · rw [z_upN (by decide), z_upN (by decide), z_upN (by decide)]; exact h3
  · rw [z_upN (by decide), z_upS]; rfl
  · rw [z_upS]; rfl
  · rw [z_upN (by decide), z_upN (by decide), z_upN (by decide)]; exact h6
  · rw [z_upN (by decide), z_upN (by decide), z_upN (by decide)]; exact h7
  · obtain ⟨a1, a2, a3, a4, a5⟩ := hT
    exact ⟨by show g0_flo b ≤ c + 6000; omega, ⟨by show 0 ≤ g0_cst b + (zG b i + zG b j); omega, by show g0_cst b + (zG b i + zG b j) ≤ c + 6000; omega⟩, ⟨by show 0 ≤ g0_mrg b + 1; omega, by show g0_mrg b + 1 ≤ c + 6000; omega⟩, ⟨a4.1, by show g0_stm b ≤ c + 6000; omega⟩, ⟨a5.1, by show g0_brk b ≤ c + 6000; omega⟩⟩

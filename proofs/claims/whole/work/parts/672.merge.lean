/-! Two runs become one: the model's side. -/
theorem zM_of {now K W H : Int → Int} {n p r : Int} (h : zM now K W H n) (p0 : 0 ≤ p) (h1 : zwh (H p) = 1) (h2 : zwh r = 1) (h3 : zof r = r) : zM (x_up now (250 + 4 * p + 3) r) K W (x_up H p r) n := by
  refine ⟨by rw [z_upN (by omega)]; exact h.1, fun q q0 q1 => ?_⟩
  have hq := h.2 q q0 q1
  by_cases e : q = p
  · subst e
    rw [z_upS, z_upS, h3, z_upN (by omega), z_upN (by omega), z_upN (by omega)]
    exact ⟨hq.1, hq.2.1, by rw [hq.2.2.1, h1, h2], rfl⟩
  · rw [z_upN e, z_upN (by omega), z_upN (by omega), z_upN (by omega), z_upN (by omega)]
    exact hq
theorem z5_placeL {x : ModS} {F : Int → Int} {R v : Int} (h8 : g5_now x 8 = R) (h9 : ∀ k, 0 ≤ k → k < R → g5_now x (10 + 2 * k) = F k) (R1 : R ≤ 120) (hv : xin v) (hx : ∀ k, 0 ≤ k → k < R → xin (F k)) : ∀ (m fu : Nat) (l : Int), 0 ≤ l → l + (m : Int) = R → m < fu → (∀ j, 0 ≤ j → j < l → ¬ F j = v) → ∃ t, f5_placeOf_L2 x v fu l = some t ∧ zIdx F R v t
  | 0, 0, _, _, _, h, _ => by omega
  | m + 1, 0, _, _, _, h, _ => by omega
  | 0, fu + 1, l, h0, hl, _, hn => by
    have e8 : x_ld 730 (g5_now x) 8 = some R := by rw [z_ldT (by decide) (by decide), h8]
    unfold f5_placeOf_L2
    rw [z_bind e8, z_ltF ⟨by omega, by omega⟩ ⟨by omega, by omega⟩ (by omega)]
    exact ⟨-1, rfl, Or.inl ⟨rfl, fun j a b => hn j a (by omega)⟩⟩
  | m + 1, fu + 1, l, h0, hl, hf, hn => by
    have e8 : x_ld 730 (g5_now x) 8 = some R := by rw [z_ldT (by decide) (by decide), h8]
    have en : f5_numberAt x l = some (F l) := by
      unfold f5_numberAt
      rw [z_bind (z_ldT (by omega) (by show _ < (730 : Int); omega)), h9 l h0 (by omega)]
    unfold f5_placeOf_L2
    rw [z_bind e8, z_ltT ⟨by omega, by omega⟩ ⟨by omega, by omega⟩ (by omega), z_bind en]
    by_cases q : F l = v
    · rw [z_eqT (hx l h0 (by omega)) q]
      exact ⟨l, rfl, Or.inr ⟨h0, by omega, q, hn⟩⟩
    · rw [z_eqF (hx l h0 (by omega)) hv q]
      exact z5_placeL h8 h9 R1 hv hx m fu (l + 1) (by omega) (by omega) (by omega) (fun j a b => by
        by_cases e : j = l
        · rw [e]; exact q
        · exact hn j a (by omega))
theorem z5_place' {x : ModS} {F : Int → Int} {R v : Int} (h8 : g5_now x 8 = R) (h9 : ∀ k, 0 ≤ k → k < R → g5_now x (10 + 2 * k) = F k) (R0 : 0 ≤ R) (R1 : R ≤ 120) (hv : xin v) (hx : ∀ k, 0 ≤ k → k < R → xin (F k)) : ∃ t, f5_placeOf x v = some t ∧ zIdx F R v t :=
  z5_placeL h8 h9 R1 hv hx R.toNat xFU 0 (by omega) (by omega) (by unfold xFU; omega) (fun j a b => by omega)
theorem z5_placeAt {b : BoatS} {x : ModS} (hB : zB b) (h8 : g5_now x 8 = zR b) (h9 : ∀ k, 0 ≤ k → k < zR b → g5_now x (10 + 2 * k) = zF b k) {i : Int} (i0 : 0 ≤ i) (i1 : i < zR b) : f5_placeOf x (zF b i) = some i := by
  have hR := hB.R_le
  have h120 := hB.1.2.1
  obtain ⟨t, e, ht⟩ := z5_place' h8 h9 hB.R0 (by omega) (hB.xF i i0 i1) hB.xF
  rw [e, zIdx_uniq ht (zIdx_at hB.2.2.2.1.2.1 i0 i1)]
def zDrp (f : Int → Int) (j l : Int) : Int → Int := fun i => if 10 + 2 * j ≤ i ∧ i < l then f (i + 2) else f i
theorem z5_dropL {x : ModS} {f : Int → Int} {R j : Int} (h8 : f 8 = R) (R1 : R ≤ 120) (j0 : 0 ≤ j) : ∀ (m fu : Nat) (l : Int), 10 + 2 * j ≤ l → l + (m : Int) = 8 + 2 * R → m < fu → f5_dropRun_L7 fu l (s5_now x (zDrp f j l)) = some (s5_now x (x_up (zDrp f j (8 + 2 * R)) 8 (R - 1)))
  | 0, 0, _, _, _, h => by omega
  | m + 1, 0, _, _, _, h => by omega
  | 0, fu + 1, l, h0, hl, _ => by
    have e8 : x_ld 730 (g5_now (s5_now x (zDrp f j l))) 8 = some R := by
      show x_ld 730 (zDrp f j l) 8 = some R
      rw [z_ldT (by decide) (by decide)]
      unfold zDrp
      rw [if_neg (by omega), h8]
    unfold f5_dropRun_L7
    rw [z_bind e8, z_ltF ⟨by omega, by omega⟩ ⟨by omega, by omega⟩ (by omega), z_bind e8, z_bind (z_stT (by decide) (by decide)), show l = 8 + 2 * R by omega]
    rfl
  | m + 1, fu + 1, l, h0, hl, h => by
    have e8 : x_ld 730 (g5_now (s5_now x (zDrp f j l))) 8 = some R := by
      show x_ld 730 (zDrp f j l) 8 = some R
      rw [z_ldT (by decide) (by decide)]
      unfold zDrp
      rw [if_neg (by omega), h8]
    unfold f5_dropRun_L7
    rw [z_bind e8, z_ltT ⟨by omega, by omega⟩ ⟨by omega, by omega⟩ (by omega), z_bind (z_ldT (by omega) (by show _ < (730 : Int); omega)), z_bind (z_stT (by omega) (by show _ < (730 : Int); omega))]
    have eu : x_up (zDrp f j l) l (zDrp f j l (l + 2)) = zDrp f j (l + 1) := by
      funext i
      unfold x_up zDrp
      by_cases e : i = l
      · rw [if_pos e, if_neg (by omega), e, if_pos ⟨h0, by omega⟩]
      · rw [if_neg e]
        by_cases g : 10 + 2 * j ≤ i ∧ i < l
        · rw [if_pos g, if_pos ⟨g.1, by omega⟩]
        · rw [if_neg g, if_neg (by omega)]
    show f5_dropRun_L7 fu (l + 1) (s5_now x (x_up (zDrp f j l) l (zDrp f j l (l + 2)))) = _
    rw [eu]
    exact z5_dropL h8 R1 j0 m fu (l + 1) (by omega) (by omega) (by omega)
theorem z5_drop {x : ModS} {R j : Int} (h8 : g5_now x 8 = R) (R1 : R ≤ 120) (j0 : 0 ≤ j) (j1 : j < R) : f5_dropRun x j = some (s5_now x (x_up (zDrp (g5_now x) j (8 + 2 * R)) 8 (R - 1))) := by
  have e := z5_dropL (x := x) h8 R1 j0 (8 + 2 * R - (10 + 2 * j)).toNat xFU (10 + 2 * j) (by omega) (by omega) (by unfold xFU; omega)
  have e0 : zDrp (g5_now x) j (10 + 2 * j) = g5_now x := by
    funext i
    unfold zDrp
    rw [if_neg (by omega)]
  rw [e0] at e
  exact e
/-- what the runs' part is behind it -/
theorem zDrp_run {f F S : Int → Int} {R j : Int} (j0 : 0 ≤ j) (j1 : j < R) (h : ∀ k, 0 ≤ k → k < R → f (10 + 2 * k) = F k ∧ f (10 + 2 * k + 1) = S k) {k : Int} (k0 : 0 ≤ k) (k1 : k < R - 1) : zDrp f j (8 + 2 * R) (10 + 2 * k) = zRem F j R k ∧ zDrp f j (8 + 2 * R) (10 + 2 * k + 1) = zRem S j R k := by
  unfold zDrp zRem
  by_cases e : j ≤ k
  · rw [if_pos ⟨by omega, by omega⟩, if_pos ⟨by omega, by omega⟩, if_pos ⟨by omega, by omega⟩, if_pos ⟨by omega, by omega⟩, show 10 + 2 * k + 2 = 10 + 2 * (k + 1) by omega, show 10 + 2 * k + 1 + 2 = 10 + 2 * (k + 1) + 1 by omega]
    exact h (k + 1) (by omega) (by omega)
  · rw [if_neg (by omega), if_neg (by omega), if_neg (by omega), if_neg (by omega)]
    exact h k k0 (by omega)
theorem zDrp_out {f : Int → Int} {R j i : Int} (j0 : 0 ≤ j) (R1 : R ≤ 120) (h : i < 10 ∨ 250 ≤ i) : zDrp f j (8 + 2 * R) i = f i := by
  unfold zDrp
  rw [if_neg (by omega)]
theorem z5_mbEnd {X : ModS} {g K W H : Int → Int} {n low cost cst mrg : Int} (hM : zM g K W H n) (hP : zP K W H n) (l0 : 0 ≤ low) (lx : xin low) (hc : xS (fun p => if H p = low then W p else 0) 0 n.toNat = cost) (h2 : g 2 = cst) (h3 : g 3 = mrg) : ((f5_weightOf (s5_now X g) low).bind fun v139 => (x_ld 730 g 2).bind fun v140 => (x_st 730 g 2 (v140 + v139)).bind fun g141 => (x_ld 730 g141 3).bind fun v142 => (x_st 730 g141 3 (v142 + 1)).bind fun g143 => some (v139, s5_now (s5_now (s5_now X g) g141) g143)) = some (cost, s5_now X (x_up (x_up g 2 (cst + cost)) 3 (mrg + 1))) := by
  have ew : f5_weightOf (s5_now X g) low = some cost := by
    rw [z5_weightOf (x := s5_now X g) hM hP l0 lx, hc]
  rw [z_bind ew, z_bind (z_ldT (by decide) (by decide)), z_bind (z_stT (by decide) (by decide)), z_bind (z_ldT (by decide) (by decide)), z_bind (z_stT (by decide) (by decide)), z_upN (by decide), h2, h3]
  rfl
def mbTail (k3 k4 : Int) (x127 : ModS) : Option (Int × ModS) :=
        (f5_placeOf x127 k4).bind fun v134 =>
        (f5_dropRun x127 v134).bind fun x135 =>
        (x_ld 730 (g5_now x135) 6).bind fun v136 =>
        x_eq v136 k3 (
          (x_st 730 (g5_now x135) 6 (-1)).bind fun g138 =>
          (f5_weightOf (s5_now x135 g138) k3).bind fun v139 =>
          (x_ld 730 g138 2).bind fun v140 =>
          (x_st 730 g138 2 (v140 + v139)).bind fun g141 =>
          (x_ld 730 g141 3).bind fun v142 =>
          (x_st 730 g141 3 (v142 + 1)).bind fun g143 =>
          some (v139, s5_now (s5_now (s5_now x135 g138) g141) g143)) (
          (x_ld 730 (g5_now x135) 6).bind fun v144 =>
          x_eq v144 k4 (
            (x_st 730 (g5_now x135) 6 (-1)).bind fun g146 =>
            (f5_weightOf (s5_now x135 g146) k3).bind fun v147 =>
            (x_ld 730 g146 2).bind fun v148 =>
            (x_st 730 g146 2 (v148 + v147)).bind fun g149 =>
            (x_ld 730 g149 3).bind fun v150 =>
            (x_st 730 g149 3 (v150 + 1)).bind fun g151 =>
            some (v147, s5_now (s5_now (s5_now x135 g146) g149) g151)) (
            (x_ld 730 (g5_now x135) 6).bind fun v152 =>
            (x_st 730 (g5_now x135) 6 v152).bind fun g153 =>
            (f5_weightOf (s5_now x135 g153) k3).bind fun v154 =>
            (x_ld 730 g153 2).bind fun v155 =>
            (x_st 730 g153 2 (v155 + v154)).bind fun g156 =>
            (x_ld 730 g156 3).bind fun v157 =>
            (x_st 730 g156 3 (v157 + 1)).bind fun g158 =>
            some (v154, s5_now (s5_now (s5_now x135 g153) g156) g158)))
theorem z5_mbL {x : ModS} {K W H now : Int → Int} {n a c : Int} (hP : zP K W H n) (a0 : 0 ≤ a) (ax : a ≤ 1000000000) (c0 : 0 ≤ c) (cx : c ≤ 1000000000) : ∀ (m fu : Nat) (l : Int) (nl : Int → Int), 0 ≤ l → l + (m : Int) = n → m < fu → zM nl K W (zMv H a c l) n → (∀ i, i < 250 → nl i = now i) → ∃ n', f5_mergeBoth_L26 c a fu l (s5_now x nl) = mbTail c a (s5_now x n') ∧ zM n' K W (zMv H a c n) n ∧ (∀ i, i < 250 → n' i = now i)
  | 0, 0, _, _, _, _, h, _, _ => by omega
  | m + 1, 0, _, _, _, _, h, _, _ => by omega
  | 0, fu + 1, l, nl, l0, hl, _, hM, hn => by
    have h1 := hP.2.1
    have el : l = n := by omega
    subst el
    refine ⟨nl, ?_, hM, hn⟩
    unfold f5_mergeBoth_L26
    refine (z_bind (z5_n (x := s5_now x nl) hM)).trans ?_
    exact z_ltF ⟨by omega, by omega⟩ ⟨by omega, by omega⟩ (by omega)
  | m + 1, fu + 1, l, nl, l0, hl, h, hM, hn => by
    have h1 := hP.2.1
    have hPl : zP K W (zMv H a c l) n := by
      refine ⟨hP.1, hP.2.1, fun q q0 q1 => ?_⟩
      have hq := hP.2.2 q q0 q1
      refine ⟨hq.1, hq.2.1, hq.2.2.1, hq.2.2.2.1, ?_⟩
      unfold zMv
      split
      · omega
      · exact hq.2.2.2.2
    have ei := z5_isOf (x := s5_now x nl) hM hPl (p := l) (r := a) l0 (by omega) a0 ⟨by omega, by omega⟩
    unfold f5_mergeBoth_L26
    rw [zMv_at] at ei
    by_cases e : H l = a
    · rw [if_pos e] at ei
      obtain ⟨n', i1, i2, i3⟩ := z5_mbL (x := x) (now := now) hP a0 ax c0 cx m fu (l + 1) (x_up nl (250 + 4 * l + 3) c) (by omega) (by omega) (by omega) (by
        rw [← zMv_y l0 e]
        refine zM_of hM l0 ?_ ((zwh_1 (by omega)).mpr c0) (zof_0 c0)
        rw [zMv_at, e]; exact (zwh_1 (by omega)).mpr a0) (fun i hi => by rw [z_upN (by omega)]; exact hn i hi)
      refine ⟨n', ?_, i2, i3⟩
      rw [← i1]
      refine (z_bind (z5_n (x := s5_now x nl) hM)).trans ?_
      refine (z_ltT ⟨by omega, by omega⟩ ⟨by omega, by omega⟩ (by omega)).trans ?_
      refine (z_bind ei).trans ?_
      refine (z_eqF (by decide) (by decide) (by decide)).trans ?_
      exact z_bind (z5_be (x := s5_now x nl) l0 (by omega) (by decide) (by decide))
    · rw [if_neg e] at ei
      obtain ⟨n', i1, i2, i3⟩ := z5_mbL (x := x) (now := now) hP a0 ax c0 cx m fu (l + 1) nl (by omega) (by omega) (by omega) (by rw [zMv_n e]; exact hM) hn
      refine ⟨n', ?_, i2, i3⟩
      rw [← i1]
      refine (z_bind (z5_n (x := s5_now x nl) hM)).trans ?_
      refine (z_ltT ⟨by omega, by omega⟩ ⟨by omega, by omega⟩ (by omega)).trans ?_
      refine (z_bind ei).trans ?_
      exact z_eqT (by decide) rfl
theorem z5_mbTail {b : BoatS} {x : ModS} {now n' : Int → Int} (hB : zB b) (hR : zRel b now) {i j : Int} (i0 : 0 ≤ i) (ij : i < j) (j1 : j < zR b) (hM : zM n' (zK b) (zW b) (zMv (zH b) (zF b j) (zF b i) (zn b)) (zn b)) (hn : ∀ i, i < 250 → n' i = now i) : ∃ now', mbTail (zF b i) (zF b j) (s5_now x n') = some (zG b i + zG b j, s5_now x now') ∧ zRel (bJoin b i j) now' := by
  have hB' := zB_join hB i0 ij j1
  have hRle := hB.R_le
  have h120 := hB.1.2.1
  have hi := hB.2.2.2.1.2.2.1 i i0 (by omega)
  have hj := hB.2.2.2.1.2.2.1 j (by omega) j1
  have hf := hB.2.2.2.1.1
  obtain ⟨hm, h0, h2, h3, h4, h5, h6, h7, h8, h9⟩ := hR
  have hx := hB.opn_x
  generalize ho : (if g0_opn b = zF b i ∨ g0_opn b = zF b j then -1 else g0_opn b) = o'
  have h8' : n' 8 = zR b := by rw [hn 8 (by decide), h8]
  have h9' : ∀ k, 0 ≤ k → k < zR b → n' (10 + 2 * k) = zF b k ∧ n' (10 + 2 * k + 1) = zS b k := fun k k0 k1 => by rw [hn _ (by omega), hn _ (by omega)]; exact h9 k k0 k1
  have ep : f5_placeOf (s5_now x n') (zF b j) = some j := z5_placeAt (x := s5_now x n') hB h8' (fun k k0 k1 => (h9' k k0 k1).1) (by omega) j1
  have ed : f5_dropRun (s5_now x n') j = some (s5_now x (x_up (zDrp n' j (8 + 2 * zR b)) 8 (zR b - 1))) := z5_drop (x := s5_now x n') h8' (by omega) (by omega) j1
  generalize hgd : x_up (zDrp n' j (8 + 2 * zR b)) 8 (zR b - 1) = g at ed
  have lo : ∀ k, k < 10 → ¬ k = 8 → g k = now k := fun k k1 k2 => by rw [← hgd, z_upN k2, zDrp_out (by omega) (by omega) (Or.inl k1), hn k (by omega)]
  have hi' : ∀ k, 250 ≤ k → g k = n' k := fun k k1 => by rw [← hgd, z_upN (by omega), zDrp_out (by omega) (by omega) (Or.inr k1)]
  have g8 : g 8 = zR b - 1 := by rw [← hgd, z_upS]
  have gr : ∀ k, 0 ≤ k → k < zR b - 1 → g (10 + 2 * k) = zRem (zF b) j (zR b) k ∧ g (10 + 2 * k + 1) = zRem (zS b) j (zR b) k := fun k k0 k1 => by
    rw [← hgd, z_upN (by omega), z_upN (by omega)]
    exact zDrp_run (by omega) j1 h9' k0 k1
  have g6 : x_ld 730 g 6 = some (g0_opn b) := by rw [z_ldT (by decide) (by decide), lo 6 (by decide) (by decide), h6]
  have hMg : ∀ v, zM (x_up g 6 v) (zK b) (zW b) (zMv (zH b) (zF b j) (zF b i) (zn b)) (zn b) := fun v => zM_lo hM (by rw [z_upN (by decide), lo 1 (by decide) (by decide), hn 1 (by decide)]) (fun k hk => by rw [z_upN (by omega), hi' k hk])
  have hcost : xS (fun p => if zMv (zH b) (zF b j) (zF b i) (zn b) p = zF b i then zW b p else 0) 0 (zn b).toNat = zG b i + zG b j := by
    have z := hB'.2.2.2.1.2.2.1 i i0 (by show i < zR b - 1; omega)
    have z1 : zRem (x_up (zG b) i (zG b i + zG b j)) j (zR b) i = xS (fun p => if zMv (zH b) (zF b j) (zF b i) (zn b) p = zRem (zF b) j (zR b) i then zW b p else 0) 0 (zn b).toNat := z.2.2.2.2.1
    have e1 : zRem (zF b) j (zR b) i = zF b i := by unfold zRem; rw [if_neg (by omega)]
    have e2 : zRem (x_up (zG b) i (zG b i + zG b j)) j (zR b) i = zG b i + zG b j := by unfold zRem; rw [if_neg (by omega), z_upS]
    rw [e1, e2] at z1
    exact z1.symm
  have hend : ∀ v, ((f5_weightOf (s5_now (s5_now x g) (x_up g 6 v)) (zF b i)).bind fun v139 => (x_ld 730 (x_up g 6 v) 2).bind fun v140 => (x_st 730 (x_up g 6 v) 2 (v140 + v139)).bind fun g141 => (x_ld 730 g141 3).bind fun v142 => (x_st 730 g141 3 (v142 + 1)).bind fun g143 => some (v139, s5_now (s5_now (s5_now (s5_now x g) (x_up g 6 v)) g141) g143)) = some (zG b i + zG b j, s5_now x (x_up (x_up (x_up g 6 v) 2 (g0_cst b + (zG b i + zG b j))) 3 (g0_mrg b + 1))) := fun v => z5_mbEnd (X := s5_now x g) (hMg v) hB'.1 hi.1 ⟨by omega, by omega⟩ hcost (by rw [z_upN (by decide), lo 2 (by decide) (by decide), h2]) (by rw [z_upN (by decide), lo 3 (by decide) (by decide), h3])
  refine ⟨x_up (x_up (x_up g 6 o') 2 (g0_cst b + (zG b i + zG b j))) 3 (g0_mrg b + 1), ?_, ?_⟩
  · unfold mbTail
    refine (z_bind ep).trans ?_
    refine (z_bind ed).trans ?_
    refine (z_bind g6).trans ?_
    by_cases c1 : g0_opn b = zF b i
    · refine (z_eqT hx c1).trans ?_
      rw [if_pos (Or.inl c1)] at ho
      refine (z_bind (z_stT (by decide) (by decide))).trans ?_
      rw [← ho]
      exact hend (-1)
    · refine (z_eqF hx ⟨by omega, by omega⟩ c1).trans ?_
      refine (z_bind g6).trans ?_
      by_cases c2 : g0_opn b = zF b j
      · refine (z_eqT hx c2).trans ?_
        rw [if_pos (Or.inr c2)] at ho
        refine (z_bind (z_stT (by decide) (by decide))).trans ?_
        rw [← ho]
        exact hend (-1)
      · refine (z_eqF hx ⟨by omega, by omega⟩ c2).trans ?_
        rw [if_neg (by omega)] at ho
        refine (z_bind g6).trans ?_
        refine (z_bind (z_stT (by decide) (by decide))).trans ?_
        rw [← ho]
        exact hend (g0_opn b)
  · have up : ∀ k, ¬ k = 6 → ¬ k = 2 → ¬ k = 3 → x_up (x_up (x_up g 6 o') 2 (g0_cst b + (zG b i + zG b j))) 3 (g0_mrg b + 1) k = g k := fun k k1 k2 k3 => by rw [z_upN k3, z_upN k2, z_upN k1]
    refine zRel_mk (zM_lo (hMg o') (by rw [z_upN (by decide), z_upN (by decide)]) (fun k hk => by rw [z_upN (by omega), z_upN (by omega)])) ?_ ?_ ?_ ?_ ?_ ?_ ?_ ?_ (fun k k0 k1 => ?_)
    · rw [up _ (by decide) (by decide) (by decide), lo _ (by decide) (by decide)]; exact h0
    · rw [z_upN (by decide), z_upS]
    · rw [z_upS]
    · rw [up _ (by decide) (by decide) (by decide), lo _ (by decide) (by decide)]; exact h4
    · rw [up _ (by decide) (by decide) (by decide), lo _ (by decide) (by decide)]; exact h5
    · rw [z_upN (by decide), z_upN (by decide), z_upS, ← ho]
    · rw [up _ (by decide) (by decide) (by decide), lo _ (by decide) (by decide)]; exact h7
    · rw [up _ (by decide) (by decide) (by decide), g8]
    · have k1' : k < zR b - 1 := k1
      rw [up _ (by omega) (by omega) (by omega), up _ (by omega) (by omega) (by omega)]
      exact gr k k0 k1'
theorem zB.G_rng {b : BoatS} (hB : zB b) {i : Int} (i0 : 0 ≤ i) (i1 : i < zR b) : 1 ≤ zG b i ∧ zG b i ≤ 6000 := by
  have hi := hB.2.2.2.1.2.2.1 i i0 i1
  have h0 := hB.1.1
  have h120 := hB.1.2.1
  rw [hi.2.2.2.2.1]
  obtain ⟨p, p0, p1, hp⟩ := hi.2.2.2.2.2
  constructor
  · have e1 : xS (fun q => if q = p then 1 else 0) 0 (zn b).toNat = 1 := by
      rw [xS_point (f := fun q => if q = p then 1 else 0) (k := p) (zn b).toNat 0 p0 (by omega) (fun q _ _ z => if_neg z), if_pos rfl]
    rw [← e1]
    refine xS_le _ _ (fun q q0 q1 => ?_)
    have hq := hB.1.2.2 q q0 (by omega)
    by_cases z : q = p
    · rw [if_pos z, if_pos (by rw [z]; exact hp)]; omega
    · rw [if_neg z]; split <;> omega
  · have e2 : xS (fun q => if zH b q = zF b i then zW b q else 0) 0 (zn b).toNat ≤ 50 * ((zn b).toNat : Int) := xS_bound 50 _ _ (fun q q0 q1 => by
      have hq := hB.1.2.2 q q0 (by omega)
      split <;> omega)
    omega
/-- two weights together -/
theorem zB.G_two {b : BoatS} (hB : zB b) {i j : Int} (i0 : 0 ≤ i) (ij : i < j) (j1 : j < zR b) : 2 ≤ zG b i + zG b j ∧ zG b i + zG b j ≤ 6000 := by
  have h1 := hB.G_rng i0 (by omega)
  have h2 := hB.G_rng (i := j) (by omega) j1
  have h3 := (zB_join hB i0 ij j1).G_rng (i := i) i0 (by show i < zR b - 1; omega)
  have e2 : zRem (x_up (zG b) i (zG b i + zG b j)) j (zR b) i = zG b i + zG b j := by unfold zRem; rw [if_neg (by omega), z_upS]
  have h4 : zRem (x_up (zG b) i (zG b i + zG b j)) j (zR b) i ≤ 6000 := h3.2
  omega
theorem zs_join {b : BoatS} {x : ModS} {c : Int} (hJ : zJ b (g5_now x) c) (hc : c + 6000 < 1000000000) {i j p q : Int} (i0 : 0 ≤ i) (ij : i < j) (j1 : j < zR b) (hpq : (p = zF b i ∧ q = zF b j) ∨ (p = zF b j ∧ q = zF b i)) : ∃ now', f0_join b p q = some (zG b i + zG b j, bJoin b i j) ∧ f5_mergeBoth x p q = some (zG b i + zG b j, s5_now x now') ∧ zJ (bJoin b i j) now' (c + 6000) ∧ 2 ≤ zG b i + zG b j ∧ zG b i + zG b j ≤ 6000 := by
  have hB := hJ.1
  have hi := hB.2.2.2.1.2.2.1 i i0 (by omega)
  have hj := hB.2.2.2.1.2.2.1 j (by omega) j1
  have hf := hB.2.2.2.1.1
  have h0 := hB.1.1
  have h120 := hB.1.2.1
  have lt := hB.2.2.2.1.2.1 i j i0 ij j1
  have hG := hB.G_two i0 ij j1
  obtain ⟨n', e1, e2, e3⟩ := z5_mbL (x := x) (now := g5_now x) (a := zF b j) (c := zF b i) hB.1 hj.1 (by omega) hi.1 (by omega) (zn b).toNat xFU 0 (g5_now x) (by omega) (by omega) (by unfold xFU; omega) (by rw [zMv_0]; exact hJ.2.1.1) (fun _ _ => rfl)
  obtain ⟨now', t1, t2⟩ := z5_mbTail (x := x) hB hJ.2.1 i0 ij j1 e2 e3
  have e : f5_mergeBoth_L26 (zF b i) (zF b j) xFU 0 x = some (zG b i + zG b j, s5_now x now') := e1.trans t1
  refine ⟨now', z0_join hB i0 ij j1 hpq, ?_, ⟨zB_join hB i0 ij j1, t2, ?_⟩, hG.1, hG.2⟩
  · unfold f5_mergeBoth
    rcases hpq with ⟨h1, h2⟩ | ⟨h1, h2⟩
    · rw [h1, h2, z_ltT ⟨by omega, by omega⟩ ⟨by omega, by omega⟩ lt, z_ltT ⟨by omega, by omega⟩ ⟨by omega, by omega⟩ lt]; exact e
    · rw [h1, h2, z_ltF ⟨by omega, by omega⟩ ⟨by omega, by omega⟩ (by omega), z_ltF ⟨by omega, by omega⟩ ⟨by omega, by omega⟩ (by omega)]; exact e
  · obtain ⟨a1, a2, a3, a4, a5⟩ := hJ.2.2
    exact ⟨by show g0_flo b ≤ c + 6000; omega, ⟨by show 0 ≤ g0_cst b + (zG b i + zG b j); omega, by show g0_cst b + (zG b i + zG b j) ≤ c + 6000; omega⟩, ⟨by show 0 ≤ g0_mrg b + 1; omega, by show g0_mrg b + 1 ≤ c + 6000; omega⟩, ⟨a4.1, by show g0_stm b ≤ c + 6000; omega⟩, ⟨a5.1, by show g0_brk b ≤ c + 6000; omega⟩⟩

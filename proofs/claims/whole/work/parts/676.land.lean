/-! A float is made stronger; a run is brought ashore. -/
theorem zRun_S {H W F S S' G : Int → Int} {n R flo : Int} (h : zRun H W F S G n R flo) (hs : ∀ k, 0 ≤ k → k < R → 0 ≤ S' k ∧ S' k ≤ 9) : zRun H W F S' G n R flo := ⟨h.1, h.2.1, fun k k0 k1 => by
  have hk := h.2.2.1 k k0 k1
  exact ⟨hk.1, hk.2.1, (hs k k0 k1).1, (hs k k0 k1).2, hk.2.2.2.2⟩, h.2.2.2⟩
theorem zB_S {b : BoatS} (hB : zB b) {S' : Int → Int} (hs : ∀ k, 0 ≤ k → k < zR b → 0 ≤ S' k ∧ S' k ≤ 9) : zB (s0_strs b (zR b, S')) :=
  ⟨hB.1, ⟨hB.2.1.1, hB.2.1.2.1, hB.2.1.2.2.1, rfl, hB.2.1.2.2.2.2⟩, hB.2.2.1, zRun_S hB.2.2.2.1 hs, hB.2.2.2.2.1, hB.2.2.2.2.2⟩
theorem zRel_S {b : BoatS} {now : Int → Int} (hR : zRel b now) (hR1 : zR b ≤ 120) {i v : Int} (i0 : 0 ≤ i) (i1 : i < zR b) : zRel (s0_strs b (zR b, x_up (zS b) i v)) (x_up now (10 + 2 * i + 1) v) := by
  obtain ⟨hm, h0, h2, h3, h4, h5, h6, h7, h8, h9⟩ := hR
  refine ⟨zM_lo hm (by rw [z_upN (by omega)]) (fun k hk => by rw [z_upN (by omega)]), ?_, ?_, ?_, ?_, ?_, ?_, ?_, ?_, fun k k0 k1 => ?_⟩
  · rw [z_upN (by omega)]; exact h0
  · rw [z_upN (by omega)]; exact h2
  · rw [z_upN (by omega)]; exact h3
  · rw [z_upN (by omega)]; exact h4
  · rw [z_upN (by omega)]; exact h5
  · rw [z_upN (by omega)]; exact h6
  · rw [z_upN (by omega)]; exact h7
  · rw [z_upN (by omega)]; exact h8
  · rw [z_upN (by omega)]
    refine ⟨(h9 k k0 k1).1, ?_⟩
    show x_up now (10 + 2 * i + 1) v (10 + 2 * k + 1) = x_up (zS b) i v k
    by_cases e : k = i
    · rw [e, z_upS, z_upS]
    · rw [z_upN e, z_upN (by omega)]; exact (h9 k k0 k1).2
def tgTail (x5 : ModS) (v1 : Int) : Option (Int × ModS) :=
    (x_ld 730 (g5_now x5) ((10 + (2 * v1)) + 1)).bind fun v6 =>
    x_lt v6 9 (
      (x_ld 730 (g5_now x5) ((10 + (2 * v1)) + 1)).bind fun v8 =>
      (x_st 730 (g5_now x5) ((10 + (2 * v1)) + 1) (v8 + 1)).bind fun g9 =>
      (x_ld 730 g9 ((10 + (2 * v1)) + 1)).bind fun v10 =>
      some (v10, s5_now x5 g9)) (
      (x_st 730 (g5_now x5) ((10 + (2 * v1)) + 1) 9).bind fun g11 =>
      (x_ld 730 g11 ((10 + (2 * v1)) + 1)).bind fun v12 =>
      some (v12, s5_now x5 g11))
theorem zs_tight {b : BoatS} {x : ModS} {c i : Int} (hJ : zJ b (g5_now x) c) (i0 : 0 ≤ i) (i1 : i < zR b) : ∃ v b' now', f0_strengthen b (zF b i) = some (v, b') ∧ tgTail x i = some (v, s5_now x now') ∧ zJ b' now' c ∧ 0 ≤ v ∧ v ≤ 9 := by
  have hB := hJ.1
  have hRl := hB.R_le
  have h120 := hB.1.2.1
  have hi := hB.2.2.2.1.2.2.1 i i0 i1
  have hs := (hJ.2.1.2.2.2.2.2.2.2.2.2 i i0 i1).2
  have el : x_ld 730 (g5_now x) ((10 + (2 * i)) + 1) = some (zS b i) := by rw [z_ldT (by omega) (by show _ < (730 : Int); omega), hs]
  have key : ∀ v, 0 ≤ v → v ≤ 9 → zJ (s0_strs b (zR b, x_up (zS b) i v)) (x_up (g5_now x) (10 + 2 * i + 1) v) c := fun v v0 v1 => ⟨zB_S hB (fun k k0 k1 => by
    by_cases e : k = i
    · rw [e, z_upS]; omega
    · rw [z_upN e]; have hk := hB.2.2.2.1.2.2.1 k k0 k1; omega), zRel_S hJ.2.1 (by omega) i0 i1, hJ.2.2⟩
  have hset : ∀ v, f2_set 120 (g0_strs b) i v = some (zR b, x_up (zS b) i v) := fun v => by
    rw [hB.eS]
    exact z2_set (N := 120) (r := (zR b, zS b)) (by show zR b ≤ (120 : Int); omega) (by show zR b ≤ 100000; omega) i0 i1
  have hget : ∀ v, f2_get 120 (zR b, x_up (zS b) i v) i = some v := fun v => by
    rw [z2_get (N := 120) (r := (zR b, x_up (zS b) i v)) (by show zR b ≤ (120 : Int); omega) (by show zR b ≤ 100000; omega) i0 i1]
    exact congrArg some z_upS
  unfold f0_strengthen tgTail
  rw [z_bind (hB.idxAt i0 i1), z_bind (hB.getS i0 i1), z_bind (z_min ⟨by omega, by omega⟩ (by decide)), z_bind (hset _), z_bind (hget _), z_bind el]
  by_cases e : zS b i < 9
  · rw [if_neg (by omega), z_ltT ⟨by omega, by omega⟩ (by decide) e, z_bind el, z_bind (z_stT (by omega) (by show _ < (730 : Int); omega)), z_bind (z_ldT (by omega) (by show _ < (730 : Int); omega)), z_upS]
    exact ⟨_, _, _, rfl, rfl, key _ (by omega) (by omega), by omega, by omega⟩
  · rw [if_pos (by omega), z_ltF ⟨by omega, by omega⟩ (by decide) e, z_bind (z_stT (by omega) (by show _ < (730 : Int); omega)), z_bind (z_ldT (by omega) (by show _ < (730 : Int); omega)), z_upS]
    exact ⟨_, _, _, rfl, rfl, key _ (by omega) (by omega), by omega, by omega⟩
theorem xS_ge {f : Int → Int} {n q : Int} (h : ∀ p, 0 ≤ p → p < n → 0 ≤ f p) (q0 : 0 ≤ q) (q1 : q < n) : f q ≤ xS f 0 n.toNat := by
  have e : xS (fun p => if p = q then f q else 0) 0 n.toNat = f q := by
    rw [xS_point (f := fun p => if p = q then f q else 0) (k := q) n.toNat 0 q0 (by omega) (fun p _ _ z => if_neg z), if_pos rfl]
  rw [← e]
  refine xS_le _ _ (fun p p0 p1 => ?_)
  by_cases z : p = q
  · rw [if_pos z, z]; omega
  · rw [if_neg z]; exact h p p0 (by omega)
/-- the parcel at place 0 is the least one -/
theorem z0_first {b : BoatS} (hB : zB b) {i : Int} (i0 : 0 ≤ i) (i1 : i < zR b) : ∃ r, f0_parcelAt b (zF b i) 0 = some r ∧ 0 ≤ r ∧ r < zn b ∧ zMin (fun p => zH b p = zF b i) (zl (zK b)) (zn b) r := by
  have hi := hB.2.2.2.1.2.2.1 i i0 i1
  obtain ⟨p, p0, p1, hp⟩ := hi.2.2.2.2.2
  obtain ⟨r, e, r0, r1, r2, r3⟩ := z0_parcelAt hB (h := zF b i) (k := 0) (hB.xF i i0 i1) (by decide) (zC_pos' p0 p1 hp)
  refine ⟨r, e, r0, r1, Or.inr ⟨r0, r1, r2, fun q q0 q1 hq => ?_⟩⟩
  by_cases z : q = r
  · exact Or.inl z
  · refine Or.inr (zl_tri (fun w => ?_) z)
    have := xS_ge (f := fun q => if zH b q = zF b i ∧ zl (zK b) q r then 1 else 0) (n := zn b) (q := q) (fun p _ _ => by split <;> omega) q0 q1
    rw [if_pos ⟨hq, w⟩, r3] at this
    omega
theorem zs_canLand {b : BoatS} {x : ModS} (hB : zB b) (hR : zRel b (g5_now x)) {i : Int} (i0 : 0 ≤ i) (i1 : i < zR b) : ∃ v, f0_canBringAshore b (zF b i) = some v ∧ f5_canLand x (zF b i) = some v ∧ (v = 0 ∨ v = 1) := by
  have h120 := hB.1.2.1
  have hi := hB.2.2.2.1.2.2.1 i i0 i1
  obtain ⟨l, e1, hl⟩ := z0_lastAt hB (h := -2) (by decide)
  obtain ⟨l2, e2, hl2⟩ := z5_lastAshore hR.1 hB.1
  have el := zMin_uniq (fun _ _ => zl_asym) hl2 hl
  subst el
  obtain ⟨r, e3, r0, r1, hr⟩ := z0_first hB i0 i1
  obtain ⟨r2, e4, hr2⟩ := z5_firstOf hR.1 hB.1 (r := zF b i) hi.1 (hB.xF i i0 i1)
  have er := zMin_uniq (fun _ _ => zl_asym) hr2 hr
  subst er
  have hg := zMin_ge hl
  unfold f0_canBringAshore f5_canLand
  rw [z_bind e1, z_bind e2, z_bind e3, z_bind e4]
  by_cases c : l2 = -1
  · rw [z_eqT ⟨by omega, by omega⟩ c, z_eqT ⟨by omega, by omega⟩ c]
    exact ⟨1, rfl, rfl, Or.inr rfl⟩
  · have rl := zMin_rng hl c
    rw [z_eqF ⟨by omega, by omega⟩ (by decide) c, z_eqF ⟨by omega, by omega⟩ (by decide) c, z_bind (z0_isLess hB rl.1 rl.2.1 r0 r1), z_bind (z5_isLess hR.1 hB.1 rl.1 rl.2.1 r0 r1)]
    by_cases d : zl (zK b) l2 r2
    · rw [if_pos d, z_eqF (by decide) (by decide) (by decide)]
      exact ⟨1, rfl, rfl, Or.inr rfl⟩
    · rw [if_neg d, z_eqT (by decide) rfl]
      exact ⟨0, rfl, rfl, Or.inl rfl⟩
theorem zRun_land {H W F S G : Int → Int} {n R flo j : Int} (h : zRun H W F S G n R flo) (j0 : 0 ≤ j) (j1 : j < R) : zRun (zMv H (F j) (-2) n) W (zRem F j R) (zRem S j R) (zRem G j R) n (R - 1) flo := by
  have hinj := fun {i j : Int} => h.inj (i := i) (j := j)
  obtain ⟨h1, h2, h3, h4⟩ := h
  have hj := h3 j j0 j1
  refine ⟨⟨by omega, h1.2.1, h1.2.2⟩, fun a c a0 ac c1 => ?_, fun k k0 k1 => ?_, fun p p0 p1 hp => ?_⟩
  · obtain ⟨a', a1, a2, a3, a4, a5⟩ := zRem_at (j := j) (R := R) (by omega) j1 a0 (by omega)
    obtain ⟨c', c3, c4, c5, c6, c7⟩ := zRem_at (j := j) (R := R) (by omega) j1 (by omega : 0 ≤ c) (by omega)
    rw [a5, c7]
    exact h2 a' c' a1 (by omega) c4
  · obtain ⟨k', a1, a2, a3, a4, a5⟩ := zRem_at (j := j) (R := R) (by omega) j1 k0 (by omega)
    have hk := h3 k' a1 a2
    have nk : ¬ F k' = F j := fun z => a3 (hinj a1 a2 (by omega) j1 z)
    rw [a5, a5, a5]
    refine ⟨hk.1, hk.2.1, hk.2.2.1, hk.2.2.2.1, ?_, ?_⟩
    · rw [hk.2.2.2.2.1]
      exact xS_congr _ _ (fun p p0 p1 => by
        rw [zMv_in p0 (by omega)]
        by_cases z : H p = F j
        · rw [if_pos z, if_neg (by omega), if_neg (by omega)]
        · rw [if_neg z])
    · obtain ⟨q, q0, q1, hq⟩ := hk.2.2.2.2.2
      exact ⟨q, q0, q1, by rw [zMv_in q0 q1, if_neg (by omega)]; exact hq⟩
  · rw [zMv_in p0 p1] at hp ⊢
    by_cases z : H p = F j
    · rw [if_pos z] at hp; omega
    · rw [if_neg z] at hp ⊢
      obtain ⟨k, k0, k1, hk⟩ := h4 p p0 p1 hp
      obtain ⟨k', a1, a2, a3, a4⟩ := zRem_to (j := j) (R := R) (k := k) (by omega) j1 k0 k1 (fun w => z (by rw [← hk, w]))
      exact ⟨k', a1, a2, by rw [a4]; exact hk⟩
def bLand (b : BoatS) (j : Int) : BoatS := mkB (g0_room b) (if g0_opn b = zF b j then -1 else g0_opn b) (g0_flo b) (g0_cst b) (g0_mrg b) (g0_stm b) (g0_brk b) (zn b, zK b) (zn b, zW b) (zn b, zMv (zH b) (zF b j) (-2) (zn b)) (zn b, zO b) (zR b - 1, zRem (zF b) j (zR b)) (zR b - 1, zRem (zS b) j (zR b)) (zR b - 1, zRem (zG b) j (zR b))
theorem zB_land {b : BoatS} (hB : zB b) {j : Int} (j0 : 0 ≤ j) (j1 : j < zR b) : zB (bLand b j) := by
  have hj := hB.2.2.2.1.2.2.1 j (by omega) j1
  have hr := hB.2.2.2.2.2
  refine zB_mk (zP_mv hB.1 (by decide) (by decide)) hB.2.2.1 (zRun_land hB.2.2.2.1 j0 j1) ?_ hr.1 hr.2.1 ?_
  · by_cases e : g0_opn b = zF b j
    · rw [if_pos e]; exact Or.inl rfl
    · rw [if_neg e]
      rcases hB.2.2.2.2.1 with q | ⟨k, q0, q1, q2⟩
      · exact Or.inl q
      · obtain ⟨k', a1, a2, a3, a4⟩ := zRem_to (j := j) (R := zR b) (k := k) (by omega) j1 q0 q1 (fun w => e (by rw [← q2, w]))
        exact Or.inr ⟨k', a1, a2, by rw [a4]; exact q2⟩
  · rw [zC_mv (by omega) (by decide)]; exact hr.2.2
theorem z0_land {b : BoatS} (hB : zB b) {j : Int} (j0 : 0 ≤ j) (j1 : j < zR b) : f0_bringAshore b (zF b j) = some (zC (zMv (zH b) (zF b j) (-2) (zn b)) (-2) (zn b), bLand b j) := by
  have hR := hB.R_le
  have h120 := hB.1.2.1
  have xj : xin (zF b j) := hB.xF j j0 j1
  have hB' := zB_land hB j0 j1
  have ec := z0_countAt hB' (h := -2) (by decide)
  unfold f0_bringAshore
  rw [z_bind (z0_move hB xj)]
  simp only [se0I, se0R, gm0]
  rw [z_bind (hB.idxAt j0 j1)]
  rw [z_bind (z0_remF (R := zR b) (j := j) (F := zF b) (S := zS b) (G := zG b) (by simp only [gm0]) (by simp only [gm0]; exact hB.eS) (by simp only [gm0]; exact hB.eG) (by omega) j0 j1)]
  simp only [se0I, se0R, gm0]
  unfold bLand at ec ⊢
  rw [hB.eW, hB.eO]
  by_cases c1 : g0_opn b = zF b j
  · rw [if_pos c1] at ec ⊢
    rw [z_eqT hB.opn_x c1]
    exact z_bind ec
  · rw [if_neg c1] at ec ⊢
    rw [z_eqF hB.opn_x xj c1]
    exact z_bind ec
def lnTail (p0 v1 : Int) (x9 : ModS) : Option (Int × ModS) :=
        (f5_dropRun x9 v1).bind fun x17 =>
        (x_ld 730 (g5_now x17) 6).bind fun v18 =>
        x_eq v18 p0 (
          (x_st 730 (g5_now x17) 6 (-1)).bind fun g20 =>
          (f5_many (s5_now x17 g20) 2).bind fun v21 =>
          some (v21, s5_now x17 g20)) (
          (x_ld 730 (g5_now x17) 6).bind fun v22 =>
          (x_st 730 (g5_now x17) 6 v22).bind fun g23 =>
          (f5_many (s5_now x17 g23) 2).bind fun v24 =>
          some (v24, s5_now x17 g23))
theorem z5_lnL {x : ModS} {K W H now : Int → Int} {n a j : Int} (hP : zP K W H n) (a0 : 0 ≤ a) (ax : a ≤ 1000000000) : ∀ (m fu : Nat) (l : Int) (nl : Int → Int), 0 ≤ l → l + (m : Int) = n → m < fu → zM nl K W (zMv H a (-2) l) n → (∀ i, i < 250 → nl i = now i) → ∃ n', f5_land_L47 a j fu l (s5_now x nl) = lnTail a j (s5_now x n') ∧ zM n' K W (zMv H a (-2) n) n ∧ (∀ i, i < 250 → n' i = now i)
  | 0, 0, _, _, _, _, h, _, _ => by omega
  | m + 1, 0, _, _, _, _, h, _, _ => by omega
  | 0, fu + 1, l, nl, l0, hl, _, hM, hn => by
    have h1 := hP.2.1
    have el : l = n := by omega
    subst el
    refine ⟨nl, ?_, hM, hn⟩
    unfold f5_land_L47
    refine (z_bind (z5_n (x := s5_now x nl) hM)).trans ?_
    exact z_ltF ⟨by omega, by omega⟩ ⟨by omega, by omega⟩ (by omega)
  | m + 1, fu + 1, l, nl, l0, hl, h, hM, hn => by
    have h1 := hP.2.1
    have hPl : zP K W (zMv H a (-2) l) n := by
      refine ⟨hP.1, hP.2.1, fun q q0 q1 => ?_⟩
      have hq := hP.2.2 q q0 q1
      refine ⟨hq.1, hq.2.1, hq.2.2.1, hq.2.2.2.1, ?_⟩
      unfold zMv
      split
      · omega
      · exact hq.2.2.2.2
    have ei := z5_isOf (x := s5_now x nl) hM hPl (p := l) (r := a) l0 (by omega) a0 ⟨by omega, by omega⟩
    unfold f5_land_L47
    rw [zMv_at] at ei
    by_cases e : H l = a
    · rw [if_pos e] at ei
      have hM2 := zM_be (p := l) (r := -2) hM l0
      rw [zMv_y l0 e] at hM2
      obtain ⟨n', i1, i2, i3⟩ := z5_lnL (x := x) (j := j) (now := now) hP a0 ax m fu (l + 1) (x_up (x_up nl (250 + 4 * l + 2) 2) (250 + 4 * l + 3) (-1)) (by omega) (by omega) (by omega) hM2 (fun i hi => by rw [z_upN (by omega), z_upN (by omega)]; exact hn i hi)
      refine ⟨n', ?_, i2, i3⟩
      rw [← i1]
      refine (z_bind (z5_n (x := s5_now x nl) hM)).trans ?_
      refine (z_ltT ⟨by omega, by omega⟩ ⟨by omega, by omega⟩ (by omega)).trans ?_
      refine (z_bind ei).trans ?_
      refine (z_eqF (by decide) (by decide) (by decide)).trans ?_
      refine (z_bind (z5_be (x := s5_now x nl) l0 (by omega) (by decide) (by decide))).trans ?_
      exact z_bind (z5_be (x := s5_now x (x_up nl (250 + 4 * l + 2) 2)) l0 (by omega) (by decide) (by decide))
    · rw [if_neg e] at ei
      obtain ⟨n', i1, i2, i3⟩ := z5_lnL (x := x) (j := j) (now := now) hP a0 ax m fu (l + 1) nl (by omega) (by omega) (by omega) (by rw [zMv_n e]; exact hM) hn
      refine ⟨n', ?_, i2, i3⟩
      rw [← i1]
      refine (z_bind (z5_n (x := s5_now x nl) hM)).trans ?_
      refine (z_ltT ⟨by omega, by omega⟩ ⟨by omega, by omega⟩ (by omega)).trans ?_
      refine (z_bind ei).trans ?_
      exact z_eqT (by decide) rfl
theorem z5_lnTail {b : BoatS} {x : ModS} {now n' : Int → Int} (hB : zB b) (hR : zRel b now) {j : Int} (j0 : 0 ≤ j) (j1 : j < zR b) (hM : zM n' (zK b) (zW b) (zMv (zH b) (zF b j) (-2) (zn b)) (zn b)) (hn : ∀ i, i < 250 → n' i = now i) : ∃ now', lnTail (zF b j) j (s5_now x n') = some (zC (zMv (zH b) (zF b j) (-2) (zn b)) (-2) (zn b), s5_now x now') ∧ zRel (bLand b j) now' := by
  have hB' := zB_land hB j0 j1
  have hRle := hB.R_le
  have h120 := hB.1.2.1
  have hj := hB.2.2.2.1.2.2.1 j (by omega) j1
  obtain ⟨hm, h0, h2, h3, h4, h5, h6, h7, h8, h9⟩ := hR
  have hx := hB.opn_x
  generalize ho : (if g0_opn b = zF b j then -1 else g0_opn b) = o'
  have h8' : n' 8 = zR b := by rw [hn 8 (by decide), h8]
  have h9' : ∀ k, 0 ≤ k → k < zR b → n' (10 + 2 * k) = zF b k ∧ n' (10 + 2 * k + 1) = zS b k := fun k k0 k1 => by rw [hn _ (by omega), hn _ (by omega)]; exact h9 k k0 k1
  have ed : f5_dropRun (s5_now x n') j = some (s5_now x (x_up (zDrp n' j (8 + 2 * zR b)) 8 (zR b - 1))) := z5_drop (x := s5_now x n') h8' (by omega) (by omega) j1
  generalize hgd : x_up (zDrp n' j (8 + 2 * zR b)) 8 (zR b - 1) = g at ed
  have lo : ∀ k, k < 10 → ¬ k = 8 → g k = now k := fun k k1 k2 => by rw [← hgd, z_upN k2, zDrp_out (by omega) (by omega) (Or.inl k1), hn k (by omega)]
  have hi' : ∀ k, 250 ≤ k → g k = n' k := fun k k1 => by rw [← hgd, z_upN (by omega), zDrp_out (by omega) (by omega) (Or.inr k1)]
  have g8 : g 8 = zR b - 1 := by rw [← hgd, z_upS]
  have gr : ∀ k, 0 ≤ k → k < zR b - 1 → g (10 + 2 * k) = zRem (zF b) j (zR b) k ∧ g (10 + 2 * k + 1) = zRem (zS b) j (zR b) k := fun k k0 k1 => by
    rw [← hgd, z_upN (by omega), z_upN (by omega)]
    exact zDrp_run (by omega) j1 h9' k0 k1
  have g6 : x_ld 730 g 6 = some (g0_opn b) := by rw [z_ldT (by decide) (by decide), lo 6 (by decide) (by decide), h6]
  have hMg : ∀ v, zM (x_up g 6 v) (zK b) (zW b) (zMv (zH b) (zF b j) (-2) (zn b)) (zn b) := fun v => zM_lo hM (by rw [z_upN (by decide), lo 1 (by decide) (by decide), hn 1 (by decide)]) (fun k hk => by rw [z_upN (by omega), hi' k hk])
  have hend : ∀ v, ((f5_many (s5_now (s5_now x g) (x_up g 6 v)) 2).bind fun v21 => some (v21, s5_now (s5_now x g) (x_up g 6 v))) = some (zC (zMv (zH b) (zF b j) (-2) (zn b)) (-2) (zn b), s5_now x (x_up g 6 v)) := fun v => z_bind (z5_many2 (x := s5_now x (x_up g 6 v)) (hMg v) hB'.1)
  refine ⟨x_up g 6 o', ?_, ?_⟩
  · unfold lnTail
    refine (z_bind ed).trans ?_
    refine (z_bind g6).trans ?_
    by_cases c1 : g0_opn b = zF b j
    · refine (z_eqT hx c1).trans ?_
      rw [if_pos c1] at ho
      refine (z_bind (z_stT (by decide) (by decide))).trans ?_
      rw [← ho]
      exact hend (-1)
    · refine (z_eqF hx (hB.xF j j0 j1) c1).trans ?_
      rw [if_neg c1] at ho
      refine (z_bind g6).trans ?_
      refine (z_bind (z_stT (by decide) (by decide))).trans ?_
      rw [← ho]
      exact hend (g0_opn b)
  · refine zRel_mk (hMg o') ?_ ?_ ?_ ?_ ?_ ?_ ?_ ?_ (fun k k0 k1 => ?_)
    · rw [z_upN (by decide), lo _ (by decide) (by decide)]; exact h0
    · rw [z_upN (by decide), lo _ (by decide) (by decide)]; exact h2
    · rw [z_upN (by decide), lo _ (by decide) (by decide)]; exact h3
    · rw [z_upN (by decide), lo _ (by decide) (by decide)]; exact h4
    · rw [z_upN (by decide), lo _ (by decide) (by decide)]; exact h5
    · rw [z_upS, ← ho]
    · rw [z_upN (by decide), lo _ (by decide) (by decide)]; exact h7
    · rw [z_upN (by decide), g8]
    · have k1' : k < zR b - 1 := k1
      rw [z_upN (by omega), z_upN (by omega)]
      exact gr k k0 k1'
theorem zs_land {b : BoatS} {x : ModS} {c j : Int} (hJ : zJ b (g5_now x) c) (j0 : 0 ≤ j) (j1 : j < zR b) : ∃ v b' now', f0_bringAshore b (zF b j) = some (v, b') ∧ f5_land_L47 (zF b j) j xFU 0 x = some (v, s5_now x now') ∧ zJ b' now' c ∧ 0 ≤ v ∧ v ≤ 120 := by
  have hB := hJ.1
  have hj := hB.2.2.2.1.2.2.1 j j0 j1
  have hf := hB.2.2.2.1.1
  have h0 := hB.1.1
  have h120 := hB.1.2.1
  obtain ⟨n', e1, e2, e3⟩ := z5_lnL (x := x) (j := j) (now := g5_now x) (a := zF b j) hB.1 hj.1 (by omega) (zn b).toNat xFU 0 (g5_now x) (by omega) (by omega) (by unfold xFU; omega) (by rw [zMv_0]; exact hJ.2.1.1) (fun _ _ => rfl)
  obtain ⟨now', t1, t2⟩ := z5_lnTail (x := x) hB hJ.2.1 j0 j1 e2 e3
  have hc := zC_nonneg (zMv (zH b) (zF b j) (-2) (zn b)) (-2) (zn b)
  have hc2 := zC_le (zMv (zH b) (zF b j) (-2) (zn b)) (-2) h0
  exact ⟨_, _, now', z0_land hB j0 j1, e1.trans t1, ⟨zB_land hB j0 j1, t2, hJ.2.2⟩, hc, by omega⟩

/-! A float is made stronger; a run is brought ashore. -/
theorem zRun_S {H W F S S' G : Int → Int} {n R flo : Int} (h : zRun H W F S G n R flo) (hs : ∀ k, 0 ≤ k → k < R → 0 ≤ S' k ∧ S' k ≤ 9) : zRun H W F S' G n R flo := ⟨h.1, h.2.1, fun k k0 k1 => by
  have hk := h.2.2.1 k k0 k1
  exact ⟨hk.1, hk.2.1, (hs k k0 k1).1, (hs k k0 k1).2, hk.2.2.2.2⟩, h.2.2.2⟩
theorem zB_S {b : BoatS} (hB : zB b) {S' : Int → Int} (hs : ∀ k, 0 ≤ k → k < zR b → 0 ≤ S' k ∧ S' k ≤ 9) : zB (s0_strs b (zR b, S')) :=
  ⟨hB.1, ⟨hB.2.1.1, hB.2.1.2.1, hB.2.1.2.2.1, rfl, hB.2.1.2.2.2.2⟩, hB.2.2.1, zRun_S hB.2.2.2.1 hs, hB.2.2.2.2.1, hB.2.2.2.2.2⟩
theorem xS_ge {f : Int → Int} {n q : Int} (h : ∀ p, 0 ≤ p → p < n → 0 ≤ f p) (q0 : 0 ≤ q) (q1 : q < n) : f q ≤ xS f 0 n.toNat := by
  have e : xS (fun p => if p = q then f q else 0) 0 n.toNat = f q := by
    rw [xS_point (f := fun p => if p = q then f q else 0) (k := q) n.toNat 0 q0 (by omega) (fun p _ _ z => if_neg z), if_pos rfl]
  rw [← e]
  refine xS_le _ _ (fun p p0 p1 => ?_)
  by_cases z : p = q
  · rw [if_pos z, z]; omega
  · rw [if_neg z]; exact h p p0 (by omega)
/-- the parcel at place 0 is the least one -/
theorem z0_first {b : BoatS} (hB : zB b) {i : Int} (i0 : 0 ≤ i) (i1 : i < zR b) : ∃ r, f0_parcelAt b (zF b i) 0 = some r ∧ 0 ≤ r ∧ r < zn b ∧ zMin (fun p => zH b p = zF b i) (zl (zK b)) (zn b) r := by
  have hi := hB.2.2.2.1.2.2.1 i i0 i1
  obtain ⟨p, p0, p1, hp⟩ := hi.2.2.2.2.2
  obtain ⟨r, e, r0, r1, r2, r3⟩ := z0_parcelAt hB (h := zF b i) (k := 0) (hB.xF i i0 i1) (by decide) (zC_pos' p0 p1 hp)
  refine ⟨r, e, r0, r1, Or.inr ⟨r0, r1, r2, fun q q0 q1 hq => ?_⟩⟩
  by_cases z : q = r
  · exact Or.inl z
  · refine Or.inr (zl_tri (fun w => ?_) z)
    have := xS_ge (f := fun q => if zH b q = zF b i ∧ zl (zK b) q r then 1 else 0) (n := zn b) (q := q) (fun p _ _ => by split <;> omega) q0 q1
    rw [if_pos ⟨hq, w⟩, r3] at this
    omega
theorem zRun_land {H W F S G : Int → Int} {n R flo j : Int} (h : zRun H W F S G n R flo) (j0 : 0 ≤ j) (j1 : j < R) : zRun (zMv H (F j) (-2) n) W (zRem F j R) (zRem S j R) (zRem G j R) n (R - 1) flo := by
  have hinj := fun {i j : Int} => h.inj (i := i) (j := j)
  obtain ⟨h1, h2, h3, h4⟩ := h
  have hj := h3 j j0 j1
  refine ⟨⟨by omega, h1.2.1, h1.2.2⟩, fun a c a0 ac c1 => ?_, fun k k0 k1 => ?_, fun p p0 p1 hp => ?_⟩
  · obtain ⟨a', a1, a2, a3, a4, a5⟩ := zRem_at (j := j) (R := R) (by omega) j1 a0 (by omega)
    obtain ⟨c', c3, c4, c5, c6, c7⟩ := zRem_at (j := j) (R := R) (by omega) j1 (by omega : 0 ≤ c) (by omega)
    rw [a5, c7]
    exact h2 a' c' a1 (by omega) c4
  · obtain ⟨k', a1, a2, a3, a4, a5⟩ := zRem_at (j := j) (R := R) (by omega) j1 k0 (by omega)
    have hk := h3 k' a1 a2
    have nk : ¬ F k' = F j := fun z => a3 (hinj a1 a2 (by omega) j1 z)
    rw [a5, a5, a5]
    refine ⟨hk.1, hk.2.1, hk.2.2.1, hk.2.2.2.1, ?_, ?_⟩
    · rw [hk.2.2.2.2.1]
      exact xS_congr _ _ (fun p p0 p1 => by
        rw [zMv_in p0 (by omega)]
        by_cases z : H p = F j
        · rw [if_pos z, if_neg (by omega), if_neg (by omega)]
        · rw [if_neg z])
    · obtain ⟨q, q0, q1, hq⟩ := hk.2.2.2.2.2
      exact ⟨q, q0, q1, by rw [zMv_in q0 q1, if_neg (by omega)]; exact hq⟩
  · rw [zMv_in p0 p1] at hp ⊢
    by_cases z : H p = F j
    · rw [if_pos z] at hp; omega
    · rw [if_neg z] at hp ⊢
      obtain ⟨k, k0, k1, hk⟩ := h4 p p0 p1 hp
      obtain ⟨k', a1, a2, a3, a4⟩ := zRem_to (j := j) (R := R) (k := k) (by omega) j1 k0 k1 (fun w => z (by rw [← hk, w]))
      exact ⟨k', a1, a2, by rw [a4]; exact hk⟩
def bLand (b : BoatS) (j : Int) : BoatS := mkB (g0_room b) (if g0_opn b = zF b j then -1 else g0_opn b) (g0_flo b) (g0_cst b) (g0_mrg b) (g0_stm b) (g0_brk b) (zn b, zK b) (zn b, zW b) (zn b, zMv (zH b) (zF b j) (-2) (zn b)) (zn b, zO b) (zR b - 1, zRem (zF b) j (zR b)) (zR b - 1, zRem (zS b) j (zR b)) (zR b - 1, zRem (zG b) j (zR b))
theorem zB_land {b : BoatS} (hB : zB b) {j : Int} (j0 : 0 ≤ j) (j1 : j < zR b) : zB (bLand b j) := by
  have hj := hB.2.2.2.1.2.2.1 j (by omega) j1
  have hr := hB.2.2.2.2.2
  refine zB_mk (zP_mv hB.1 (by decide) (by decide)) hB.2.2.1 (zRun_land hB.2.2.2.1 j0 j1) ?_ hr.1 hr.2.1 ?_
  · by_cases e : g0_opn b = zF b j
    · rw [if_pos e]; exact Or.inl rfl
    · rw [if_neg e]
      rcases hB.2.2.2.2.1 with q | ⟨k, q0, q1, q2⟩
      · exact Or.inl q
      · obtain ⟨k', a1, a2, a3, a4⟩ := zRem_to (j := j) (R := zR b) (k := k) (by omega) j1 q0 q1 (fun w => e (by rw [← q2, w]))
        exact Or.inr ⟨k', a1, a2, by rw [a4]; exact q2⟩
  · rw [zC_mv (by omega) (by decide)]; exact hr.2.2
theorem z0_land {b : BoatS} (hB : zB b) {j : Int} (j0 : 0 ≤ j) (j1 : j < zR b) : f0_bringAshore b (zF b j) = some (zC (zMv (zH b) (zF b j) (-2) (zn b)) (-2) (zn b), bLand b j) := by
  have hR := hB.R_le
  have h120 := hB.1.2.1
  have xj : xin (zF b j) := hB.xF j j0 j1
  have hB' := zB_land hB j0 j1
  have ec := z0_countAt hB' (h := -2) (by decide)
  unfold f0_bringAshore
  rw [z_bind (z0_move hB xj)]
  simp only [se0I, se0R, gm0]
  rw [z_bind (hB.idxAt j0 j1)]
  rw [z_bind (z0_remF (R := zR b) (j := j) (F := zF b) (S := zS b) (G := zG b) (by simp only [gm0]) (by simp only [gm0]; exact hB.eS) (by simp only [gm0]; exact hB.eG) (by omega) j0 j1)]
  simp only [se0I, se0R, gm0]
  unfold bLand at ec ⊢
  rw [hB.eW, hB.eO]
  by_cases c1 : g0_opn b = zF b j
  · rw [if_pos c1] at ec ⊢
    rw [z_eqT hB.opn_x c1]
    exact z_bind ec
  · rw [if_neg c1] at ec ⊢
    rw [z_eqF hB.opn_x xj c1]
    exact z_bind ec

/-! A run breaks: what holds behind it; the model's side. -/
theorem zCn_at {b : BoatS} (hB : zB b) {h t : Int} (hh : xin h) (t0 : 0 ≤ t) (t1 : t < zC (zH b) h (zn b)) : ∃ j, 0 ≤ j ∧ j < zn b ∧ zH b (zO b j) = h ∧ zCn (zO b) (zH b) h j = t := by
  have h0 := hB.1.1
  have h120 := hB.1.2.1
  have cl := zC_le (zH b) h h0
  have e : zC (zH b) h (zn b) = xS (fun i => if zH b (zO b i) = h then 1 else 0) 0 (zn b).toNat := (zPerm_sum hB.2.2.1.2 (fun q => if zH b q = h then 1 else 0)).symm
  obtain ⟨j, j0, j1, j2, j3, j4⟩ := z0_parcelAtL hB hh (zn b).toNat xFU t 0 (by omega) t0 (by omega) (by omega) (by unfold xFU; omega) (by omega)
  rw [Int.sub_zero] at j4
  exact ⟨j, j0, j1, j3, j4⟩
theorem zB_brk {b : BoatS} (hB : zB b) (hf : g0_flo b < 1000000000) {i : Int} (i0 : 0 ≤ i) (i1 : i < zR b) (hc : 2 ≤ zC (zH b) (zF b i) (zn b)) {Hc Gc : Int → Int} (h1 : ∀ j, 0 ≤ j → j < zn b → Hc (zO b j) = zTg (zO b) (zH b) (zF b i) ((zC (zH b) (zF b i) (zn b) + 1) / 2) (g0_flo b) j) (h2 : zSum Hc (zW b) (x_up (zF b) (zR b) (g0_flo b)) Gc (zn b) (zR b + 1)) : zB (zX b Hc Gc) := by
  have h0 := hB.1.1
  have r0 := hB.R0
  have hf0 := hB.2.2.2.1.1.2.1
  have hr := hB.2.2.2.2.2
  have hFi := hB.2.2.2.1.2.2.1 i i0 i1
  have hv : ∀ p, 0 ≤ p → p < zn b → Hc p = zH b p ∨ (Hc p = g0_flo b ∧ zH b p = zF b i) := fun p p0 p1 => by
    obtain ⟨j, j0, j1, hj⟩ := hB.2.2.1.2.2.1 p p0 (by omega)
    have := h1 j j0 (by omega)
    rw [hj] at this
    unfold zTg at this
    rw [hj] at this
    by_cases e : zH b p = zF b i ∧ (zC (zH b) (zF b i) (zn b) + 1) / 2 ≤ zCn (zO b) (zH b) (zF b i) j
    · rw [if_pos e] at this; exact Or.inr ⟨this, e.1⟩
    · rw [if_neg e] at this; exact Or.inl this
  refine zB_mk ⟨h0, hB.1.2.1, fun p p0 p1 => ?_⟩ hB.2.2.1 ⟨⟨by omega, by omega, by omega⟩, fun a c a0 ac c1 => ?_, fun k k0 k1 => ?_, fun p p0 p1 hp => ?_⟩ ?_ hr.1 hr.2.1 ?_
  · have hp := hB.1.2.2 p p0 p1
    refine ⟨hp.1, hp.2.1, hp.2.2.1, hp.2.2.2.1, ?_⟩
    show -2 ≤ Hc p ∧ Hc p ≤ 1000000000
    rcases hv p p0 p1 with e | ⟨e, _⟩ <;> rw [e] <;> omega
  · have c1' : c < zR b + 1 := c1
    show x_up (zF b) (zR b) (g0_flo b) a < x_up (zF b) (zR b) (g0_flo b) c
    rw [z_upN (by omega : ¬ a = zR b)]
    by_cases e : c = zR b
    · rw [e, z_upS]; exact (hB.2.2.2.1.2.2.1 a a0 (by omega)).2.1
    · rw [z_upN e]; exact hB.2.2.2.1.2.1 a c a0 ac (by omega)
  · have k1' : k < zR b + 1 := k1
    show 0 ≤ x_up (zF b) (zR b) (g0_flo b) k ∧ x_up (zF b) (zR b) (g0_flo b) k < g0_flo b + 1 ∧ 0 ≤ x_up (zS b) (zR b) 5 k ∧ x_up (zS b) (zR b) 5 k ≤ 9 ∧ Gc k = xS (fun p => if Hc p = x_up (zF b) (zR b) (g0_flo b) k then zW b p else 0) 0 (zn b).toNat ∧ ∃ p, 0 ≤ p ∧ p < zn b ∧ Hc p = x_up (zF b) (zR b) (g0_flo b) k
    rw [← h2 k k0 k1']
    by_cases e : k = zR b
    · rw [e, z_upS, z_upS]
      refine ⟨by omega, by omega, by omega, by omega, rfl, ?_⟩
      obtain ⟨j, j0, j1, j2, j3⟩ := zCn_at hB (h := zF b i) (t := (zC (zH b) (zF b i) (zn b) + 1) / 2) (hB.xF i i0 i1) (by omega) (by omega)
      have hO := hB.O_rng j0 j1
      refine ⟨zO b j, hO.1, hO.2, ?_⟩
      rw [h1 j j0 j1]
      unfold zTg
      rw [if_pos ⟨j2, by omega⟩]
    · have hk := hB.2.2.2.1.2.2.1 k k0 (by omega)
      rw [z_upN e, z_upN e]
      refine ⟨hk.1, by omega, hk.2.2.1, hk.2.2.2.1, rfl, ?_⟩
      by_cases g : k = i
      · obtain ⟨j, j0, j1, j2, j3⟩ := zCn_at hB (h := zF b i) (t := 0) (hB.xF i i0 i1) (by omega) (by omega)
        have hO := hB.O_rng j0 j1
        refine ⟨zO b j, hO.1, hO.2, ?_⟩
        rw [h1 j j0 j1, g]
        unfold zTg
        rw [if_neg (by omega)]; exact j2
      · obtain ⟨p, p0, p1, hp⟩ := hk.2.2.2.2.2
        refine ⟨p, p0, p1, ?_⟩
        rcases hv p p0 p1 with z | ⟨z, w⟩
        · rw [z]; exact hp
        · exact absurd (hB.2.2.2.1.inj k0 (by omega) i0 i1 (by rw [← hp, w])) g
  · show ∃ k, 0 ≤ k ∧ k < zR b + 1 ∧ x_up (zF b) (zR b) (g0_flo b) k = Hc p
    have hp' : 0 ≤ Hc p := hp
    rcases hv p p0 p1 with z | ⟨z, w⟩
    · rw [z] at hp' ⊢
      obtain ⟨k, k0, k1, hk⟩ := hB.2.2.2.1.2.2.2 p p0 p1 hp'
      exact ⟨k, k0, by omega, by rw [z_upN (by omega)]; exact hk⟩
    · exact ⟨zR b, r0, by omega, by rw [z_upS, z]⟩
  · show zOpn Hc (x_up (zF b) (zR b) (g0_flo b)) (zR b + 1) (g0_opn b)
    rcases hB.2.2.2.2.1 with q | ⟨k, q0, q1, q2⟩
    · exact Or.inl q
    · exact Or.inr ⟨k, q0, by omega, by rw [z_upN (by omega)]; exact q2⟩
  · show zC Hc (-1) (zn b) ≤ g0_room b
    have e : zC Hc (-1) (zn b) = zC (zH b) (-1) (zn b) := xS_congr _ _ (fun p p0 p1 => by
      rcases hv p p0 (by omega) with z | ⟨z, w⟩
      · rw [z]
      · rw [z, w, if_neg (by omega), if_neg (by omega)])
    rw [e]; exact hr.2.2
theorem zCn_flat {O H : Int → Int} {run a c : Int} (a0 : 0 ≤ a) (ac : a ≤ c) (h : ∀ i, a ≤ i → i < c → ¬ H (O i) = run) : zCn O H run c = zCn O H run a := by
  unfold zCn
  rw [show c.toNat = a.toNat + (c - a).toNat by omega, xS_app, xS_congr (g := fun _ => 0) (c - a).toNat (0 + (a.toNat : Int)) (fun i i0 i1 => if_neg (h i (by omega) (by omega))), xS_zero]
  omega

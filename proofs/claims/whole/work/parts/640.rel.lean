/-! Both sides together: the next one thrown. -/
def zRel (b : BoatS) (now : Int → Int) : Prop := zM now (zK b) (zW b) (zH b) (zn b) ∧ now 0 = g0_room b ∧ now 2 = g0_cst b ∧ now 3 = g0_mrg b ∧ now 4 = g0_stm b ∧ now 5 = g0_brk b ∧ now 6 = g0_opn b ∧ now 7 = g0_flo b ∧ now 8 = zR b ∧ ∀ k, 0 ≤ k → k < zR b → now (10 + 2 * k) = zF b k ∧ now (10 + 2 * k + 1) = zS b k
theorem zB.opn_x {b : BoatS} (h : zB b) : xin (g0_opn b) := by
  rcases h.2.2.2.2.1 with q | ⟨k, k0, k1, hk⟩
  · rw [q]; decide
  · rw [← hk]; exact h.xF k k0 k1
/-- the last parcel of the open run -/
theorem zB.last_open {b : BoatS} (hB : zB b) (ho : ¬ g0_opn b = -1) : 0 ≤ g0_opn b ∧ ∃ k, f0_lastAt b (g0_opn b) = some k ∧ 0 ≤ k ∧ k < zn b ∧ zH b k = g0_opn b ∧ zMin (fun p => zH b p = g0_opn b) (fun a c => zl (zK b) c a) (zn b) k := by
  obtain ⟨j, j0, j1, hj⟩ := hB.2.2.2.2.1.resolve_left ho
  have hF := hB.2.2.2.1.2.2.1 j j0 j1
  obtain ⟨p, p0, p1, hp⟩ := hF.2.2.2.2.2
  obtain ⟨k, e, hz⟩ := z0_lastAt hB hB.opn_x
  have hk := zMin_rng hz (zMin_some hz p0 p1 (hp.trans hj))
  exact ⟨by omega, k, e, hk.1, hk.2.1, hk.2.2, hz⟩
theorem z0_next {b : BoatS} (hB : zB b) : ∃ k a c, ((k = -1 ∧ g0_opn b = -1) ∨ (0 ≤ k ∧ k < zn b ∧ ¬ g0_opn b = -1 ∧ f0_lastAt b (g0_opn b) = some k ∧ zMin (fun p => zH b p = g0_opn b) (fun a c => zl (zK b) c a) (zn b) k)) ∧ zMin (fun p => zH b p = -1 ∧ (k = -1 ∨ zl (zK b) k p)) (zl (zK b)) (zn b) a ∧ zMin (fun p => zH b p = -1) (zl (zK b)) (zn b) c ∧ f0_nextOverboard b = some (if a = -1 then c else a) := by
  have h0 := hB.1.1
  have h1 := hB.1.2.1
  unfold f0_nextOverboard
  by_cases ho : g0_opn b = -1
  · rw [z_eqT hB.opn_x ho]
    obtain ⟨a, c, ha, hc, e⟩ := z0_nextL hB (k := -1) (Or.inl rfl) (zn b).toNat xFU (-1) 0 (by omega) (by omega) (by unfold xFU; omega) (fun j a d => by omega) (Or.inl ⟨rfl, fun j a d => by omega⟩)
    exact ⟨-1, a, c, Or.inl ⟨rfl, ho⟩, ha, hc, e⟩
  · rw [z_eqF hB.opn_x (by decide) ho]
    obtain ⟨_, k, e0, k0, k1, k2, k3⟩ := hB.last_open ho
    rw [z_bind e0]
    obtain ⟨a, c, ha, hc, e⟩ := z0_nextL hB (k := k) (Or.inr ⟨k0, k1⟩) (zn b).toNat xFU (-1) 0 (by omega) (by omega) (by unfold xFU; omega) (fun j a d => by omega) (Or.inl ⟨rfl, fun j a d => by omega⟩)
    exact ⟨k, a, c, Or.inr ⟨k0, k1, ho, e0, k3⟩, ha, hc, e⟩
/-- what the model finds is what the class finds -/
theorem z5_fitting {b : BoatS} {x : ModS} (hB : zB b) (hR : zRel b (g5_now x)) {k a : Int} (hk : (k = -1 ∧ g0_opn b = -1) ∨ (0 ≤ k ∧ k < zn b ∧ ¬ g0_opn b = -1 ∧ f0_lastAt b (g0_opn b) = some k ∧ zMin (fun p => zH b p = g0_opn b) (fun a c => zl (zK b) c a) (zn b) k)) (ha : zMin (fun p => zH b p = -1 ∧ (k = -1 ∨ zl (zK b) k p)) (zl (zK b)) (zn b) a) : f5_fitting x = some (if g0_opn b = -1 then -1 else a) := by
  have e6 : x_ld 730 (g5_now x) 6 = some (g0_opn b) := by rw [z_ldT (by decide) (by decide), hR.2.2.2.2.2.2.1]
  unfold f5_fitting
  rw [z_bind e6]
  rcases hk with ⟨h1, h2⟩ | ⟨k0, k1, k2, k3, k4⟩
  · rw [z_eqT hB.opn_x h2, if_pos h2]
  · obtain ⟨hp, _⟩ := hB.last_open k2
    rw [z_eqF hB.opn_x (by decide) k2, if_neg k2, z_bind e6]
    obtain ⟨t, e1, ht⟩ := z5_lastOf hR.1 hB.1 (r := g0_opn b) hp hB.opn_x
    have et := zMin_uniq (fun _ _ => zl_asym) ht k4
    subst et
    obtain ⟨a', e2, ha'⟩ := z5_least hR.1 hB.1 (k := t) (Or.inr ⟨k0, k1⟩)
    have ea := zMin_uniq (fun _ _ => zl_asym) ha' ha
    rw [z_bind e1, e2, ea]; rfl
theorem z5_leastAll {b : BoatS} {x : ModS} (hB : zB b) (hR : zRel b (g5_now x)) {c : Int} (hc : zMin (fun p => zH b p = -1) (zl (zK b)) (zn b) c) : f5_leastInBoat x (-1) = some c := by
  obtain ⟨t, e, ht⟩ := z5_least hR.1 hB.1 (k := -1) (Or.inl rfl)
  have h2 : zMin (fun p => zH b p = -1) (zl (zK b)) (zn b) t := zMin_congr ht (fun q _ _ => ⟨fun z => z.1, fun z => ⟨z, Or.inl rfl⟩⟩)
  rw [e, zMin_uniq (fun _ _ => zl_asym) h2 hc]
theorem zs_nextThrown {b : BoatS} {x : ModS} (hB : zB b) (hR : zRel b (g5_now x)) : ∃ v, f0_nextOverboard b = some v ∧ f5_thrownNext x = some v := by
  obtain ⟨k, a, c, hk, ha, hc, e⟩ := z0_next hB
  refine ⟨_, e, ?_⟩
  unfold f5_thrownNext
  rw [z_bind (z5_fitting hB hR hk ha)]
  have hax := zMin_ge ha
  have hn := hB.1.2.1
  by_cases ho : g0_opn b = -1
  · rw [if_pos ho, z_eqT (by decide) rfl, z_bind (z5_leastAll hB hR hc)]
    have k1 : k = -1 := by
      rcases hk with ⟨h1, h2⟩ | ⟨k0, k1, k2, k3⟩
      · exact h1
      · exact absurd ho k2
    have h2 : zMin (fun p => zH b p = -1) (zl (zK b)) (zn b) a := zMin_congr ha (fun q _ _ => ⟨fun z => z.1, fun z => ⟨z, Or.inl k1⟩⟩)
    have := zMin_uniq (fun _ _ => zl_asym) h2 hc
    rw [this]
    split <;> rfl
  · rw [if_neg ho]
    by_cases d : a = -1
    · rw [z_eqT ⟨by omega, by omega⟩ d, z_bind (z5_leastAll hB hR hc), if_pos d]
    · rw [z_eqF ⟨by omega, by omega⟩ (by decide) d, if_neg d]

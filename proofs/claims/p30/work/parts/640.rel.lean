/-! Both sides together: the next one thrown. -/
theorem zB.opn_x {b : BoatS} (h : zB b) : xin (g0_opn b) := by
  rcases h.2.2.2.2.1 with q | ⟨k, k0, k1, hk⟩
  · rw [q]; decide
  · rw [← hk]; exact h.xF k k0 k1
/-- the last parcel of the open run -/
theorem zB.last_open {b : BoatS} (hB : zB b) (ho : ¬ g0_opn b = -1) : 0 ≤ g0_opn b ∧ ∃ k, f0_lastAt b (g0_opn b) = some k ∧ 0 ≤ k ∧ k < zn b ∧ zH b k = g0_opn b ∧ zMin (fun p => zH b p = g0_opn b) (fun a c => zl (zK b) c a) (zn b) k := by
  obtain ⟨j, j0, j1, hj⟩ := hB.2.2.2.2.1.resolve_left ho
  have hF := hB.2.2.2.1.2.2.1 j j0 j1
  obtain ⟨p, p0, p1, hp⟩ := hF.2.2.2.2.2
  obtain ⟨k, e, hz⟩ := z0_lastAt hB hB.opn_x
  have hk := zMin_rng hz (zMin_some hz p0 p1 (hp.trans hj))
  exact ⟨by omega, k, e, hk.1, hk.2.1, hk.2.2, hz⟩
theorem z0_next {b : BoatS} (hB : zB b) : ∃ k a c, ((k = -1 ∧ g0_opn b = -1) ∨ (0 ≤ k ∧ k < zn b ∧ ¬ g0_opn b = -1 ∧ f0_lastAt b (g0_opn b) = some k ∧ zMin (fun p => zH b p = g0_opn b) (fun a c => zl (zK b) c a) (zn b) k)) ∧ zMin (fun p => zH b p = -1 ∧ (k = -1 ∨ zl (zK b) k p)) (zl (zK b)) (zn b) a ∧ zMin (fun p => zH b p = -1) (zl (zK b)) (zn b) c ∧ f0_nextOverboard b = some (if a = -1 then c else a) := by
  have h0 := hB.1.1
  have h1 := hB.1.2.1
  unfold f0_nextOverboard
  by_cases ho : g0_opn b = -1
  · rw [z_eqT hB.opn_x ho]
    obtain ⟨a, c, ha, hc, e⟩ := z0_nextL hB (k := -1) (Or.inl rfl) (zn b).toNat xFU (-1) 0 (by omega) (by omega) (by unfold xFU; omega) (fun j a d => by omega) (Or.inl ⟨rfl, fun j a d => by omega⟩)
    exact ⟨-1, a, c, Or.inl ⟨rfl, ho⟩, ha, hc, e⟩
  · rw [z_eqF hB.opn_x (by decide) ho]
    obtain ⟨_, k, e0, k0, k1, k2, k3⟩ := hB.last_open ho
    rw [z_bind e0]
    obtain ⟨a, c, ha, hc, e⟩ := z0_nextL hB (k := k) (Or.inr ⟨k0, k1⟩) (zn b).toNat xFU (-1) 0 (by omega) (by omega) (by unfold xFU; omega) (fun j a d => by omega) (Or.inl ⟨rfl, fun j a d => by omega⟩)
    exact ⟨k, a, c, Or.inr ⟨k0, k1, ho, e0, k3⟩, ha, hc, e⟩

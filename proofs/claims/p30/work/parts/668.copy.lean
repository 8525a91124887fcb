/-! A boat is copied. -/
def zEqR (r s : RowS) : Prop := r.1 = s.1 ∧ ∀ i, 0 ≤ i → i < s.1 → r.2 i = s.2 i
def zEq (b o : BoatS) : Prop := (g0_room b = g0_room o ∧ g0_opn b = g0_opn o ∧ g0_flo b = g0_flo o ∧ g0_cst b = g0_cst o ∧ g0_mrg b = g0_mrg o ∧ g0_stm b = g0_stm o ∧ g0_brk b = g0_brk o) ∧ zEqR (g0_keys b) (g0_keys o) ∧ zEqR (g0_weis b) (g0_weis o) ∧ zEqR (g0_homs b) (g0_homs o) ∧ zEqR (g0_ords b) (g0_ords o) ∧ zEqR (g0_flts b) (g0_flts o) ∧ zEqR (g0_strs b) (g0_strs o) ∧ zEqR (g0_rwts b) (g0_rwts o)
theorem zEqR_cpy (f : Int → Int) (o : RowS) : zEqR (o.1, zCpy f o.2 o.1) o := ⟨rfl, fun i h0 h1 => if_pos ⟨h0, h1⟩⟩
theorem z0_copy (b : BoatS) {o : BoatS} (hB : zB o) : ∃ b', f0_copy b o = some b' ∧ zEq b' o := by
  have h0 := hB.1.1
  have h1 := hB.1.2.1
  have r0 := hB.R0
  have r1 := hB.R_le
  have h2 := hB.2.1
  unfold zSz at h2
  unfold f0_copy
  rw [z_bind (z2_copy (N := 120) (M := 120) (r := g0_keys b) (o := g0_keys o) h0 (by show zn o ≤ (120 : Int); omega) (by show zn o ≤ (120 : Int); omega) (by decide))]
  rw [z_bind (z2_copy (N := 120) (M := 120) (r := g0_weis b) (o := g0_weis o) (by omega) (by show _ ≤ (120 : Int); omega) (by show _ ≤ (120 : Int); omega) (by decide))]
  rw [z_bind (z2_copy (N := 120) (M := 120) (r := g0_homs b) (o := g0_homs o) (by omega) (by show _ ≤ (120 : Int); omega) (by show _ ≤ (120 : Int); omega) (by decide))]
  rw [z_bind (z2_copy (N := 120) (M := 120) (r := g0_ords b) (o := g0_ords o) (by omega) (by show _ ≤ (120 : Int); omega) (by show _ ≤ (120 : Int); omega) (by decide))]
  rw [z_bind (z2_copy (N := 120) (M := 120) (r := g0_flts b) (o := g0_flts o) r0 (by show zR o ≤ (120 : Int); omega) (by show zR o ≤ (120 : Int); omega) (by decide))]
  rw [z_bind (z2_copy (N := 120) (M := 120) (r := g0_strs b) (o := g0_strs o) (by omega) (by show _ ≤ (120 : Int); omega) (by show _ ≤ (120 : Int); omega) (by decide))]
  rw [z_bind (z2_copy (N := 120) (M := 120) (r := g0_rwts b) (o := g0_rwts o) (by omega) (by show _ ≤ (120 : Int); omega) (by show _ ≤ (120 : Int); omega) (by decide))]
  exact ⟨_, rfl, ⟨rfl, rfl, rfl, rfl, rfl, rfl, rfl⟩, zEqR_cpy _ _, zEqR_cpy _ _, zEqR_cpy _ _, zEqR_cpy _ _, zEqR_cpy _ _, zEqR_cpy _ _, zEqR_cpy _ _⟩
theorem zP_cg {K W H K' W' H' : Int → Int} {n : Int} (h : zP K W H n) (e : ∀ p, 0 ≤ p → p < n → K' p = K p ∧ W' p = W p ∧ H' p = H p) : zP K' W' H' n := ⟨h.1, h.2.1, fun p p0 p1 => by
  obtain ⟨e1, e2, e3⟩ := e p p0 p1
  rw [e1, e2, e3]; exact h.2.2 p p0 p1⟩
theorem zOrd_cg {K O K' O' : Int → Int} {n : Int} (hn : 0 ≤ n) (h : zOrd K O n) (e : ∀ p, 0 ≤ p → p < n → K' p = K p ∧ O' p = O p) : zOrd K' O' n := by
  have r : ∀ i, 0 ≤ i → i < n → 0 ≤ O i ∧ O i < n := fun i a c => by have := h.2.1 i a (by omega); omega
  refine ⟨fun i j i0 ij j1 => ?_, fun i i0 i1 => ?_, fun p p0 p1 => ?_, fun i j i0 i1 j0 j1 q => ?_⟩
  · rw [(e i i0 (by omega)).2, (e j (by omega) j1).2]
    have ri := r i i0 (by omega); have rj := r j (by omega) j1
    have := h.1 i j i0 ij j1
    unfold zl at this ⊢
    rw [(e _ ri.1 ri.2).1, (e _ rj.1 rj.2).1]; exact this
  · rw [(e i i0 (by omega)).2]; exact h.2.1 i i0 i1
  · obtain ⟨i, i0, i1, hi⟩ := h.2.2.1 p p0 p1
    exact ⟨i, i0, i1, by rw [(e i i0 (by omega)).2]; exact hi⟩
  · rw [(e i i0 (by omega)).2, (e j j0 (by omega)).2] at q
    exact h.2.2.2 i j i0 i1 j0 j1 q
theorem zRun_cg {H W F S G H' W' F' S' G' : Int → Int} {n R flo : Int} (h : zRun H W F S G n R flo) (e : ∀ p, 0 ≤ p → p < n → W' p = W p ∧ H' p = H p) (g : ∀ k, 0 ≤ k → k < R → F' k = F k ∧ S' k = S k ∧ G' k = G k) : zRun H' W' F' S' G' n R flo := by
  obtain ⟨h1, h2, h3, h4⟩ := h
  refine ⟨h1, fun i j i0 ij j1 => ?_, fun k k0 k1 => ?_, fun p p0 p1 hp => ?_⟩
  · rw [(g i i0 (by omega)).1, (g j (by omega) j1).1]; exact h2 i j i0 ij j1
  · obtain ⟨g1, g2, g3⟩ := g k k0 k1
    have hk := h3 k k0 k1
    rw [g1, g2, g3]
    refine ⟨hk.1, hk.2.1, hk.2.2.1, hk.2.2.2.1, ?_, ?_⟩
    · rw [hk.2.2.2.2.1]
      exact xS_congr _ _ (fun p p0 p1 => by rw [(e p p0 (by omega)).1, (e p p0 (by omega)).2])
    · obtain ⟨p, p0, p1, hp⟩ := hk.2.2.2.2.2
      exact ⟨p, p0, p1, by rw [(e p p0 p1).2]; exact hp⟩
  · rw [(e p p0 p1).2] at hp ⊢
    obtain ⟨k, k0, k1, hk⟩ := h4 p p0 p1 hp
    exact ⟨k, k0, k1, by rw [(g k k0 k1).1]; exact hk⟩
theorem zC_cg {H H' : Int → Int} {h n : Int} (e : ∀ p, 0 ≤ p → p < n → H' p = H p) : zC H' h n = zC H h n := xS_congr _ _ (fun p p0 p1 => by rw [e p p0 (by omega)])
theorem zB_eq {b o : BoatS} (hB : zB o) (h : zEq b o) : zB b := by
  obtain ⟨⟨e1, e2, e3, e4, e5, e6, e7⟩, ⟨k1, k2⟩, ⟨w1, w2⟩, ⟨h1, h2⟩, ⟨o1, o2⟩, ⟨f1, f2⟩, ⟨s1, s2⟩, ⟨g1, g2⟩⟩ := h
  obtain ⟨p1, p2, p3, p4, p5, p6⟩ := hB
  have en : zn b = zn o := k1
  have eR : zR b = zR o := f1
  obtain ⟨z1, z2, z3, z4, z5⟩ := p2
  have n0 := p1.1
  have aK : ∀ p, 0 ≤ p → p < zn o → zK b p = zK o p := k2
  have aW : ∀ p, 0 ≤ p → p < zn o → zW b p = zW o p := fun p a c => w2 p a (by rw [z1]; exact c)
  have aH : ∀ p, 0 ≤ p → p < zn o → zH b p = zH o p := fun p a c => h2 p a (by rw [z2]; exact c)
  have aO : ∀ p, 0 ≤ p → p < zn o → zO b p = zO o p := fun p a c => o2 p a (by rw [z3]; exact c)
  have aF : ∀ p, 0 ≤ p → p < zR o → zF b p = zF o p := f2
  have aS : ∀ p, 0 ≤ p → p < zR o → zS b p = zS o p := fun p a c => s2 p a (by rw [z4]; exact c)
  have aG : ∀ p, 0 ≤ p → p < zR o → zG b p = zG o p := fun p a c => g2 p a (by rw [z5]; exact c)
  unfold zB
  rw [en, eR, e1, e2, e3, zC_cg aH]
  refine ⟨zP_cg p1 (fun p a c => ⟨aK p a c, aW p a c, aH p a c⟩), ⟨?_, ?_, ?_, ?_, ?_⟩, zOrd_cg n0 p3 (fun p a c => ⟨aK p a c, aO p a c⟩), zRun_cg p4 (fun p a c => ⟨aW p a c, aH p a c⟩) (fun p a c => ⟨aF p a c, aS p a c, aG p a c⟩), ?_, p6⟩
  · rw [w1, z1, en]
  · rw [h1, z2, en]
  · rw [o1, z3, en]
  · rw [s1, z4, eR]
  · rw [g1, z5, eR]
  · rcases p5 with q | ⟨k, q0, q1, q2⟩
    · exact Or.inl q
    · exact Or.inr ⟨k, q0, q1, by rw [aF k q0 q1]; exact q2⟩
theorem zT_eq {b o : BoatS} {c : Int} (h : zT o c) (e : zEq b o) : zT b c := by
  obtain ⟨⟨e1, e2, e3, e4, e5, e6, e7⟩, _⟩ := e
  unfold zT
  rw [e3, e4, e5, e6, e7]; exact h

/-! The law's three rows tell the boat; the next one thrown. -/
def lV (vf F S : Int → Int) (R flo : Int) : Prop := (∀ k, 0 ≤ k → k < R → vf (F k) = S k) ∧ ∀ r, 0 ≤ r → r < flo → (∀ k, 0 ≤ k → k < R → ¬ F k = r) → vf r = -1
def lH (b : BoatS) (vh : Int → Int) : Prop := vh 0 = zn b ∧ vh 1 = g0_room b ∧ vh 2 = g0_opn b ∧ vh 3 = g0_flo b ∧ vh 4 = g0_cst b ∧ vh 5 = g0_mrg b ∧ vh 6 = g0_stm b ∧ vh 7 = g0_brk b
def lR (b : BoatS) (va vh vf : Int → Int) : Prop := lQ va (zK b) (zW b) (zH b) (zn b) ∧ lH b vh ∧ lV vf (zF b) (zS b) (zR b) (g0_flo b) ∧ g0_flo b ≤ 64
def lJ (b : BoatS) (va vh vf : Int → Int) (c : Int) : Prop := zB b ∧ lR b va vh vf ∧ zT b c
theorem lJ_le {b : BoatS} {va vh vf : Int → Int} {c d : Int} (h : lJ b va vh vf c) (hd : c ≤ d) : lJ b va vh vf d := ⟨h.1, h.2.1, zT_le h.2.2 hd⟩
section LREL
variable {b : BoatS} {va vh vf : Int → Int}
theorem lR.h0 (h : lR b va vh vf) : vh 0 = zn b := h.2.1.1
theorem lR.ld {i v : Int} (i0 : 0 ≤ i) (i1 : i < 8) (e : vh i = v) : x_ld 8 vh i = some v := by rw [z_ldT i0 (by show i < (8 : Int); exact i1), e]
theorem lR.ld0 (h : lR b va vh vf) : x_ld 8 vh 0 = some (zn b) := lR.ld (by decide) (by decide) h.2.1.1
theorem lR.ld1 (h : lR b va vh vf) : x_ld 8 vh 1 = some (g0_room b) := lR.ld (by decide) (by decide) h.2.1.2.1
theorem lR.ld2 (h : lR b va vh vf) : x_ld 8 vh 2 = some (g0_opn b) := lR.ld (by decide) (by decide) h.2.1.2.2.1
theorem lR.ld3 (h : lR b va vh vf) : x_ld 8 vh 3 = some (g0_flo b) := lR.ld (by decide) (by decide) h.2.1.2.2.2.1
theorem lR.ld4 (h : lR b va vh vf) : x_ld 8 vh 4 = some (g0_cst b) := lR.ld (by decide) (by decide) h.2.1.2.2.2.2.1
theorem lR.ld5 (h : lR b va vh vf) : x_ld 8 vh 5 = some (g0_mrg b) := lR.ld (by decide) (by decide) h.2.1.2.2.2.2.2.1
theorem lR.ld6 (h : lR b va vh vf) : x_ld 8 vh 6 = some (g0_stm b) := lR.ld (by decide) (by decide) h.2.1.2.2.2.2.2.2.1
theorem lR.ld7 (h : lR b va vh vf) : x_ld 8 vh 7 = some (g0_brk b) := lR.ld (by decide) (by decide) h.2.1.2.2.2.2.2.2.2
theorem lr_many0 (h : lR b va vh vf) : fL_many va vh 0 (-1) = some (zC (zH b) (-1) (zn b)) := lq_many h.1 h.h0 (h := -1) (by decide) (by decide) (by decide) (by decide)
theorem lr_many2 (h : lR b va vh vf) : fL_many va vh 2 (-1) = some (zC (zH b) (-2) (zn b)) := lq_many h.1 h.h0 (h := -2) (by decide) (by decide) (by decide) (by decide)
theorem zwh_run {r : Int} (r0 : 0 ≤ r) : 1 = zwh r := ((zwh_1 (by omega)).mpr r0).symm
theorem lr_manyR (h : lR b va vh vf) {r : Int} (r0 : 0 ≤ r) (r1 : r ≤ 4000) : fL_many va vh 1 r = some (zC (zH b) r (zn b)) := lq_many h.1 h.h0 (h := r) (zwh_run r0) (zof_0 r0).symm (by omega) r1
theorem lr_weighs (h : lR b va vh vf) (hB : zB b) {i : Int} (i0 : 0 ≤ i) (i1 : i < zR b) : fL_weighs va vh (zF b i) = some (zG b i) := by
  have hi := hB.2.2.2.1.2.2.1 i i0 i1
  have hf := h.2.2.2
  rw [lq_weighs h.1 h.h0 hi.1 (by omega), hi.2.2.2.2.1]
theorem lr_lastOf (h : lR b va vh vf) {r t : Int} (r0 : 0 ≤ r) (r1 : r ≤ 4000) (ht : ¬ t = -1) (hz : zMin (fun q => zH b q = r) (fun a c => zl (zK b) c a) (zn b) t) : fL_lastOf va vh r = some t := by
  have rt := zMin_rng hz ht
  have hl : ∀ q, 0 ≤ q → q < zn b → zH b q = r → q = t ∨ zl (zK b) q t := by
    rcases hz with ⟨g, _⟩ | ⟨_, _, _, g⟩
    · exact absurd g ht
    · exact g
  unfold fL_lastOf
  rw [z_bind (lr_manyR h r0 r1), ← zRk_all (K := zK b) rt.1 rt.2.1 rt.2.2 hl, z_bind (lq_rankedAt h.1 h.h0 (zwh_run r0) (zof_0 r0).symm (by omega) r1 rt.1 rt.2.1 rt.2.2)]
theorem lr_first (h : lR b va vh vf) {e r g t : Int} (he : e = zwh g) (hr : r = zof g) (g0 : -2 ≤ g) (g1 : g ≤ 4000) (ht : ¬ t = -1) (hz : zMin (fun q => zH b q = g) (zl (zK b)) (zn b) t) : fL_ranked va vh e r 0 = some t := by
  have rt := zMin_rng hz ht
  have hl : ∀ q, 0 ≤ q → q < zn b → zH b q = g → q = t ∨ zl (zK b) t q := by
    rcases hz with ⟨g, _⟩ | ⟨_, _, _, g⟩
    · exact absurd g ht
    · exact g
  have e := lq_rankedAt h.1 h.h0 he hr g0 g1 rt.1 rt.2.1 rt.2.2
  rw [zRk_0 hl] at e
  exact e
theorem lr_nextL (hB : zB b) (h : lR b va vh vf) {k c : Int} (k0 : 0 ≤ k) (k1 : k < zn b) (hc : zAb b c) : ∀ (m fu : Nat) (i : Int), 0 ≤ i → i + (m : Int) = zC (zH b) (-1) (zn b) → m < fu → (∀ q, 0 ≤ q → q < zn b → zH b q = -1 → zRk (zK b) (zH b) (zn b) (-1) q < i → ¬ zl (zK b) k q) → ∃ a, zAf b k a ∧ fL_next_L26 va vh (zC (zH b) (-1) (zn b)) k fu i = some (if a = -1 then c else a)
  | 0, 0, _, _, _, q, _ => by omega
  | m + 1, 0, _, _, _, q, _ => by omega
  | 0, fu + 1, i, i0, i1, _, hno => by
    have h120 := hB.1.2.1
    have h00 := hB.1.1
    have cn := zC_nonneg (zH b) (-1) (zn b)
    have cl := zC_le (zH b) (-1) h00
    unfold fL_next_L26
    rw [z_ltF ⟨by omega, by omega⟩ ⟨by omega, by omega⟩ (by omega)]
    refine ⟨-1, Or.inl ⟨rfl, fun q q0 q1 hq => hno q q0 q1 hq.1 (by have := zRk_lt (K := zK b) q0 q1 hq.1; omega) hq.2⟩, ?_⟩
    rw [if_pos rfl]
    by_cases z : zC (zH b) (-1) (zn b) = 0
    · rw [z_eqT ⟨by omega, by omega⟩ z]
      have : c = -1 := Classical.byContradiction fun w => by
        have rc := zMin_rng hc w
        have := zC_pos' rc.1 rc.2.1 rc.2.2
        omega
      rw [this]
    · rw [z_eqF ⟨by omega, by omega⟩ (by decide) z]
      obtain ⟨q, q0, q1, hq⟩ := zC_pos (H := zH b) (h := -1) (n := zn b) (by omega)
      have nc := zMin_some hc q0 q1 hq
      rw [z_bind (lr_first h (g := -1) (by decide) (by decide) (by decide) (by decide) nc hc)]
  | m + 1, fu + 1, i, i0, i1, q, hno => by
    have h120 := hB.1.2.1
    have h00 := hB.1.1
    have cl := zC_le (zH b) (-1) h00
    obtain ⟨p, _, p0, p1, p2, p3⟩ := z0_parcelAt hB (h := -1) (k := i) (by decide) i0 (by omega)
    have p3' : zRk (zK b) (zH b) (zn b) (-1) p = i := p3
    have e1 : fL_ranked va vh 0 (-1) i = some p := by
      rw [← p3']
      exact lq_rankedAt h.1 h.h0 (by decide) (by decide) (by decide) (by decide) p0 p1 p2
    unfold fL_next_L26
    rw [z_ltT ⟨by omega, by omega⟩ ⟨by omega, by omega⟩ (by omega), z_bind e1, z_bind (lq_less h.1 k0 k1 p0 p1)]
    by_cases d : zl (zK b) k p
    · rw [if_pos d, z_eqF (by decide) (by decide) (by decide)]
      refine ⟨p, Or.inr ⟨p0, p1, ⟨p2, d⟩, fun q q0 q1 hq => ?_⟩, by rw [if_neg (by omega)]⟩
      by_cases z : q = p
      · exact Or.inl z
      · refine Or.inr (zl_tri (fun w => hno q q0 q1 hq.1 ?_ hq.2) z)
        have := zRk_mono (n := zn b) q0 q1 hq.1 w
        omega
    · rw [if_neg d, z_eqT (by decide) rfl]
      exact lr_nextL hB h k0 k1 hc m fu (i + 1) (by omega) (by omega) (by omega) (fun q q0 q1 hq hk => by
        by_cases z : zRk (zK b) (zH b) (zn b) (-1) q < i
        · exact hno q q0 q1 hq z
        · have e2 : zRk (zK b) (zH b) (zn b) (-1) q = i := by omega
          have := zRank_inj q0 q1 hq p0 p1 p2 (e2.trans p3'.symm)
          rw [this]; exact d)
/-- the one thrown next: out of what the class finds -/
theorem lr_next (hB : zB b) (h : lR b va vh vf) {k a c : Int} (hk : (k = -1 ∧ g0_opn b = -1) ∨ (0 ≤ k ∧ k < zn b ∧ ¬ g0_opn b = -1 ∧ f0_lastAt b (g0_opn b) = some k ∧ zMin (fun p => zH b p = g0_opn b) (fun a c => zl (zK b) c a) (zn b) k)) (ha : zMin (fun p => zH b p = -1 ∧ (k = -1 ∨ zl (zK b) k p)) (zl (zK b)) (zn b) a) (hc : zMin (fun p => zH b p = -1) (zl (zK b)) (zn b) c) : fL_next va vh = some (if a = -1 then c else a) := by
  have h120 := hB.1.2.1
  have h00 := hB.1.1
  have cn := zC_nonneg (zH b) (-1) (zn b)
  have cl := zC_le (zH b) (-1) h00
  have hx := hB.opn_x
  unfold fL_next
  rw [z_bind (lr_many0 h), z_bind h.ld2]
  rcases hk with ⟨h1, h2⟩ | ⟨k0, k1, k2, k3, k4⟩
  · rw [z_ltT hx (by decide) (by omega)]
    have ha' : zMin (fun p => zH b p = -1) (zl (zK b)) (zn b) a := zMin_congr ha (fun q _ _ => ⟨fun z => z.1, fun z => ⟨z, Or.inl h1⟩⟩)
    have eac := zMin_uniq (fun _ _ => zl_asym) ha' hc
    have ei : (if a = -1 then c else a) = c := by
      rw [eac]; split <;> rfl
    rw [ei]
    by_cases z : zC (zH b) (-1) (zn b) = 0
    · rw [z_eqT ⟨by omega, by omega⟩ z]
      have : c = -1 := Classical.byContradiction fun w => by
        have rc := zMin_rng hc w
        have := zC_pos' rc.1 rc.2.1 rc.2.2
        omega
      rw [this]
    · rw [z_eqF ⟨by omega, by omega⟩ (by decide) z]
      obtain ⟨q, q0, q1, hq⟩ := zC_pos (H := zH b) (h := -1) (n := zn b) (by omega)
      have nc := zMin_some hc q0 q1 hq
      rw [z_bind (lr_first h (g := -1) (by decide) (by decide) (by decide) (by decide) nc hc)]
  · obtain ⟨o0, _⟩ := hB.last_open k2
    obtain ⟨j, j0, j1, hj⟩ := hB.2.2.2.2.1.resolve_left k2
    have hF := hB.2.2.2.1.2.2.1 j j0 j1
    have hf := h.2.2.2
    rw [z_ltF hx (by decide) (by omega), z_bind h.ld2, z_bind (lr_lastOf h o0 (by omega) (by omega) k4)]
    obtain ⟨a', ha', e⟩ := lr_nextL hB h k0 k1 hc (zC (zH b) (-1) (zn b)).toNat xFU 0 (by omega) (by omega) (by unfold xFU; omega) (fun q q0 q1 hq hk => by have := (zRk_rng (zK b) (zH b) h00 (-1) q).1; omega)
    have ha2 : zAf b k a := zMin_congr ha (fun q _ _ => ⟨fun z => ⟨z.1, z.2.resolve_left (by omega)⟩, fun z => ⟨z.1, Or.inr z.2⟩⟩)
    rw [e, zMin_uniq (fun _ _ => zl_asym) ha' ha2]
theorem lr_nextThrown (hB : zB b) (h : lR b va vh vf) : ∃ v, f0_nextOverboard b = some v ∧ fL_next va vh = some v ∧ xin v := by
  obtain ⟨k, a, c, hk, ha, hc, e⟩ := z0_next hB
  have h120 := hB.1.2.1
  have h00 := hB.1.1
  have r1 := zMin_ge ha
  have r2 := zMin_ge hc
  exact ⟨_, e, lr_next hB h hk ha hc, by split <;> exact ⟨by omega, by omega⟩⟩
end LREL

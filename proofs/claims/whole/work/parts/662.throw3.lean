/-! One is thrown: the model's side, and both. -/
theorem zRel_tie {b : BoatS} {now : Int → Int} (hB : zB b) (hR : zRel b now) {p j : Int} (p0 : 0 ≤ p) (j0 : 0 ≤ j) (j1 : j < zR b) : zRel (bTie b p j) (x_up (x_up now (250 + 4 * p + 2) 1) (250 + 4 * p + 3) (zF b j)) := by
  have hF := hB.2.2.2.1.2.2.1 j j0 j1
  obtain ⟨hm, h0, h2, h3, h4, h5, h6, h7, h8, h9⟩ := hR
  have hM := zM_be (p := p) (r := zF b j) hm p0
  have ew : zwh (zF b j) = 1 := (zwh_1 (by omega)).mpr hF.1
  rw [ew, zof_0 hF.1] at hM
  have hR := hB.R_le; have h120 := hB.1.2.1
  have lo : ∀ i : Int, i < 250 → x_up (x_up now (250 + 4 * p + 2) 1) (250 + 4 * p + 3) (zF b j) i = now i := fun i hi => by rw [z_upN (by omega), z_upN (by omega)]
  refine ⟨hM, ?_, ?_, ?_, ?_, ?_, ?_, ?_, ?_, fun k k0 k1 => ?_⟩
  · rw [lo _ (by decide)]; exact h0
  · rw [lo _ (by decide)]; exact h2
  · rw [lo _ (by decide)]; exact h3
  · rw [lo _ (by decide)]; exact h4
  · rw [lo _ (by decide)]; exact h5
  · rw [lo _ (by decide)]; exact h6
  · rw [lo _ (by decide)]; exact h7
  · rw [lo _ (by decide)]; exact h8
  · have k1' : k < zR b := k1
    rw [lo _ (by omega), lo _ (by omega)]; exact h9 k k0 k1
theorem z5_throw {b : BoatS} {x : ModS} (hB : zB b) (hR : zRel b (g5_now x)) (hf : g0_flo b < 1000000000) {p : Int} (p0 : 0 ≤ p) (p1 : p < zn b) (hp : zH b p = -1)
    (h : (∃ k j, ¬ g0_opn b = -1 ∧ zLst b k ∧ 0 ≤ k ∧ k < zn b ∧ zAf b k p ∧ 0 ≤ j ∧ j < zR b ∧ zF b j = g0_opn b ∧ f0_lastAt b (g0_opn b) = some k ∧ f0_throwOne b = some (g0_opn b, bTie b p j)) ∨ ((g0_opn b = -1 ∨ (¬ g0_opn b = -1 ∧ ∃ k, zLst b k ∧ 0 ≤ k ∧ k < zn b ∧ zAf b k (-1) ∧ f0_lastAt b (g0_opn b) = some k)) ∧ zAb b p ∧ f0_throwOne b = some (g0_flo b, bNew b p))) :
    ∃ v b' now', f0_throwOne b = some (v, b') ∧ f5_throwOne x = some (v, s5_now x now') ∧ zRel b' now' ∧ ((∃ j, 0 ≤ j ∧ j < zR b ∧ b' = bTie b p j ∧ v = g0_opn b) ∨ (b' = bNew b p ∧ v = g0_flo b)) := by
  have h120 := hB.1.2.1
  rcases h with ⟨k, j, ho, hk, k0, k1, ha, j0, j1, hj, hl, e⟩ | ⟨ho, hc, e⟩
  · refine ⟨_, _, _, e, ?_, hj ▸ zRel_tie hB hR p0 j0 j1, Or.inl ⟨j, j0, j1, rfl, rfl⟩⟩
    have ha' : zMin (fun q => zH b q = -1 ∧ (k = -1 ∨ zl (zK b) k q)) (zl (zK b)) (zn b) p := zMin_congr ha (fun q _ _ => ⟨fun z => ⟨z.1, Or.inr z.2⟩, fun z => ⟨z.1, z.2.resolve_left (by omega)⟩⟩)
    have ef := z5_fitting hB hR (k := k) (Or.inr ⟨k0, k1, ho, hl, hk⟩) ha'
    have e6 : ∀ (q w v : Int), 0 ≤ q → 0 ≤ w → x_ld 730 (x_up (g5_now x) (250 + 4 * q + w) v) 6 = some (g0_opn b) := fun q w v h1 h2 => by rw [z_ldT (by decide) (by decide), z_upN (by omega), hR.2.2.2.2.2.2.1]
    have e6' : ∀ (q w v q' w' v' : Int), 0 ≤ q → 0 ≤ w → 0 ≤ q' → 0 ≤ w' → x_ld 730 (x_up (x_up (g5_now x) (250 + 4 * q + w) v) (250 + 4 * q' + w') v') 6 = some (g0_opn b) := fun q w v q' w' v' h1 h2 h3 h4 => by rw [z_ldT (by decide) (by decide), z_upN (by omega), z_upN (by omega), hR.2.2.2.2.2.2.1]
    unfold f5_throwOne
    rw [z_bind ef, if_neg ho, z_eqF ⟨by omega, by omega⟩ (by decide) (by omega), z_bind (z5_be p0 (by omega) (by decide) (by decide))]
    refine (z_bind (e6 p 2 1 p0 (by decide))).trans ?_
    refine (z_bind (z5_be (x := s5_now x (x_up (g5_now x) (250 + 4 * p + 2) 1)) p0 (by omega) (by decide) (by decide))).trans ?_
    refine (z_bind (e6' p 2 1 p 3 _ p0 (by decide) p0 (by decide))).trans ?_
    rfl
  · have hn1 := zB_new hB hf p0 p1 hp
    have hR0 := hB.R0
    have hf0 := hB.2.2.2.1.1.2.1
    obtain ⟨n1, f1, f2, f3, f4, f5, f6, f7, f8⟩ := z5_newRun hR hB.R0 (by omega)
    refine ⟨_, _, x_up (x_up (x_up n1 6 (g0_flo b)) (250 + 4 * p + 2) 1) (250 + 4 * p + 3) (g0_flo b), e, ?_, ?_, Or.inr ⟨rfl, rfl⟩⟩
    · have ef : f5_fitting x = some (-1) := by
        rcases ho with ho | ⟨ho, k, hk, k0, k1, ha, hl⟩
        · obtain ⟨t, _, ht⟩ := z5_least hR.1 hB.1 (k := -1) (Or.inl rfl)
          have := z5_fitting hB hR (k := -1) (Or.inl ⟨rfl, ho⟩) ht
          rw [if_pos ho] at this; exact this
        · have ha' : zMin (fun q => zH b q = -1 ∧ (k = -1 ∨ zl (zK b) k q)) (zl (zK b)) (zn b) (-1) := zMin_congr ha (fun q _ _ => ⟨fun z => ⟨z.1, Or.inr z.2⟩, fun z => ⟨z.1, z.2.resolve_left (by omega)⟩⟩)
          have := z5_fitting hB hR (k := k) (Or.inr ⟨k0, k1, ho, hl, hk⟩) ha'
          rw [if_neg ho] at this; exact this
      unfold f5_throwOne
      rw [z_bind ef, z_eqT (by decide) rfl, z_bind (z5_leastAll hB hR hc), z_bind2 f1]
      dsimp only
      refine (z_bind (z_stT (N := 730) (f := n1) (i := 6) (v := g0_flo b) (by decide) (by decide))).trans ?_
      refine (z_bind (z5_be (x := s5_now (s5_now x n1) (x_up n1 6 (g0_flo b))) p0 (by omega) (by decide) (by decide))).trans ?_
      refine (z_bind (show x_ld 730 (x_up (x_up n1 6 (g0_flo b)) (250 + 4 * p + 2) 1) 6 = some (g0_flo b) by rw [z_ldT (by decide) (by decide), z_upN (by omega), z_upS])).trans ?_
      refine (z_bind (z5_be (x := s5_now (s5_now (s5_now x n1) (x_up n1 6 (g0_flo b))) (x_up (x_up n1 6 (g0_flo b)) (250 + 4 * p + 2) 1)) p0 (by omega) (by decide) (by decide))).trans ?_
      refine (z_bind (show x_ld 730 (x_up (x_up (x_up n1 6 (g0_flo b)) (250 + 4 * p + 2) 1) (250 + 4 * p + 3) (g0_flo b)) 6 = some (g0_flo b) by rw [z_ldT (by decide) (by decide), z_upN (by omega), z_upN (by omega), z_upS])).trans ?_
      rfl
    · have hM := zM_be (p := p) (r := g0_flo b) (zM_lo (now' := x_up n1 6 (g0_flo b)) hR.1 (by rw [z_upN (by decide)]; exact f3 1 (by decide) (by decide)) (fun j hj => by rw [z_upN (by omega)]; exact f2 j hj)) p0
      rw [(zwh_1 (by omega)).mpr hf0, zof_0 hf0] at hM
      obtain ⟨hm, h0, h2, h3, h4, h5, h6, h7, h8, h9⟩ := hR
      have lo : ∀ i : Int, i < 250 → ¬ i = 6 → x_up (x_up (x_up n1 6 (g0_flo b)) (250 + 4 * p + 2) 1) (250 + 4 * p + 3) (g0_flo b) i = n1 i := fun i hi h6 => by rw [z_upN (by omega), z_upN (by omega), z_upN h6]
      refine ⟨hM, ?_, ?_, ?_, ?_, ?_, ?_, ?_, ?_, fun k k0 k1 => ?_⟩
      · rw [lo _ (by decide) (by decide), f3 _ (by decide) (by decide)]; exact h0
      · rw [lo _ (by decide) (by decide), f3 _ (by decide) (by decide)]; exact h2
      · rw [lo _ (by decide) (by decide), f3 _ (by decide) (by decide)]; exact h3
      · rw [lo _ (by decide) (by decide), f3 _ (by decide) (by decide)]; exact h4
      · rw [lo _ (by decide) (by decide), f3 _ (by decide) (by decide)]; exact h5
      · rw [z_upN (by omega), z_upN (by omega), z_upS]; rfl
      · rw [lo _ (by decide) (by decide), f4]; rfl
      · rw [lo _ (by decide) (by decide), f5]; rfl
      · have k1' : k < zR b + 1 := k1
        rw [lo _ (by omega) (by omega), lo _ (by omega) (by omega)]
        show n1 (10 + 2 * k) = x_up (zF b) (zR b) (g0_flo b) k ∧ n1 (10 + 2 * k + 1) = x_up (zS b) (zR b) 5 k
        by_cases e : k = zR b
        · rw [e, z_upS, z_upS]; exact ⟨f7, f8⟩
        · rw [z_upN e, z_upN e]; exact f6 k k0 (by omega)
/-- the counters stay within c -/
def zT (b : BoatS) (c : Int) : Prop := g0_flo b ≤ c ∧ (0 ≤ g0_cst b ∧ g0_cst b ≤ c) ∧ (0 ≤ g0_mrg b ∧ g0_mrg b ≤ c) ∧ (0 ≤ g0_stm b ∧ g0_stm b ≤ c) ∧ (0 ≤ g0_brk b ∧ g0_brk b ≤ c)
theorem zT_le {b : BoatS} {c d : Int} (h : zT b c) (hd : c ≤ d) : zT b d := by
  obtain ⟨h1, h2, h3, h4, h5⟩ := h
  exact ⟨by omega, by omega, by omega, by omega, by omega⟩
/-- both sides tell the same boat, with counters within c -/
def zJ (b : BoatS) (now : Int → Int) (c : Int) : Prop := zB b ∧ zRel b now ∧ zT b c
/-- what throwing leaves -/
def zKp (b b' : BoatS) : Prop := zn b' = zn b ∧ zK b' = zK b ∧ zW b' = zW b ∧ zO b' = zO b ∧ g0_room b' = g0_room b
theorem zKp_refl (b : BoatS) : zKp b b := ⟨rfl, rfl, rfl, rfl, rfl⟩
theorem zKp_trans {a b c : BoatS} (h : zKp a b) (g : zKp b c) : zKp a c := ⟨g.1.trans h.1, g.2.1.trans h.2.1, g.2.2.1.trans h.2.2.1, g.2.2.2.1.trans h.2.2.2.1, g.2.2.2.2.trans h.2.2.2.2⟩
theorem zs_throwOne {b : BoatS} {x : ModS} {c : Int} (hJ : zJ b (g5_now x) c) (hc : c < 1000000000) (hp : 0 < zC (zH b) (-1) (zn b)) : ∃ v b' now', f0_throwOne b = some (v, b') ∧ f5_throwOne x = some (v, s5_now x now') ∧ zJ b' now' (c + 1) ∧ zKp b b' ∧ zC (zH b') (-1) (zn b) = zC (zH b) (-1) (zn b) - 1 ∧ 0 ≤ v ∧ v ≤ 1000000000 := by
  obtain ⟨hB, hR, hT⟩ := hJ
  have hf : g0_flo b < 1000000000 := by have := hT.1; omega
  have hf0 := hB.2.2.2.1.1.2.1
  obtain ⟨p, p0, p1, hp, hd⟩ := z0_throwOne hB hf hp
  obtain ⟨v, b', now', e1, e2, e3, e4⟩ := z5_throw hB hR hf p0 p1 hp hd
  rcases e4 with ⟨j, j0, j1, eb, ev⟩ | ⟨eb, ev⟩
  · have hj := hB.2.2.2.1.2.2.1 j j0 j1
    subst eb
    refine ⟨v, _, now', e1, e2, ⟨zB_tie hB p0 p1 hp j0 j1, e3, zT_le (c := c) hT (by omega)⟩, ⟨rfl, rfl, rfl, rfl, rfl⟩, zC_thrown p0 p1 hp hj.1, ?_⟩
    rcases hd with ⟨k, i, ho, _, _, _, _, i0, i1, hi, _, e⟩ | ⟨_, _, e⟩
    · have hi2 := hB.2.2.2.1.2.2.1 i i0 i1
      rw [hi] at hi2; omega
    · rw [e] at e1
      have := congrArg Prod.fst (Option.some.inj e1)
      have this : g0_flo b = v := this
      omega
  · subst eb
    refine ⟨v, _, now', e1, e2, ⟨(zB_new hB hf p0 p1 hp).1, e3, ?_⟩, ⟨rfl, rfl, rfl, rfl, rfl⟩, zC_thrown p0 p1 hp hf0, by omega⟩
    obtain ⟨h1, h2, h3, h4, h5⟩ := hT
    exact ⟨by show g0_flo b + 1 ≤ c + 1; omega, ⟨h2.1, by show g0_cst b ≤ c + 1; omega⟩, ⟨h3.1, by show g0_mrg b ≤ c + 1; omega⟩, ⟨h4.1, by show g0_stm b ≤ c + 1; omega⟩, ⟨h5.1, by show g0_brk b ≤ c + 1; omega⟩⟩

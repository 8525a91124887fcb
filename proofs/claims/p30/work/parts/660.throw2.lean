/-! One is thrown, on both sides. -/
theorem z_upup {f : Int → Int} {i u v : Int} : x_up (x_up f i u) i v = x_up f i v := by
  funext j
  unfold x_up
  by_cases e : j = i
  · rw [if_pos e, if_pos e]
  · rw [if_neg e, if_neg e, if_neg e]
theorem zB.eW {b : BoatS} (h : zB b) : g0_weis b = (zn b, zW b) := Prod.ext h.2.1.1 rfl
theorem zB.eH {b : BoatS} (h : zB b) : g0_homs b = (zn b, zH b) := Prod.ext h.2.1.2.1 rfl
theorem zB.eO {b : BoatS} (h : zB b) : g0_ords b = (zn b, zO b) := Prod.ext h.2.1.2.2.1 rfl
theorem zB.eS {b : BoatS} (h : zB b) : g0_strs b = (zR b, zS b) := Prod.ext h.2.1.2.2.2.1 rfl
theorem zB.eG {b : BoatS} (h : zB b) : g0_rwts b = (zR b, zG b) := Prod.ext h.2.1.2.2.2.2 rfl
theorem z0_tie' {b : BoatS} {p k n R n2 R2 : Int} {F H W G : Int → Int} (eF : g0_flts b = (R, F)) (eH : g0_homs b = (n, H)) (eW : g0_weis b = (n2, W)) (eG : g0_rwts b = (R2, G)) (hp0 : 0 ≤ p) (hp1 : p < n) (hp2 : p < n2) (hs1 : n ≤ 120) (hs2 : n2 ≤ 120) (k0 : 0 ≤ k) (k1 : k < R) (k2 : k < R2) (hs3 : R ≤ 120) (hs4 : R2 ≤ 120) : f0_tie b p k = some (s0_rwts (s0_homs b (n, x_up H p (F k))) (R2, x_up G k (G k + W p))) := by
  have e := z0_tie (b := b) (p := p) (k := k) hp0 (by rw [eH]; exact hp1) (by rw [eW]; exact hp2) (by rw [eH]; exact hs1) (by rw [eW]; exact hs2) k0 (by rw [eF]; exact k1) (by rw [eG]; exact k2) (by rw [eF]; exact hs3) (by rw [eG]; exact hs4)
  rw [eF, eH, eW, eG] at e
  exact e
def bTie (b : BoatS) (p j : Int) : BoatS := s0_rwts (s0_homs b (zn b, x_up (zH b) p (zF b j))) (zR b, x_up (zG b) j (zG b j + zW b p))
def bFlo (b : BoatS) : BoatS := s0_rwts (s0_strs (s0_flts (s0_flo b (g0_flo b + 1)) (zR b + 1, x_up (zF b) (zR b) (g0_flo b))) (zR b + 1, x_up (zS b) (zR b) 5)) (zR b + 1, x_up (zG b) (zR b) 0)
def bNew (b : BoatS) (p : Int) : BoatS := s0_rwts (s0_homs (s0_opn (bFlo b) (g0_flo b)) (zn b, x_up (zH b) p (g0_flo b))) (zR b + 1, x_up (zG b) (zR b) (zW b p))
theorem z0_newFloat' {b : BoatS} (hB : zB b) (hR : zR b < 120) : f0_newFloat b = some (g0_flo b, bFlo b) := by
  have r0 := hB.R0
  have e := z0_newFloat (b := b) r0 hR (by rw [hB.eS]; exact r0) (by rw [hB.eS]; exact hR) (by rw [hB.eG]; exact r0) (by rw [hB.eG]; exact hR)
  rw [hB.eS, hB.eG] at e
  exact e
theorem zP_H {K W H : Int → Int} {n p r : Int} (h : zP K W H n) (h0 : -2 ≤ r) (h1 : r ≤ 1000000000) : zP K W (x_up H p r) n := by
  refine ⟨h.1, h.2.1, fun q q0 q1 => ?_⟩
  have hq := h.2.2 q q0 q1
  refine ⟨hq.1, hq.2.1, hq.2.2.1, hq.2.2.2.1, ?_⟩
  by_cases e : q = p
  · rw [e, z_upS]; exact ⟨h0, h1⟩
  · rw [z_upN e]; exact hq.2.2.2.2
theorem zC_pos {H : Int → Int} {h n : Int} (hc : 0 < zC H h n) : ∃ q, 0 ≤ q ∧ q < n ∧ H q = h := by
  refine Classical.byContradiction fun hn => ?_
  have e : zC H h n = 0 := by
    unfold zC
    rw [xS_congr (g := fun _ => 0) n.toNat 0 (fun q a c => if_neg (fun z => hn ⟨q, a, by omega, z⟩)), xS_zero]
  omega
theorem zC_pos' {H : Int → Int} {h n q : Int} (q0 : 0 ≤ q) (q1 : q < n) (hq : H q = h) : 0 < zC H h n := by
  have e1 : xS (fun p => if p = q then 1 else 0) 0 n.toNat = 1 := by
    rw [xS_point (f := fun p => if p = q then 1 else 0) (k := q) n.toNat 0 q0 (by omega) (fun p _ _ z => if_neg z), if_pos rfl]
  have e2 : xS (fun p => if p = q then 1 else 0) 0 n.toNat ≤ zC H h n := xS_le _ _ (fun p _ _ => by
    by_cases z : p = q
    · rw [if_pos z, if_pos (by rw [z]; exact hq)]; omega
    · rw [if_neg z]; split <;> omega)
  omega
theorem zB_tie {b : BoatS} (hB : zB b) {p j : Int} (p0 : 0 ≤ p) (p1 : p < zn b) (hp : zH b p = -1) (j0 : 0 ≤ j) (j1 : j < zR b) : zB (bTie b p j) := by
  have hF := hB.2.2.2.1.2.2.1 j j0 j1
  have hf := hB.2.2.2.1.1.2.2
  have hr := hB.2.2.2.2.2
  have hc := zC_thrown p0 p1 hp hF.1
  exact ⟨zP_H hB.1 (by omega) (by omega), ⟨hB.2.1.1, rfl, hB.2.1.2.2.1, hB.2.1.2.2.2.1, rfl⟩, hB.2.2.1, zRun_tie hB.2.2.2.1 p0 p1 hp j0 j1, hB.2.2.2.2.1, hr.1, hr.2.1, by
    show zC (x_up (zH b) p (zF b j)) (-1) (zn b) ≤ g0_room b
    omega⟩
theorem zB_new {b : BoatS} (hB : zB b) (hf : g0_flo b < 1000000000) {p : Int} (p0 : 0 ≤ p) (p1 : p < zn b) (hp : zH b p = -1) : zB (bNew b p) ∧ zR b + 1 ≤ zn b := by
  have hf0 := hB.2.2.2.1.1.2.1
  have hr := hB.2.2.2.2.2
  have hc := zC_thrown p0 p1 hp hf0
  have hz := zRun_new hB.2.2.2.1 hf p0 p1 hp (fun q => hB.H_flo)
  exact ⟨⟨zP_H hB.1 (by omega) (by omega), ⟨hB.2.1.1, rfl, hB.2.1.2.2.1, rfl, rfl⟩, hB.2.2.1, hz, Or.inr ⟨zR b, hB.R0, by show zR b < zR b + 1; omega, z_upS⟩, hr.1, hr.2.1, by
    show zC (x_up (zH b) p (g0_flo b)) (-1) (zn b) ≤ g0_room b
    omega⟩, hz.le hB.1.1⟩
theorem z0_newTie {b : BoatS} (hB : zB b) (hR : zR b + 1 ≤ zn b) {p : Int} (p0 : 0 ≤ p) (p1 : p < zn b) : ∃ t, f2_indexOf 120 (g0_flts (bFlo b)) (g0_flo b) = some t ∧ f0_tie (s0_opn (bFlo b) (g0_flo b)) p t = some (bNew b p) := by
  have h120 := hB.1.2.1
  have hR0 := hB.R0
  have hf := hB.2.2.2.1.1
  refine ⟨zR b, ?_, ?_⟩
  · refine z2_idxAt (N := 120) (r := (zR b + 1, x_up (zF b) (zR b) (g0_flo b))) (by show (0 : Int) ≤ zR b + 1; omega) (by show zR b + 1 ≤ (120 : Int); omega) (by show zR b + 1 ≤ 1000; omega) ⟨by omega, by omega⟩ (fun j j0 j1 => ?_) (Or.inr ⟨hR0, by show zR b < zR b + 1; omega, z_upS, fun j j0 j1 => ?_⟩)
    · show xin (x_up (zF b) (zR b) (g0_flo b) j)
      have j1' : j < zR b + 1 := j1
      by_cases e : j = zR b
      · rw [e, z_upS]; exact ⟨by omega, by omega⟩
      · rw [z_upN e]; exact hB.xF j j0 (by show j < zR b; omega)
    · show ¬ x_up (zF b) (zR b) (g0_flo b) j = g0_flo b
      rw [z_upN (by omega)]
      have := (hB.2.2.2.1.2.2.1 j j0 j1).2.1
      omega
  · rw [z0_tie' (b := s0_opn (bFlo b) (g0_flo b)) (p := p) (k := zR b) (n := zn b) (R := zR b + 1) (n2 := zn b) (R2 := zR b + 1) (F := x_up (zF b) (zR b) (g0_flo b)) (H := zH b) (W := zW b) (G := x_up (zG b) (zR b) 0) rfl hB.eH hB.eW rfl p0 p1 p1 h120 h120 hR0 (by omega) (by omega) (by omega) (by omega), z_upS, z_upS, z_upup, Int.zero_add]
    rfl
abbrev zLst (b : BoatS) (k : Int) : Prop := zMin (fun q => zH b q = g0_opn b) (fun a c => zl (zK b) c a) (zn b) k
abbrev zAb (b : BoatS) (p : Int) : Prop := zMin (fun q => zH b q = -1) (zl (zK b)) (zn b) p
abbrev zAf (b : BoatS) (k p : Int) : Prop := zMin (fun q => zH b q = -1 ∧ zl (zK b) k q) (zl (zK b)) (zn b) p
theorem z0_throwOne {b : BoatS} (hB : zB b) (hf : g0_flo b < 1000000000) (hc : 0 < zC (zH b) (-1) (zn b)) : ∃ p, 0 ≤ p ∧ p < zn b ∧ zH b p = -1 ∧ ((∃ k j, ¬ g0_opn b = -1 ∧ zLst b k ∧ 0 ≤ k ∧ k < zn b ∧ zAf b k p ∧ 0 ≤ j ∧ j < zR b ∧ zF b j = g0_opn b ∧ f0_lastAt b (g0_opn b) = some k ∧ f0_throwOne b = some (g0_opn b, bTie b p j)) ∨ ((g0_opn b = -1 ∨ (¬ g0_opn b = -1 ∧ ∃ k, zLst b k ∧ 0 ≤ k ∧ k < zn b ∧ zAf b k (-1) ∧ f0_lastAt b (g0_opn b) = some k)) ∧ zAb b p ∧ f0_throwOne b = some (g0_flo b, bNew b p))) := by
  obtain ⟨k, a, c, hk, ha, hcm, e⟩ := z0_next hB
  obtain ⟨q, q0, q1, hq⟩ := zC_pos hc
  have h120 := hB.1.2.1
  have hcn := zMin_some hcm q0 q1 hq
  have hcr := zMin_rng hcm hcn
  have hn1 := (zB_new hB hf hcr.1 hcr.2.1 hcr.2.2).2
  unfold f0_throwOne
  rw [z_bind e]
  by_cases ho : g0_opn b = -1
  · have k1 : k = -1 := by
      rcases hk with ⟨h1, h2⟩ | ⟨k0, k1, k2, k3⟩
      · exact h1
      · exact absurd ho k2
    have h2 : zAb b a := zMin_congr ha (fun q _ _ => ⟨fun z => z.1, fun z => ⟨z, Or.inl k1⟩⟩)
    have eac := zMin_uniq (fun _ _ => zl_asym) h2 hcm
    subst eac
    rw [if_neg hcn, z_eqF ⟨by omega, by omega⟩ (by decide) hcn, z_eqT hB.opn_x ho, z_bind2 (z0_newFloat' hB (by omega))]
    obtain ⟨t, t1, t2⟩ := z0_newTie hB hn1 hcr.1 hcr.2.1
    dsimp only
    rw [z_bind t1, z_bind t2]
    exact ⟨a, hcr.1, hcr.2.1, hcr.2.2, Or.inr ⟨Or.inl ho, h2, rfl⟩⟩
  · rcases hk with ⟨h1, h2⟩ | ⟨k0, k1, k2, k3, k4⟩
    · exact absurd h2 ho
    have h2 : zAf b k a := zMin_congr ha (fun q _ _ => ⟨fun z => ⟨z.1, z.2.resolve_left (by omega)⟩, fun z => ⟨z.1, Or.inr z.2⟩⟩)
    by_cases hax : a = -1
    · rw [if_pos hax, z_eqF ⟨by omega, by omega⟩ (by decide) hcn, z_eqF hB.opn_x (by decide) ho, z_bind k3, z_bind (z0_isLess hB hcr.1 hcr.2.1 k0 k1)]
      subst hax
      have hno : ¬ zl (zK b) k c := fun z => by
        rcases h2 with ⟨_, g⟩ | ⟨g, _⟩
        · exact g c hcr.1 hcr.2.1 ⟨hcr.2.2, z⟩
        · omega
      have hkm := zMin_rng k4 (by omega)
      have hkc : k ≠ c := fun z => by rw [z] at hkm; have := hkm.2.2; omega
      rw [if_pos (zl_tri hno hkc), z_eqF (by decide) (by decide) (by decide), z_bind2 (z0_newFloat' hB (by omega))]
      obtain ⟨t, t1, t2⟩ := z0_newTie hB hn1 hcr.1 hcr.2.1
      dsimp only
      rw [z_bind t1, z_bind t2]
      exact ⟨c, hcr.1, hcr.2.1, hcr.2.2, Or.inr ⟨Or.inr ⟨ho, k, k4, k0, k1, h2, k3⟩, hcm, rfl⟩⟩
    · have har := zMin_rng h2 hax
      obtain ⟨j, j0, j1, hj⟩ := hB.2.2.2.2.1.resolve_left ho
      rw [if_neg hax, z_eqF ⟨by omega, by omega⟩ (by decide) hax, z_eqF hB.opn_x (by decide) ho, z_bind k3, z_bind (z0_isLess hB har.1 har.2.1 k0 k1), if_neg (zl_asym har.2.2.2), z_eqT (by decide) rfl]
      have hR := hB.R_le
      have ei : f2_indexOf 120 (g0_flts b) (g0_opn b) = some j := z2_idxAt hB.R0 (by show zR b ≤ (120 : Int); omega) (by show zR b ≤ 1000; omega) hB.opn_x hB.xF (by rw [← hj]; exact zIdx_at hB.2.2.2.1.2.1 j0 j1)
      have et : f0_tie b a j = some (bTie b a j) := z0_tie' (R := zR b) (F := zF b) rfl hB.eH hB.eW hB.eG har.1 har.2.1 har.2.1 h120 h120 j0 j1 j1 (by omega) (by omega)
      rw [z_bind ei, z_bind et]
      exact ⟨a, har.1, har.2.1, har.2.2.1, Or.inl ⟨k, j, ho, k4, k0, k1, h2, j0, j1, hj, k3, rfl⟩⟩

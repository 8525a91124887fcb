/-! What if: another room. The boat that is tried. -/
section ZMODB
variable {x : ModS} {K W H : Int → Int} {n : Int}
theorem z5_abL (hM : zM (g5_now x) K W H n) (hP : zP K W H n) (ha : ∀ q, 0 ≤ q → q < n → g5_abo x q = 0 ∨ g5_abo x q = 1) {k : Int} (hk : k = -1 ∨ (0 ≤ k ∧ k < n)) : ∀ (m fu : Nat) (b i : Int), 0 ≤ i → i + (m : Int) = n → m < fu → zMin (fun p => ¬ g5_abo x p = 0 ∧ (k = -1 ∨ zl K k p)) (zl K) i b → ∃ t, f5_leastAboard_L4 x k fu b i = some t ∧ zMin (fun p => ¬ g5_abo x p = 0 ∧ (k = -1 ∨ zl K k p)) (zl K) n t
  | 0, 0, _, _, _, _, q, _ => by omega
  | m + 1, 0, _, _, _, _, q, _ => by omega
  | 0, fu + 1, b, i, h0, h1, _, hz => by
    have hn := hP.2.1
    unfold f5_leastAboard_L4
    rw [z_bind (z5_n hM), z_ltF ⟨by omega, by omega⟩ ⟨by omega, by omega⟩ (by omega)]
    have e : i = n := by omega
    rw [e] at hz
    exact ⟨b, rfl, hz⟩
  | m + 1, fu + 1, b, i, h0, h1, q, hz => by
    have hn := hP.2.1
    have hbr := zMin_ge hz
    unfold f5_leastAboard_L4
    rw [z_bind (z5_n hM), z_ltT ⟨by omega, by omega⟩ ⟨by omega, by omega⟩ (by omega), z_bind (z_ldT h0 (by show i < (120 : Int); omega))]
    have hai := ha i h0 (by omega)
    by_cases e : ¬ g5_abo x i = 0
    · rw [z_eqF ⟨by omega, by omega⟩ (by decide) e]
      by_cases c : k = -1
      · rw [z_eqT ⟨by omega, by omega⟩ c]
        by_cases d : b = -1
        · rw [z_eqT ⟨by omega, by omega⟩ d]
          rw [d] at hz
          exact z5_abL hM hP ha hk m fu i (i + 1) (by omega) (by omega) (by omega) (zMin_new h0 hz ⟨e, Or.inl c⟩)
        · rw [z_eqF ⟨by omega, by omega⟩ (by decide) d, z_bind (z5_isLess hM hP h0 (by omega) (by omega) (by omega))]
          by_cases g : zl K i b
          · rw [if_pos g, z_eqF (by decide) (by decide) (by decide)]
            exact z5_abL hM hP ha hk m fu i (i + 1) (by omega) (by omega) (by omega) (zMin_take (fun _ _ _ => zl_trans) h0 hz d ⟨e, Or.inl c⟩ g)
          · rw [if_neg g, z_eqT (by decide) rfl]
            exact z5_abL hM hP ha hk m fu b (i + 1) (by omega) (by omega) (by omega) (zMin_keep hz d (zl_tri g (by omega)))
      · rw [z_eqF ⟨by omega, by omega⟩ (by decide) c, z_bind (z5_isLess hM hP (by omega) (by omega) h0 (by omega))]
        by_cases f : zl K k i
        · rw [if_pos f, z_eqF (by decide) (by decide) (by decide)]
          by_cases d : b = -1
          · rw [z_eqT ⟨by omega, by omega⟩ d]
            rw [d] at hz
            exact z5_abL hM hP ha hk m fu i (i + 1) (by omega) (by omega) (by omega) (zMin_new h0 hz ⟨e, Or.inr f⟩)
          · rw [z_eqF ⟨by omega, by omega⟩ (by decide) d, z_bind (z5_isLess hM hP h0 (by omega) (by omega) (by omega))]
            by_cases g : zl K i b
            · rw [if_pos g, z_eqF (by decide) (by decide) (by decide)]
              exact z5_abL hM hP ha hk m fu i (i + 1) (by omega) (by omega) (by omega) (zMin_take (fun _ _ _ => zl_trans) h0 hz d ⟨e, Or.inr f⟩ g)
            · rw [if_neg g, z_eqT (by decide) rfl]
              exact z5_abL hM hP ha hk m fu b (i + 1) (by omega) (by omega) (by omega) (zMin_keep hz d (zl_tri g (by omega)))
        · rw [if_neg f, z_eqT (by decide) rfl]
          exact z5_abL hM hP ha hk m fu b (i + 1) (by omega) (by omega) (by omega) (zMin_no hz (fun z => z.2.elim c f))
    · rw [z_eqT ⟨by omega, by omega⟩ (by omega)]
      exact z5_abL hM hP ha hk m fu b (i + 1) (by omega) (by omega) (by omega) (zMin_no hz (fun z => e z.1))
theorem z5_ab (hM : zM (g5_now x) K W H n) (hP : zP K W H n) (ha : ∀ q, 0 ≤ q → q < n → g5_abo x q = 0 ∨ g5_abo x q = 1) {k : Int} (hk : k = -1 ∨ (0 ≤ k ∧ k < n)) : ∃ t, f5_leastAboard x k = some t ∧ zMin (fun p => ¬ g5_abo x p = 0 ∧ (k = -1 ∨ zl K k p)) (zl K) n t := by
  have h0 := hP.1
  have h1 := hP.2.1
  exact z5_abL hM hP ha hk n.toNat xFU (-1) 0 (by omega) (by omega) (by unfold xFU; omega) zMin_0
end ZMODB
def zEg (K : Int → Int) (q : Int) : Int := xS (fun e => if K q < K e then 1 else 0) 0 q.toNat
theorem zMin_ext {P P' : Int → Prop} {K K' : Int → Int} {n n' r : Int} (h : zMin P (zl K) n r) (hn : n ≤ n') (h0 : ∀ q, n ≤ q → q < n' → ¬ P' q) (h1 : ∀ q, 0 ≤ q → q < n → (P q ↔ P' q)) (hK : ∀ q, 0 ≤ q → q < n → K q = K' q) : zMin P' (zl K') n' r := by
  rcases h with ⟨a, b⟩ | ⟨a, b, c, d⟩
  · refine Or.inl ⟨a, fun q q0 q1 hq => ?_⟩
    by_cases e : q < n
    · exact b q q0 e ((h1 q q0 e).mpr hq)
    · exact h0 q (by omega) q1 hq
  · refine Or.inr ⟨a, by omega, (h1 r a b).mp c, fun q q0 q1 hq => ?_⟩
    by_cases e : q < n
    · rcases d q q0 e ((h1 q q0 e).mpr hq) with z | z
      · exact Or.inl z
      · refine Or.inr ?_
        unfold zl at z ⊢
        rw [← hK r a b, ← hK q q0 e]; exact z
    · exact absurd hq (h0 q (by omega) q1)
/-- the boat that is tried, and the model's two words of it -/
def zTry (b t : BoatS) (x : ModS) (p runs cnt room : Int) : Prop := (zB t ∧ zn t = p ∧ p ≤ zn b ∧ (∀ q, 0 ≤ q → q < p → zK t q = zK b q) ∧ g0_room t = room ∧ g0_flo t = zR t ∧ zR t = runs ∧ zC (zH t) (-1) p = cnt) ∧ (∀ q, 0 ≤ q → q < p → g5_abo x q = if zH t q = -1 then 1 else 0) ∧ (∀ q, p ≤ q → q < 120 → g5_abo x q = 0) ∧ ((g0_opn t = -1 ∧ g5_lat x = -1) ∨ (¬ g0_opn t = -1 ∧ zLst t (g5_lat x)))
/-- how it stands with one run: fc at least are aboard where one has begun -/
def zGB (b t : BoatS) (lat p runs cnt room fc : Int) : Prop :=
  ((((runs = 0 ∧ lat = -1 ∧ ∀ q, 0 ≤ q → q < p → zH t q = -1) ∨ (runs = 1 ∧ 0 ≤ lat ∧ lat < p ∧ ¬ zH t lat = -1 ∧ (∀ q, 0 ≤ q → q < p → ¬ zH t q = -1 → q = lat ∨ zl (zK b) q lat) ∧ (∀ q, 0 ≤ q → q < p → zH t q = -1 → zl (zK b) lat q) ∧ fc ≤ cnt)) ∧ ∀ q, 0 ≤ q → q < p → zEg (zK b) q < room)
  ∨ ((2 ≤ runs ∨ (1 ≤ runs ∧ ¬ lat = -1 ∧ ∃ q, 0 ≤ q ∧ q < p ∧ zH t q = -1 ∧ zl (zK b) q lat)) ∧ ∃ q, 0 ≤ q ∧ q < p ∧ room ≤ zEg (zK b) q))
theorem z5_tries {b : BoatS} {x : ModS} (hB : zB b) (hR : zRel b (g5_now x)) (ha : ∀ q, 0 ≤ q → q < zn b → g5_abo x q = 0 ∨ g5_abo x q = 1) (hl : g5_lat x = -1 ∨ (0 ≤ g5_lat x ∧ g5_lat x < zn b)) {a c : Int} (h1 : ¬ g5_lat x = -1 → zMin (fun q => ¬ g5_abo x q = 0 ∧ zl (zK b) (g5_lat x) q) (zl (zK b)) (zn b) a) (h2 : zMin (fun q => ¬ g5_abo x q = 0) (zl (zK b)) (zn b) c) (hc : ¬ c = -1) : f5_tries x = some (if g5_lat x = -1 ∨ a = -1 then (1, s5_lat (s5_abo x (x_up (g5_abo x) c 0)) c) else (0, s5_lat (s5_abo x (x_up (g5_abo x) a 0)) a)) := by
  have h120 := hB.1.2.1
  have rc := zMin_rng h2 hc
  obtain ⟨t, e1, ht⟩ := z5_ab hR.1 hB.1 ha (k := -1) (Or.inl rfl)
  have et : t = c := zMin_uniq (fun _ _ => zl_asym) (zMin_congr ht (fun q _ _ => ⟨fun z => z.1, fun z => ⟨z, Or.inl rfl⟩⟩)) h2
  rw [et] at e1
  unfold f5_tries
  by_cases hx : g5_lat x = -1
  · rw [z_eqT (by rw [hx]; decide) hx, z_bind e1, z_bind (z_stZT rc.1 (by show c < (120 : Int); omega) (Or.inl rfl)), if_pos (Or.inl hx)]
  · have hlx := hl.resolve_left hx
    obtain ⟨o, e2, ho⟩ := z5_ab hR.1 hB.1 ha (k := g5_lat x) hl
    have eo : o = a := zMin_uniq (fun _ _ => zl_asym) (zMin_congr ho (fun q _ _ => ⟨fun z => ⟨z.1, z.2.resolve_left hx⟩, fun z => ⟨z.1, Or.inr z.2⟩⟩)) (h1 hx)
    rw [eo] at e2
    have ra := zMin_ge (h1 hx)
    rw [z_eqF ⟨by omega, by omega⟩ (by decide) hx, z_bind e2]
    by_cases ea : a = -1
    · rw [z_eqT ⟨by omega, by omega⟩ ea, z_eqT ⟨by omega, by omega⟩ ea, z_bind e1, z_bind (z_stZT rc.1 (by show c < (120 : Int); omega) (Or.inl rfl)), if_pos (Or.inr ea)]
    · rw [z_eqF ⟨by omega, by omega⟩ (by decide) ea, z_eqF ⟨by omega, by omega⟩ (by decide) ea, z_bind (z_stZT (by omega) (by show a < (120 : Int); omega) (Or.inl rfl)), if_neg (fun z => z.elim hx ea)]
theorem gs5_try {x : ModS} {a : Int → Int} {l : Int} : g5_abo (s5_lat (s5_abo x a) l) = a ∧ g5_lat (s5_lat (s5_abo x a) l) = l := ⟨rfl, rfl⟩
theorem zLst_tie {t : BoatS} (hB : zB t) {k p j : Int} (ho : ¬ g0_opn t = -1) (hk : zLst t k) (k0 : 0 ≤ k) (k1 : k < zn t) (p0 : 0 ≤ p) (p1 : p < zn t) (hp : zH t p = -1) (hl : zl (zK t) k p) (hj : zF t j = g0_opn t) : zLst (bTie t p j) p := by
  refine Or.inr ⟨p0, p1, ?_, fun q q0 q1 hq => ?_⟩
  · show x_up (zH t) p (zF t j) p = g0_opn t
    rw [z_upS, hj]
  · by_cases e : q = p
    · exact Or.inl e
    · have hq' : x_up (zH t) p (zF t j) q = g0_opn t := hq
      rw [z_upN e] at hq'
      refine Or.inr ?_
      show zl (zK t) q p
      rcases hk with ⟨g, _⟩ | ⟨_, _, _, g⟩
      · omega
      · rcases g q q0 q1 hq' with z | z
        · rw [z]; exact hl
        · exact zl_trans z hl
theorem zLst_new {t : BoatS} (hB : zB t) {p : Int} (p0 : 0 ≤ p) (p1 : p < zn t) : zLst (bNew t p) p := by
  refine Or.inr ⟨p0, p1, ?_, fun q q0 q1 hq => ?_⟩
  · show x_up (zH t) p (g0_flo t) p = g0_flo t
    rw [z_upS]
  · by_cases e : q = p
    · exact Or.inl e
    · have hq' : x_up (zH t) p (g0_flo t) q = g0_flo t := hq
      rw [z_upN e] at hq'
      have := hB.H_flo q0 q1
      omega
theorem zMin_ex (P : Int → Prop) (K : Int → Int) : ∀ (m : Nat), ∃ r, zMin P (zl K) (m : Int) r
  | 0 => ⟨-1, zMin_0⟩
  | m + 1 => by
    obtain ⟨r, hr⟩ := zMin_ex P K m
    have hg := zMin_ge hr
    rw [show ((m + 1 : Nat) : Int) = (m : Int) + 1 by omega]
    by_cases hp : P (m : Int)
    · by_cases e : r = -1
      · rw [e] at hr; exact ⟨_, zMin_new (by omega) hr hp⟩
      · by_cases g : zl K (m : Int) r
        · exact ⟨_, zMin_take (fun _ _ _ => zl_trans) (by omega) hr e hp g⟩
        · exact ⟨_, zMin_keep hr e (zl_tri g (by omega))⟩
    · exact ⟨_, zMin_no hr hp⟩
theorem zTry_throw {b t : BoatS} {x : ModS} {p runs cnt room fc : Int} (hB : zB b) (hR : zRel b (g5_now x)) (h : zTry b t x p runs cnt room) (hg : zGB b t (g5_lat x) p runs cnt room fc) (hfc : fc ≤ cnt) (hc : 0 < cnt) : ∃ v t' more abo lat, f0_throwOne t = some (v, t') ∧ f5_tries x = some (more, s5_lat (s5_abo x abo) lat) ∧ zTry b t' (s5_lat (s5_abo x abo) lat) p (runs + more) (cnt - 1) room ∧ zGB b t' lat p (runs + more) (cnt - 1) room (fc - 1) := by
  obtain ⟨⟨hT, en, pb, eK, er, ef, eR, ec⟩, ha1, ha0, hl⟩ := h
  have h120 := hB.1.2.1
  have hRl := hT.R_le
  have hR0 := hT.R0
  subst en
  have ab1 : ∀ q, 0 ≤ q → q < zn b → g5_abo x q = 0 ∨ g5_abo x q = 1 := fun q q0 q1 => by
    by_cases e : q < zn t
    · rw [ha1 q q0 e]; split <;> omega
    · exact Or.inl (ha0 q (by omega) (by omega))
  have abz : ∀ q, 0 ≤ q → q < zn t → (zH t q = -1 ↔ ¬ g5_abo x q = 0) := fun q q0 q1 => by
    rw [ha1 q q0 q1]
    by_cases e : zH t q = -1
    · rw [if_pos e]; exact ⟨fun _ => by decide, fun _ => e⟩
    · rw [if_neg e]; exact ⟨fun z => absurd z e, fun z => absurd rfl z⟩
  have ab0 : ∀ q, zn t ≤ q → q < zn b → g5_abo x q = 0 := fun q q0 q1 => ha0 q q0 (by omega)
  obtain ⟨p, p0, p1, hp, hd⟩ := z0_throwOne hT (by omega) (by rw [ec]; exact hc)
  have hlK : ∀ {q r}, 0 ≤ q → q < zn t → 0 ≤ r → r < zn t → zl (zK t) q r → zl (zK b) q r := fun {q r} q0 q1 r0 r1 z => by
    unfold zl at z ⊢; rw [← eK q q0 q1, ← eK r r0 r1]; exact z
  have hKl : ∀ {q r}, 0 ≤ q → q < zn t → 0 ≤ r → r < zn t → zl (zK b) q r → zl (zK t) q r := fun {q r} q0 q1 r0 r1 z => by
    unfold zl at z ⊢; rw [eK q q0 q1, eK r r0 r1]; exact z
  obtain ⟨c, hcm⟩ := zMin_ex (fun q => ¬ g5_abo x q = 0) (zK b) (zn b).toNat
  rw [show ((zn b).toNat : Int) = zn b by omega] at hcm
  have hcn : ¬ c = -1 := zMin_some hcm p0 (by omega) ((abz p p0 p1).mp hp)
  have hup : ∀ r, ¬ r = -1 → ∀ q, 0 ≤ q → q < zn t → x_up (g5_abo x) p 0 q = if x_up (zH t) p r q = -1 then 1 else 0 := fun r hr q q0 q1 => by
    by_cases e : q = p
    · rw [e, z_upS, z_upS, if_neg hr]
    · rw [z_upN e, z_upN e]; exact ha1 q q0 q1
  have hup0 : ∀ q, zn t ≤ q → q < 120 → x_up (g5_abo x) p 0 q = 0 := fun q q0 q1 => by
    rw [z_upN (by omega)]; exact ha0 q q0 q1
  rcases hd with ⟨k, j, ho, hk, k0, k1, haf, j0, j1, hj, hlast, e⟩ | ⟨hcond, hab, e⟩
  · have hF := hT.2.2.2.1.2.2.1 j j0 j1
    have hl2 := (hl.resolve_left (fun z => ho z.1)).2
    have elat : g5_lat x = k := zMin_uniq (fun _ _ => zl_asym) hl2 hk
    have hzp : zl (zK t) k p := (zMin_rng haf (by omega)).2.2.2
    have hm := zMin_ext (P' := fun q => ¬ g5_abo x q = 0 ∧ zl (zK b) (g5_lat x) q) haf pb (fun q q0 q1 w => w.1 (ab0 q q0 q1)) (fun q q0 q1 => by
      rw [elat]
      exact ⟨fun z => ⟨(abz q q0 q1).mp z.1, hlK k0 k1 q0 q1 z.2⟩, fun z => ⟨(abz q q0 q1).mpr z.1, hKl k0 k1 q0 q1 z.2⟩⟩) eK
    have et := z5_tries hB hR ab1 (Or.inr ⟨by omega, by omega⟩) (fun _ => hm) hcm hcn
    rw [if_neg (by omega)] at et
    refine ⟨_, bTie t p j, 0, x_up (g5_abo x) p 0, p, e, et, ⟨⟨zB_tie hT p0 p1 hp j0 j1, rfl, pb, eK, er, ef, ?_, ?_⟩, ?_, ?_, Or.inr ⟨ho, ?_⟩⟩, ?_⟩
    · rw [Int.add_zero]; exact eR
    · rw [← ec]; exact zC_thrown p0 p1 hp hF.1
    · exact fun q q0 q1 => hup (zF t j) (by omega) q q0 q1
    · exact hup0
    · exact zLst_tie hT ho hk k0 k1 p0 p1 hp hzp hj
    · rw [Int.add_zero]
      have zbp := hlK k0 k1 p0 p1 hzp
      rcases hg with ⟨hg, heg⟩ | ⟨hg, heg⟩
      · refine Or.inl ⟨?_, heg⟩
        rcases hg with ⟨_, g, _⟩ | ⟨g1, g2, g3, g4, g5, g6, g7⟩
        · omega
        · refine Or.inr ⟨g1, p0, p1, ?_, fun q q0 q1 hq => ?_, fun q q0 q1 hq => ?_, by omega⟩
          · show ¬ x_up (zH t) p (zF t j) p = -1
            rw [z_upS]; omega
          · by_cases e : q = p
            · exact Or.inl e
            · have hq' : ¬ x_up (zH t) p (zF t j) q = -1 := hq
              rw [z_upN e] at hq'
              rw [elat] at g5
              rcases g5 q q0 q1 hq' with z | z
              · right; rw [z]; exact zbp
              · exact Or.inr (zl_trans z zbp)
          · have hq' : x_up (zH t) p (zF t j) q = -1 := hq
            by_cases e : q = p
            · rw [e, z_upS] at hq'; omega
            · rw [z_upN e] at hq'
              have z := g6 q q0 q1 hq'
              rw [elat] at z
              rcases haf with ⟨w, _⟩ | ⟨_, _, _, w⟩
              · omega
              · rcases w q q0 q1 ⟨hq', hKl k0 k1 q0 q1 z⟩ with y | y
                · exact absurd y e
                · exact hlK p0 p1 q0 q1 y
      · refine Or.inr ⟨?_, heg⟩
        rcases hg with hg | ⟨g1, g2, q, q0, q1, q2, q3⟩
        · exact Or.inl hg
        · rw [elat] at q3
          have ne : ¬ q = p := fun z => by rw [z] at q3; exact zl_asym q3 zbp
          refine Or.inr ⟨g1, by omega, q, q0, q1, ?_, zl_trans q3 zbp⟩
          show x_up (zH t) p (zF t j) q = -1
          rw [z_upN ne]; exact q2
  · have hf0 := hT.2.2.2.1.1.2.1
    have hn := zB_new hT (by omega) p0 p1 hp
    have hmin := zMin_ext (P' := fun q => ¬ g5_abo x q = 0) hab pb (fun q q0 q1 w => w (ab0 q q0 q1)) (fun q q0 q1 => abz q q0 q1) eK
    have epc : c = p := zMin_uniq (fun _ _ => zl_asym) hcm hmin
    have hlr : g5_lat x = -1 ∨ (0 ≤ g5_lat x ∧ g5_lat x < zn b) := by
      rcases hl with ⟨_, z⟩ | ⟨z, w⟩
      · exact Or.inl z
      · have := zMin_ge w; omega
    have hno : g5_lat x = -1 ∨ (¬ g5_lat x = -1 ∧ ∀ q, 0 ≤ q → q < zn t → zH t q = -1 → ¬ zl (zK b) (g5_lat x) q) := by
      rcases hcond with z | ⟨z, k, hk, k0, k1, haf, _⟩
      · rcases hl with ⟨_, w⟩ | ⟨w, _⟩
        · exact Or.inl w
        · exact absurd z w
      · have hl2 := (hl.resolve_left (fun y => z y.1)).2
        have elat : g5_lat x = k := zMin_uniq (fun _ _ => zl_asym) hl2 hk
        refine Or.inr ⟨by omega, fun q q0 q1 hq w => ?_⟩
        rcases haf with ⟨_, y⟩ | ⟨y, _⟩
        · rw [elat] at w; exact y q q0 q1 ⟨hq, hKl k0 k1 q0 q1 w⟩
        · omega
    have et : f5_tries x = some (1, s5_lat (s5_abo x (x_up (g5_abo x) p 0)) p) := by
      have ex : ∃ a, (¬ g5_lat x = -1 → zMin (fun q => ¬ g5_abo x q = 0 ∧ zl (zK b) (g5_lat x) q) (zl (zK b)) (zn b) a) ∧ (g5_lat x = -1 ∨ a = -1) := by
        refine ⟨-1, fun hx => Or.inl ⟨rfl, fun q q0 q1 w => ?_⟩, Or.inr rfl⟩
        by_cases e : q < zn t
        · exact (hno.resolve_left hx).2 q q0 e ((abz q q0 e).mpr w.1) w.2
        · exact w.1 (ab0 q (by omega) q1)
      obtain ⟨a, a1, a2⟩ := ex
      have := z5_tries hB hR ab1 hlr a1 hcm hcn
      rw [if_pos a2, epc] at this
      exact this
    refine ⟨_, bNew t p, 1, x_up (g5_abo x) p 0, p, e, et, ⟨⟨hn.1, rfl, pb, eK, er, ?_, ?_, ?_⟩, ?_, ?_, Or.inr ⟨?_, zLst_new hT p0 p1⟩⟩, ?_⟩
    · show g0_flo t + 1 = zR t + 1; omega
    · show zR t + 1 = runs + 1; omega
    · rw [← ec]; exact zC_thrown p0 p1 hp hf0
    · exact fun q q0 q1 => hup (g0_flo t) (by omega) q q0 q1
    · exact hup0
    · show ¬ g0_flo t = -1; omega
    · rcases hg with ⟨hg, heg⟩ | ⟨hg, heg⟩
      · refine Or.inl ⟨?_, heg⟩
        rcases hg with ⟨g1, g2, g3⟩ | ⟨g1, g2, g3, g4, g5, g6, g7⟩
        · refine Or.inr ⟨by omega, p0, p1, ?_, fun q q0 q1 hq => ?_, fun q q0 q1 hq => ?_, by omega⟩
          · show ¬ x_up (zH t) p (g0_flo t) p = -1
            rw [z_upS]; omega
          · have hq' : ¬ x_up (zH t) p (g0_flo t) q = -1 := hq
            by_cases e : q = p
            · exact Or.inl e
            · rw [z_upN e] at hq'; exact absurd (g3 q q0 q1) hq'
          · have hq' : x_up (zH t) p (g0_flo t) q = -1 := hq
            by_cases e : q = p
            · rw [e, z_upS] at hq'; omega
            · rcases hab with ⟨w, _⟩ | ⟨_, _, _, w⟩
              · omega
              · rcases w q q0 q1 (g3 q q0 q1) with y | y
                · exact absurd y e
                · exact hlK p0 p1 q0 q1 y
        · rcases hno with z | ⟨_, z⟩
          · omega
          · exact absurd (g6 p p0 p1 hp) (z p p0 p1 hp)
      · refine Or.inr ⟨?_, heg⟩
        rcases hg with hg | ⟨g1, _⟩
        · exact Or.inl (by omega)
        · exact Or.inl (by omega)
theorem zEg_le {K : Int → Int} {q : Int} (q0 : 0 ≤ q) : 0 ≤ zEg K q ∧ zEg K q ≤ q := xS_ind (P := fun e => K q < K e) q0
theorem zTry_load {b t : BoatS} {x : ModS} {p runs cnt room : Int} (hB : zB b) (h : zTry b t x p runs cnt room) (hg : zGB b t (g5_lat x) p runs cnt room (room - 1)) (hc : cnt < room) (hp : p < zn b) : zTry b (bTake t (zK b p) (zW b p)) (s5_abo x (x_up (g5_abo x) p 1)) (p + 1) runs (cnt + 1) room ∧ zGB b (bTake t (zK b p) (zW b p)) (g5_lat x) (p + 1) runs (cnt + 1) room room := by
  obtain ⟨⟨hT, en, pb, eK, er, ef, eR, ec⟩, ha1, ha0, hl⟩ := h
  have h120 := hB.1.2.1
  have hn0 := hT.1.1
  subst en
  have hw := hB.1.2.2 (zn t) hn0 hp
  have hup : ∀ q, q < zn t → x_up (zH t) (zn t) (-1) q = zH t q := fun q q1 => z_upN (by omega)
  have eks : ∀ q, q < zn t → x_up (zK t) (zn t) (zK b (zn t)) q = zK t q := fun q q1 => z_upN (by omega)
  refine ⟨⟨⟨zB_take hT (by omega) (by rw [ec, er]; exact hc) hw.1 hw.2.1 hw.2.2.1 hw.2.2.2.1, rfl, by omega, fun q q0 q1 => ?_, er, ef, eR, ?_⟩, fun q q0 q1 => ?_, fun q q0 q1 => ?_, ?_⟩, ?_⟩
  · show x_up (zK t) (zn t) (zK b (zn t)) q = zK b q
    by_cases e : q = zn t
    · rw [e, z_upS]
    · rw [z_upN e]; exact eK q q0 (by omega)
  · show zC (x_up (zH t) (zn t) (-1)) (-1) (zn t + 1) = cnt + 1
    rw [zC_ext hn0, if_pos rfl, ec]
  · show x_up (g5_abo x) (zn t) 1 q = if x_up (zH t) (zn t) (-1) q = -1 then 1 else 0
    by_cases e : q = zn t
    · rw [e, z_upS, z_upS, if_pos rfl]
    · rw [z_upN e, z_upN e]; exact ha1 q q0 (by omega)
  · show x_up (g5_abo x) (zn t) 1 q = 0
    rw [z_upN (by omega)]; exact ha0 q (by omega) q1
  · rcases hl with ⟨l1, l2⟩ | ⟨l1, l2⟩
    · exact Or.inl ⟨l1, l2⟩
    · refine Or.inr ⟨l1, ?_⟩
      rcases l2 with ⟨a, c⟩ | ⟨a, c, d, e⟩
      · refine Or.inl ⟨a, fun q q0 q1 hq => ?_⟩
        have q1' : q < zn t + 1 := q1
        have hq' : x_up (zH t) (zn t) (-1) q = g0_opn t := hq
        by_cases e : q = zn t
        · rw [e, z_upS] at hq'; exact l1 hq'.symm
        · rw [z_upN e] at hq'; exact c q q0 (by omega) hq'
      · refine Or.inr ⟨a, by show g5_lat x < zn t + 1; omega, ?_, fun q q0 q1 hq => ?_⟩
        · show x_up (zH t) (zn t) (-1) (g5_lat x) = g0_opn t
          rw [hup _ c]; exact d
        · have q1' : q < zn t + 1 := q1
          have hq' : x_up (zH t) (zn t) (-1) q = g0_opn t := hq
          by_cases g : q = zn t
          · rw [g, z_upS] at hq'; exact absurd hq'.symm l1
          · rw [z_upN g] at hq'
            rcases e q q0 (by omega) hq' with z | z
            · exact Or.inl z
            · refine Or.inr ?_
              show zl (x_up (zK t) (zn t) (zK b (zn t))) q (g5_lat x)
              have z' : zl (zK t) q (g5_lat x) := z
              unfold zl at z' ⊢
              rw [eks q (by omega), eks _ c]; exact z'
  · rcases hg with ⟨hg, heg⟩ | ⟨hg, q, q0, q1, q2⟩
    · rcases hg with ⟨g1, g2, g3⟩ | ⟨g1, g2, g3, g4, g5, g6, g7⟩
      · refine Or.inl ⟨Or.inl ⟨g1, g2, fun q q0 q1 => ?_⟩, fun q q0 q1 => ?_⟩
        · show x_up (zH t) (zn t) (-1) q = -1
          by_cases e : q = zn t
          · rw [e, z_upS]
          · rw [z_upN e]; exact g3 q q0 (by omega)
        · by_cases e : q = zn t
          · have h1 := zEg_le (K := zK b) hn0
            have h2 : zC (zH t) (-1) (zn t) = zn t := by
              unfold zC
              rw [xS_congr (g := fun _ => 1) _ _ (fun q q0 q1 => if_pos (g3 q q0 (by omega))), xS_one]; omega
            rw [e]; omega
          · exact heg q q0 (by omega)
      · by_cases hz : zl (zK b) (g5_lat x) (zn t)
        · refine Or.inl ⟨Or.inr ⟨g1, g2, by omega, ?_, fun q q0 q1 hq => ?_, fun q q0 q1 hq => ?_, by omega⟩, fun q q0 q1 => ?_⟩
          · show ¬ x_up (zH t) (zn t) (-1) (g5_lat x) = -1
            rw [hup _ g3]; exact g4
          · have hq' : ¬ x_up (zH t) (zn t) (-1) q = -1 := hq
            by_cases e : q = zn t
            · rw [e, z_upS] at hq'; exact absurd rfl hq'
            · rw [z_upN e] at hq'; exact g5 q q0 (by omega) hq'
          · have hq' : x_up (zH t) (zn t) (-1) q = -1 := hq
            by_cases e : q = zn t
            · rw [e]; exact hz
            · rw [z_upN e] at hq'; exact g6 q q0 (by omega) hq'
          · by_cases e : q = zn t
            · have hle : zEg (zK b) (zn t) ≤ zC (zH t) (-1) (zn t) := xS_le _ _ (fun e e0 e1 => by
                by_cases w : zK b (zn t) < zK b e
                · rw [if_pos w]
                  by_cases y : zH t e = -1
                  · rw [if_pos y]; omega
                  · have := g5 e e0 (by omega) y
                    unfold zl at this hz
                    rcases this with z | z
                    · rw [← z] at hz; omega
                    · omega
                · rw [if_neg w]; split <;> omega)
              rw [e]; omega
            · exact heg q q0 (by omega)
        · have hz' : zl (zK b) (zn t) (g5_lat x) := zl_tri hz (by omega)
          refine Or.inr ⟨Or.inr ⟨by omega, by omega, zn t, hn0, by omega, z_upS, hz'⟩, zn t, hn0, by omega, ?_⟩
          have e1 : xS (fun e => if e = g5_lat x then 1 else 0) 0 (zn t).toNat = 1 := by
            rw [xS_point (f := fun e => if e = g5_lat x then 1 else 0) (k := g5_lat x) (zn t).toNat 0 g2 (by omega) (fun e _ _ z => if_neg z), if_pos rfl]
          have e2 := xS_add (fun e => if zH t e = -1 then 1 else 0) (fun e => if e = g5_lat x then 1 else 0) (zn t).toNat 0
          have e3 : xS (fun e => (if zH t e = -1 then 1 else 0) + (if e = g5_lat x then 1 else 0)) 0 (zn t).toNat ≤ zEg (zK b) (zn t) := xS_le _ _ (fun e e0 e1 => by
            by_cases y : zH t e = -1
            · have z := g6 e e0 (by omega) y
              have ne : ¬ e = g5_lat x := fun w => by rw [w] at y; exact g4 y
              rw [if_pos y, if_neg ne, if_pos (by unfold zl at z hz'; omega)]; omega
            · rw [if_neg y]
              by_cases w : e = g5_lat x
              · rw [if_pos w, if_pos (by rw [w]; unfold zl at hz'; omega)]; omega
              · rw [if_neg w]; split <;> omega)
          unfold zC at ec
          omega
    · refine Or.inr ⟨?_, q, q0, by omega, q2⟩
      rcases hg with hg | ⟨g1, g2, r, r0, r1, r2, r3⟩
      · exact Or.inl hg
      · exact Or.inr ⟨g1, g2, r, r0, by omega, by show x_up (zH t) (zn t) (-1) r = -1; rw [hup r r1]; exact r2, r3⟩

/-! What if: another room; the least room; pairs in the wrong order. -/
theorem ssT {x : ModS} {a a' : Int → Int} {l l' : Int} : s5_lat (s5_abo (s5_lat (s5_abo x a) l) a') l' = s5_lat (s5_abo x a') l' := rfl
theorem ssTA {x : ModS} {a a' : Int → Int} {l : Int} : s5_abo (s5_lat (s5_abo x a) l) a' = s5_lat (s5_abo x a') l := rfl
theorem ssTB {x : ModS} {a a' : Int → Int} {l : Int} : s5_lat (s5_abo (s5_abo x a) a') l = s5_lat (s5_abo x a') l := rfl
theorem zGB_le {b t : BoatS} {lat p runs cnt room fc fc' : Int} (h : zGB b t lat p runs cnt room fc) (hf : fc' ≤ fc) : zGB b t lat p runs cnt room fc' := by
  rcases h with ⟨h1 | ⟨g1, g2, g3, g4, g5, g6, g7⟩, h2⟩ | h
  · exact Or.inl ⟨Or.inl h1, h2⟩
  · exact Or.inl ⟨Or.inr ⟨g1, g2, g3, g4, g5, g6, by omega⟩, h2⟩
  · exact Or.inr h
theorem zTry_all {b : BoatS} {l3 room : Int} (hB : zB b) (h3 : l3 ≤ 120) : ∀ (m fu fu2 : Nat) (runs l4 : Int) (t : BoatS) (x : ModS), zRel b (g5_now x) → zTry b t x (zn b) runs (m : Int) room → zGB b t (g5_lat x) (zn b) runs (m : Int) room (m : Int) → 0 ≤ l4 → l4 + (m : Int) = l3 → m < fu → m < fu2 → ∃ v t' a l, f0_throwAll_L6 fu (m : Int) t = some (v, t') ∧ f5_runsBy_L79 l3 fu2 runs l4 x = some (v, s5_lat (s5_abo x a) l) ∧ 0 ≤ v ∧ v ≤ 120 ∧ (v ≤ 1 ↔ ∀ q, 0 ≤ q → q < zn b → zEg (zK b) q < room)
  | 0, 0, _, _, _, _, _, _, _, _, _, _, h, _ => by omega
  | m + 1, 0, _, _, _, _, _, _, _, _, _, _, h, _ => by omega
  | 0, _ + 1, 0, _, _, _, _, _, _, _, _, _, _, h => by omega
  | m + 1, _ + 1, 0, _, _, _, _, _, _, _, _, _, _, h => by omega
  | 0, fu + 1, fu2 + 1, runs, l4, t, x, hR, h, hg, h4, h5, _, _ => by
    obtain ⟨⟨hT, en, pb, eK, er, ef, eR, ec⟩, ha1, ha0, hl⟩ := h
    have h120 := hB.1.2.1
    have r0 := hT.R0
    have rn := hT.R_le
    refine ⟨runs, s0_opn t (-1), g5_abo x, g5_lat x, ?_, ?_, by omega, by omega, ?_⟩
    · unfold f0_throwAll_L6
      rw [z_ltF (by decide) ⟨by omega, by omega⟩ (by omega), z_bind (show f2_size 120 (g0_flts t) = some (zR t) from rfl), eR]
    · unfold f5_runsBy_L79
      rw [z_ltF ⟨by omega, by omega⟩ ⟨by omega, by omega⟩ (by omega)]
      rfl
    · rcases hg with ⟨g, e⟩ | ⟨g, q, q0, q1, q2⟩
      · exact ⟨fun _ => e, fun _ => by rcases g with ⟨g, _⟩ | ⟨g, _⟩ <;> omega⟩
      · have h2 : 2 ≤ runs := by
          rcases g with g | ⟨_, _, r, r0, r1, r2, _⟩
          · exact g
          · have := zC_pos' r0 r1 r2
            omega
        exact ⟨fun z => by omega, fun z => by have := z q q0 q1; omega⟩
  | m + 1, fu + 1, fu2 + 1, runs, l4, t, x, hR, h, hg, h4, h5, h6, h7 => by
    have hc := h.1.2.2.2.2.2.2.2
    have hcl := zC_le (zH t) (-1) hB.1.1
    have h120 := hB.1.2.1
    obtain ⟨v1, t1, more, a1, l1, e1, e2, e3, e4⟩ := zTry_throw hB hR h hg (Int.le_refl _) (by omega)
    rw [show ((m + 1 : Nat) : Int) - 1 = (m : Int) by omega] at e3 e4
    obtain ⟨v, t', a, l, q1, q2, q3⟩ := zTry_all hB h3 m fu fu2 (runs + more) (l4 + 1) t1 (s5_lat (s5_abo x a1) l1) hR e3 e4 (by omega) (by omega) (by omega) (by omega)
    refine ⟨v, t', a, l, ?_, ?_, q3⟩
    · unfold f0_throwAll_L6
      rw [z_ltT (by decide) ⟨by omega, by omega⟩ (by omega), z_bind2 e1]
      dsimp only
      rw [show ((m + 1 : Nat) : Int) + (-1) = (m : Int) by omega]
      exact q1
    · unfold f5_runsBy_L79
      rw [z_ltT ⟨by omega, by omega⟩ ⟨by omega, by omega⟩ (by omega), z_bind2 e2]
      dsimp only
      rw [q2, ssT]
theorem z0_loaded {b : BoatS} : f0_loaded b = some (zn b) := rfl
theorem z0_keyOf {b : BoatS} (hB : zB b) {p : Int} (p0 : 0 ≤ p) (p1 : p < zn b) : f0_keyOf b p = some (zK b p) := by
  unfold f0_keyOf
  rw [z_bind (hB.getK p0 p1)]
theorem z0_weightOf {b : BoatS} (hB : zB b) {p : Int} (p0 : 0 ≤ p) (p1 : p < zn b) : f0_weightOf b p = some (zW b p) := by
  unfold f0_weightOf
  rw [z_bind (hB.getW p0 p1)]
theorem s4_trtr {y : BrS} {a c : BoatS} : s4_tr (s4_tr y a) c = s4_tr y c := rfl
theorem zTry_loop {b : BoatS} {y : BrS} {room : Int} (hy : g4_bo y = b) (hB : zB b) (rm0 : 1 ≤ room) (rm1 : room ≤ 120) : ∀ (m fu fu2 : Nat) (p runs cnt : Int) (t : BoatS) (x : ModS), zRel b (g5_now x) → zTry b t x p runs cnt room → zGB b t (g5_lat x) p runs cnt room room → cnt ≤ room → 0 ≤ cnt → 0 ≤ p → p + (m : Int) = zn b → m < fu → m < fu2 → ∃ v t' a l, f4_runsWith_L31 fu p (s4_tr y t) = some (0, v, s4_tr y t') ∧ f5_runsBy_L33 room fu2 runs cnt p x = some (v, s5_lat (s5_abo x a) l) ∧ 0 ≤ v ∧ v ≤ 120 ∧ (v ≤ 1 ↔ ∀ q, 0 ≤ q → q < zn b → zEg (zK b) q < room)
  | 0, 0, _, _, _, _, _, _, _, _, _, _, _, _, _, h, _ => by omega
  | m + 1, 0, _, _, _, _, _, _, _, _, _, _, _, _, _, h, _ => by omega
  | 0, _ + 1, 0, _, _, _, _, _, _, _, _, _, _, _, _, _, h => by omega
  | m + 1, _ + 1, 0, _, _, _, _, _, _, _, _, _, _, _, _, _, h => by omega
  | 0, fu + 1, fu2 + 1, p, runs, cnt, t, x, hR, h, hg, c1, c0, p0, pm, _, _ => by
    have h120 := hB.1.2.1
    have ep : p = zn b := by omega
    subst ep
    have hT := h.1.1
    have en := h.1.2.1
    have ec := h.1.2.2.2.2.2.2.2
    have hx : ((cnt.toNat : Nat) : Int) = cnt := by omega
    obtain ⟨v, t', a, l, q1, q2, q3⟩ := zTry_all (l3 := cnt) hB (by omega) cnt.toNat xFU xFU runs 0 t x hR (by rw [hx]; exact h) (by rw [hx]; exact zGB_le hg c1) (by omega) (by omega) (by unfold xFU; omega) (by unfold xFU; omega)
    have et : f0_throwAll t = some (v, t') := by
      unfold f0_throwAll
      rw [z_bind (z0_countAt hT (by decide)), en, ec, ← hx]; exact q1
    refine ⟨v, t', a, l, ?_, ?_, q3⟩
    · unfold f4_runsWith_L31
      refine (z_bind (show f0_loaded (g4_bo (s4_tr y t)) = some (zn b) from by rw [← hy]; rfl)).trans ?_
      rw [z_ltF ⟨by omega, by omega⟩ ⟨by omega, by omega⟩ (by omega)]
      refine (z_bind2 (show f0_throwAll (g4_tr (s4_tr y t)) = some (v, t') from et)).trans ?_
      rfl
    · unfold f5_runsBy_L33
      rw [z_bind (z5_n hR.1), z_ltF ⟨by omega, by omega⟩ ⟨by omega, by omega⟩ (by omega)]
      exact q2
  | m + 1, fu + 1, fu2 + 1, p, runs, cnt, t, x, hR, h, hg, c1, c0, p0, pm, f1, f2 => by
    have h120 := hB.1.2.1
    have hw := hB.1.2.2 p p0 (by omega)
    have hT := h.1.1
    have en := h.1.2.1
    have er := h.1.2.2.2.2.1
    have ec := h.1.2.2.2.2.2.2.2
    have ek : f0_keyOf b p = some (zK b p) := z0_keyOf hB p0 (by omega)
    have ew : f0_weightOf b p = some (zW b p) := z0_weightOf hB p0 (by omega)
    have hcls : ∀ {v t2 v' t'}, f0_take t (zK b p) (zW b p) = some (v, t2) → f4_runsWith_L31 fu (p + 1) (s4_tr y t2) = some (0, v', s4_tr y t') → f4_runsWith_L31 (fu + 1) p (s4_tr y t) = some (0, v', s4_tr y t') := fun {v t2 v' t'} e1 e2 => by
      conv => lhs; unfold f4_runsWith_L31
      refine (z_bind (show f0_loaded (g4_bo (s4_tr y t)) = some (zn b) from by rw [← hy]; rfl)).trans ?_
      rw [z_ltT ⟨by omega, by omega⟩ ⟨by omega, by omega⟩ (by omega)]
      refine (z_bind (show f0_keyOf (g4_bo (s4_tr y t)) p = some (zK b p) from by rw [← ek, ← hy]; rfl)).trans ?_
      refine (z_bind (show f0_weightOf (g4_bo (s4_tr y t)) p = some (zW b p) from by rw [← ew, ← hy]; rfl)).trans ?_
      refine (z_bind2 (show f0_take (g4_tr (s4_tr y t)) (zK b p) (zW b p) = some (v, t2) from e1)).trans ?_
      dsimp only
      rw [s4_trtr]; exact e2
    by_cases hq : cnt < room
    · have hg' := zGB_le hg (show room - 1 ≤ room by omega)
      obtain ⟨l1, l2⟩ := zTry_load hB h hg' hq (by omega)
      have et : f0_take t (zK b p) (zW b p) = some (-1, bTake t (zK b p) (zW b p)) := by
        unfold f0_take
        rw [z_bind (z0_countAt hT (by decide)), en, ec, er, z_ltT ⟨by omega, by omega⟩ ⟨by omega, by omega⟩ hq]
        exact z0_takeIn hT (-1) (by rw [en]; omega) hw.1 hw.2.1
      obtain ⟨v, t', a, l, q1, q2, q3⟩ := zTry_loop hy hB rm0 rm1 m fu fu2 (p + 1) runs (cnt + 1) (bTake t (zK b p) (zW b p)) (s5_abo x (x_up (g5_abo x) p 1)) hR l1 l2 (by omega) (by omega) (by omega) (by omega) (by omega) (by omega)
      refine ⟨v, t', a, l, hcls et q1, ?_, q3⟩
      unfold f5_runsBy_L33
      rw [z_bind (z5_n hR.1), z_ltT ⟨by omega, by omega⟩ ⟨by omega, by omega⟩ (by omega), z_eqF ⟨by omega, by omega⟩ ⟨by omega, by omega⟩ (by omega), z_bind (z_stZT p0 (by show p < (120 : Int); omega) (Or.inr rfl)), q2, ssTB]
    · obtain ⟨v1, t1, more, a1, la, e1, e2, e3, e4⟩ := zTry_throw hB hR h hg (by omega) (by omega)
      have hT1 := e3.1.1
      have en1 := e3.1.2.1
      obtain ⟨l1, l2⟩ := zTry_load (x := s5_lat (s5_abo x a1) la) hB e3 e4 (by omega) (by omega)
      have et : f0_take t (zK b p) (zW b p) = some (v1, bTake t1 (zK b p) (zW b p)) := by
        unfold f0_take
        rw [z_bind (z0_countAt hT (by decide)), en, ec, er, z_ltF ⟨by omega, by omega⟩ ⟨by omega, by omega⟩ hq, z_bind2 e1]
        exact z0_takeIn hT1 v1 (by rw [en1]; omega) hw.1 hw.2.1
      rw [show cnt - 1 + 1 = cnt by omega] at l1 l2
      obtain ⟨v, t', a, l, q1, q2, q3⟩ := zTry_loop hy hB rm0 rm1 m fu fu2 (p + 1) (runs + more) cnt (bTake t1 (zK b p) (zW b p)) (s5_lat (s5_abo x (x_up a1 p 1)) la) hR l1 l2 (by omega) (by omega) (by omega) (by omega) (by omega) (by omega)
      refine ⟨v, t', a, l, hcls et q1, ?_, q3⟩
      unfold f5_runsBy_L33
      rw [z_bind (z5_n hR.1), z_ltT ⟨by omega, by omega⟩ ⟨by omega, by omega⟩ (by omega), z_eqT ⟨by omega, by omega⟩ (by omega), z_bind2 e2]
      dsimp only
      rw [gs5_try.1, z_bind (z_stZT p0 (by show p < (120 : Int); omega) (Or.inr rfl)), ssTA, show cnt + (-1) + 1 = cnt by omega, q2, ssT]
def bStart (b : BoatS) (room : Int) : BoatS := mkB room (-1) 0 0 0 0 0 (0, zK b) (0, zW b) (0, zH b) (0, zO b) (0, zF b) (0, zS b) (0, zG b)
theorem z0_start {b : BoatS} {room : Int} : f0_startAgain b room = some (bStart b room) := by
  unfold f0_startAgain bStart
  rw [z_bind (show f2_clear 120 (g0_keys b) = some (0, zK b) from rfl), z_bind (show f2_clear 120 (g0_weis b) = some (0, zW b) from rfl), z_bind (show f2_clear 120 (g0_homs b) = some (0, zH b) from rfl), z_bind (show f2_clear 120 (g0_ords b) = some (0, zO b) from rfl), z_bind (show f2_clear 120 (g0_flts b) = some (0, zF b) from rfl), z_bind (show f2_clear 120 (g0_strs b) = some (0, zS b) from rfl), z_bind (show f2_clear 120 (g0_rwts b) = some (0, zG b) from rfl)]
  simp only [se0I, se0R, gm0]
theorem zB_start {b : BoatS} {room : Int} (h0 : 1 ≤ room) (h1 : room ≤ 120) : zB (bStart b room) := by
  refine zB_mk ⟨by decide, by decide, fun p p0 p1 => by omega⟩ ⟨fun i j a c d => by omega, ⟨fun i a c => ?_, fun p a c => ?_, fun i j a c d e => ?_⟩⟩ ⟨⟨by decide, by decide, by decide⟩, fun i j a c d => by omega, fun k a c => by omega, fun p a c => by omega⟩ (Or.inl rfl) h0 h1 ?_
  · have : i < 0 := c
    omega
  · have : p < 0 := c
    omega
  · have : i < 0 := c
    omega
  · show (0 : Int) ≤ room
    omega
theorem z5_clrL {x : ModS} {room : Int} : ∀ (m fu : Nat) (l : Int) (al : Int → Int), 0 ≤ l → l + (m : Int) = 120 → m < fu → (∀ i, 0 ≤ i → i < l → al i = 0) → ∃ al', f5_runsBy_L2 room fu l (s5_abo x al) = f5_runsBy_L33 room xFU 0 0 0 (s5_lat (s5_abo x al') (-1)) ∧ ∀ i, 0 ≤ i → i < 120 → al' i = 0
  | 0, 0, _, _, _, _, h, _ => by omega
  | m + 1, 0, _, _, _, _, h, _ => by omega
  | 0, fu + 1, l, al, l0, lm, _, h => by
    refine ⟨al, ?_, fun i i0 i1 => h i i0 (by omega)⟩
    unfold f5_runsBy_L2
    rw [z_ltF ⟨by omega, by omega⟩ (by decide) (by omega)]
  | m + 1, fu + 1, l, al, l0, lm, hf, h => by
    obtain ⟨al', q1, q2⟩ := z5_clrL (x := x) (room := room) m fu (l + 1) (x_up al l 0) (by omega) (by omega) (by omega) (fun i i0 i1 => by
      by_cases e : i = l
      · rw [e, z_upS]
      · rw [z_upN e]; exact h i i0 (by omega))
    refine ⟨al', ?_, q2⟩
    unfold f5_runsBy_L2
    rw [← q1]
    rw [z_ltT ⟨by omega, by omega⟩ (by decide) (by omega), z_bind (z_stZT l0 (by show l < (120 : Int); omega) (Or.inl rfl)), ss5_abo]
    rfl
theorem zs_runsBy {b : BoatS} {y : BrS} {x : ModS} {room : Int} (hy : g4_bo y = b) (hB : zB b) (hR : zRel b (g5_now x)) (rm0 : 1 ≤ room) (rm1 : room ≤ 120) (t0 : BoatS) : ∃ v t' a l, f4_runsWith_L31 xFU 0 (s4_tr y (bStart t0 room)) = some (0, v, s4_tr y t') ∧ f5_runsBy x room = some (v, s5_lat (s5_abo x a) l) ∧ 0 ≤ v ∧ v ≤ 120 ∧ (v ≤ 1 ↔ ∀ q, 0 ≤ q → q < zn b → zEg (zK b) q < room) := by
  have h0 := hB.1.1
  have h120 := hB.1.2.1
  obtain ⟨al, w1, w2⟩ := z5_clrL (x := x) (room := room) 120 xFU 0 (g5_abo x) (by decide) (by decide) (by unfold xFU; omega) (fun i a c => by omega)
  have ht : zTry b (bStart t0 room) (s5_lat (s5_abo x al) (-1)) 0 0 0 room := ⟨⟨zB_start rm0 rm1, rfl, h0, fun q a c => by omega, rfl, rfl, rfl, rfl⟩, fun q a c => by omega, fun q a c => w2 q a c, Or.inl ⟨rfl, rfl⟩⟩
  obtain ⟨v, t', a, l, q1, q2, q3⟩ := zTry_loop (t := bStart t0 room) (x := s5_lat (s5_abo x al) (-1)) hy hB rm0 rm1 (zn b).toNat xFU xFU 0 0 0 hR ht (Or.inl ⟨Or.inl ⟨rfl, rfl, fun q a c => by omega⟩, fun q a c => by omega⟩) (by omega) (by decide) (by decide) (by omega) (by unfold xFU; omega) (by unfold xFU; omega)
  refine ⟨v, t', a, l, q1, ?_, q3⟩
  have e0 : f5_runsBy x room = f5_runsBy_L2 room xFU 0 (s5_abo x (g5_abo x)) := rfl
  rw [e0, w1, q2, ssT]

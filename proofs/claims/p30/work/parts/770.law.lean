/-! The law as one pure function, and that it answers 1: no machine in it. -/
def fG_law (xi : Int → Int) (L : Int) : Nat → Int → (Int → Int) → (Int → Int) → (Int → Int) → (Int → Int) → BrS → Option Unit
  | 0, _, _, _, _, _, _ => none
  | n + 1, k, va, vh, vf, vo, y => x_lt k 40 ((fG_c xi L va vh vf vo y k).bind fun (k1, g, va1, vh1, vf1, vo1, y1) => (fG_d xi L va1 vh1 vf1 vo1 y1 k1 g).bind fun (k2, va2, vh2, vf2, vo2, y2) => fG_law xi L n (k2 + 1) va2 vh2 vf2 vo2 y2) (some ())
def bStart (b : BoatS) (room : Int) : BoatS := mkB room (-1) 0 0 0 0 0 (0, zK b) (0, zW b) (0, zH b) (0, zO b) (0, zF b) (0, zS b) (0, zG b)
theorem z0_start {b : BoatS} {room : Int} : f0_startAgain b room = some (bStart b room) := by
  unfold f0_startAgain bStart
  rw [z_bind (show f2_clear 120 (g0_keys b) = some (0, zK b) from rfl), z_bind (show f2_clear 120 (g0_weis b) = some (0, zW b) from rfl), z_bind (show f2_clear 120 (g0_homs b) = some (0, zH b) from rfl), z_bind (show f2_clear 120 (g0_ords b) = some (0, zO b) from rfl), z_bind (show f2_clear 120 (g0_flts b) = some (0, zF b) from rfl), z_bind (show f2_clear 120 (g0_strs b) = some (0, zS b) from rfl), z_bind (show f2_clear 120 (g0_rwts b) = some (0, zG b) from rfl)]
  simp only [se0I, se0R, gm0]
theorem zB_start {b : BoatS} {room : Int} (h0 : 1 ≤ room) (h1 : room ≤ 120) : zB (bStart b room) := by
  refine zB_mk ⟨by decide, by decide, fun p p0 p1 => by omega⟩ ⟨fun i j a c d => by omega, ⟨fun i a c => ?_, fun p a c => ?_, fun i j a c d e => ?_⟩⟩ ⟨⟨by decide, by decide, by decide⟩, fun i j a c d => by omega, fun k a c => by omega, fun p a c => by omega⟩ (Or.inl rfl) h0 h1 ?_
  · have : i < 0 := c
    omega
  · have : p < 0 := c
    omega
  · have : i < 0 := c
    omega
  · show (0 : Int) ≤ room
    omega
theorem lY_start {y : BrS} {b : BoatS} {room : Int} {va vh vf : Int → Int} (hb : g4_bo y = bStart b room) (h0 : 1 ≤ room) (h1 : room ≤ 120) (hh : lHi (g4_hi y)) (v1 : vh 1 = room) (v2 : vh 2 = -1) (hv : ∀ i, 0 ≤ i → i < 8 → ¬ i = 1 → ¬ i = 2 → vh i = 0) : lY y va vh vf 0 := by
  refine ⟨?_, hh⟩
  rw [hb]
  have e0 : zn (bStart b room) = 0 := by unfold bStart; simp only [zn, gm0]
  have e1 : g0_room (bStart b room) = room := by unfold bStart; simp only [gm0]
  have e2 : g0_opn (bStart b room) = -1 := by unfold bStart; simp only [gm0]
  have e3 : g0_flo (bStart b room) = 0 := by unfold bStart; simp only [gm0]
  have e4 : g0_cst (bStart b room) = 0 := by unfold bStart; simp only [gm0]
  have e5 : g0_mrg (bStart b room) = 0 := by unfold bStart; simp only [gm0]
  have e6 : g0_stm (bStart b room) = 0 := by unfold bStart; simp only [gm0]
  have e7 : g0_brk (bStart b room) = 0 := by unfold bStart; simp only [gm0]
  have e8 : zR (bStart b room) = 0 := by unfold bStart; simp only [zR, gm0]
  refine ⟨zB_start h0 h1, ⟨?_, ⟨?_, ?_, ?_, ?_, ?_, ?_, ?_, ?_⟩, ⟨fun k a c => ?_, fun r a c => ?_⟩, ?_⟩, ?_⟩
  · rw [e0]
    exact ⟨⟨Int.le_refl _, by decide⟩, fun p a c => by omega⟩
  · rw [e0]; exact hv 0 (by decide) (by decide) (by decide) (by decide)
  · rw [e1]; exact v1
  · rw [e2]; exact v2
  · rw [e3]; exact hv 3 (by decide) (by decide) (by decide) (by decide)
  · rw [e4]; exact hv 4 (by decide) (by decide) (by decide) (by decide)
  · rw [e5]; exact hv 5 (by decide) (by decide) (by decide) (by decide)
  · rw [e6]; exact hv 6 (by decide) (by decide) (by decide) (by decide)
  · rw [e7]; exact hv 7 (by decide) (by decide) (by decide) (by decide)
  · rw [e8] at c; omega
  · rw [e3] at c; omega
  · rw [e3]; decide
  · unfold zT
    rw [e3, e4, e5, e6, e7]
    decide
theorem l_cell {xi : Int → Int} {L k : Int} (hL : 0 ≤ L ∧ L ≤ 260) (k0 : 0 ≤ k) (k1 : k ≤ 40) : ∃ v, fL_cell xi L k = some v := by
  unfold fL_cell
  by_cases c : k < L
  · rw [z_ltT ⟨by omega, by omega⟩ ⟨by omega, by omega⟩ c, if_pos k0]
    exact ⟨_, rfl⟩
  · rw [z_ltF ⟨by omega, by omega⟩ ⟨by omega, by omega⟩ c]
    exact ⟨_, rfl⟩
theorem i4_start : g4_bo i4 = bStart i0 4 := rfl
theorem l_a {xi : Int → Int} {L : Int} (hL : 0 ≤ L ∧ L ≤ 260) : ∃ va vh vf vo y, fG_a xi L (fun _ => 0) (fun _ => 0) (fun _ => 0) (fun _ => 0) i4 = some (va, vh, vf, vo, y) ∧ lY y va vh vf 0 ∧ zn (g4_bo y) = 0 := by
  obtain ⟨v, e⟩ := l_cell (xi := xi) (k := 0) hL (by decide) (by decide)
  obtain ⟨r, e1, r0, r1⟩ := l_low v (n := 3) (by decide) (by decide)
  obtain ⟨w, e2, w0, w1⟩ := l_low (x_shr v 4) (n := 12) (by decide) (by decide)
  have hh : lHi (g4_hi i4) := ⟨by decide, by decide, by decide, by decide⟩
  unfold fG_a
  rw [z_bind e, z_bind (z_stT (by decide) (by decide)), z_bind (z_stT (by decide) (by decide)), z_bind e1]
  by_cases c : 0 < r
  · have hB0 : zB (g4_bo i4) := by rw [i4_start]; exact zB_start (by decide) (by decide)
    obtain ⟨h', s1, s2⟩ := l_save hB0 hh
    have hr : x_ld 8 (x_up (x_up (x_up (fun _ => 0) 1 4) 2 (-1)) 1 (1 + w)) 1 = some (1 + w) := by rw [z_ldT (by decide) (by decide), z_upS]
    have eb : f4_begin i4 (1 + w) = some (0, 0, s4_bo (s4_hi i4 h') (bStart i0 (1 + w))) := by
      unfold f4_begin
      rw [z_ltF ⟨by omega, by omega⟩ (by decide) (by omega), z_ltF (by decide) ⟨by omega, by omega⟩ (by omega), z_bind s1, z_bind l_loaded, z_bind (z0_start (b := g4_bo i4) (room := 1 + w))]
      rfl
    rw [z_ltT (by decide) ⟨by omega, by omega⟩ c, z_bind e2, z_bind (z_stT (by decide) (by decide)), z_bind hr, z_bind2 eb]
    dsimp only
    rw [z_zr0, z_eqT (by decide) rfl]
    refine ⟨_, _, _, _, _, rfl, lY_start (b := i0) (room := 1 + w) rfl (by omega) (by omega) s2 z_upS (by rw [z_upN (by decide), z_upS]) (fun i a d n1 n2 => by rw [z_upN n1, z_upN n2, z_upN n1]), rfl⟩
  · rw [z_ltF (by decide) ⟨by omega, by omega⟩ c]
    refine ⟨_, _, _, _, _, rfl, lY_start (b := i0) (room := 4) rfl (by decide) (by decide) hh (by rw [z_upN (by decide), z_upS]) z_upS (fun i a d n1 n2 => by rw [z_upN n2, z_upN n1]), rfl⟩
theorem l_b {xi : Int → Int} {L : Int} {y : BrS} {va vh vf vo : Int → Int} (hY : lY y va vh vf 0) (hn : zn (g4_bo y) = 0) : ∃ vo' y', fG_b xi L va vh vf vo y = some (1, va, vh, vf, vo', y') ∧ lY y' va vh vf 0 := by
  have hB := hY.1.1
  have hR := hY.1.2.1
  have hRl := hB.R_le
  have r0 := hB.R0
  obtain ⟨h', s1, s2⟩ := l_save hB hY.2
  have hz : zC (zH (g4_bo y)) (-1) (zn (g4_bo y)) = 0 := by rw [hn]; rfl
  have ho : g0_opn (g4_bo y) = -1 := by
    rcases hB.2.2.2.2.1 with q | ⟨k, k0, k1, _⟩
    · exact q
    · omega
  have et : f0_throwAll (g4_bo y) = some (0, s0_opn (g4_bo y) (-1)) := by
    unfold f0_throwAll
    rw [z_bind (z0_countAt hB (by decide)), hz, show xFU = 99999 + 1 from rfl]
    unfold f0_throwAll_L6
    rw [z_ltF (by decide) (by decide) (by decide), z_bind (show f2_size 120 (g0_flts (g4_bo y)) = some (zR (g4_bo y)) from rfl), show zR (g4_bo y) = 0 by omega]
  have ee : f4_empty y = some (0, s4_bo (s4_hi y h') (s0_opn (g4_bo y) (-1))) := by
    unfold f4_empty
    rw [z_bind s1, z_bind2 et]
  have em : f4_mergeLightest (s4_bo (s4_hi y h') (s0_opn (g4_bo y) (-1))) = some (2, 0, s4_bo (s4_hi y h') (s0_opn (g4_bo y) (-1))) := by
    unfold f4_mergeLightest
    rw [z_bind (show f0_runs (g4_bo (s4_bo (s4_hi y h') (s0_opn (g4_bo y) (-1)))) = some (zR (g4_bo y)) from rfl), z_ltT ⟨by omega, by omega⟩ (by decide) (by omega)]
  unfold fG_b
  rw [z_bind2 (la_values hY (by decide))]
  dsimp only
  rw [z_eqF (by decide) (by decide) (by decide), z_bind2 ee]
  dsimp only
  rw [z_eqT (by decide) rfl, z_bind (lh_mergeLightest_1 em)]
  dsimp only
  rw [z_eqT (by decide) rfl]
  refine ⟨_, _, rfl, ⟨zB_opn hB, ?_, hY.1.2.2⟩, s2⟩
  have h2 := lR_opn (v := -1) hR
  have ev : x_up vh 2 (-1) = vh := by
    funext i
    unfold x_up
    by_cases c : i = 2
    · rw [if_pos c, c, hR.2.1.2.2.1, ho]
    · rw [if_neg c]
  rw [ev] at h2
  exact h2
theorem l_def {p7 x t : Int} (ht : fL_low (x_shr x 24) 4 = some t) (t0 : 0 ≤ t) (t1 : t < 4) : ∀ (m fu : Nat) (i c : Int) (y : BrS) (va vh vf vo : Int → Int), 0 ≤ i → i + (m : Int) = 1 + t → m < fu → lY y va vh vf c → c + (m : Int) < 1000000000 → ∃ va' vh' vf' vo' y', fG_c_L255 p7 x fu 1 i va vh vf vo y = some (p7, 1, va', vh', vf', vo', y') ∧ lY y' va' vh' vf' (c + (m : Int))
  | 0, 0, _, _, _, _, _, _, _, _, _, q, _, _ => by omega
  | m + 1, 0, _, _, _, _, _, _, _, _, _, q, _, _ => by omega
  | 0, fu + 1, i, c, y, va, vh, vf, vo, i0, im, _, hY, _ => by
    unfold fG_c_L255
    rw [z_bind ht, z_ltF ⟨by omega, by omega⟩ ⟨by omega, by omega⟩ (by omega)]
    exact ⟨_, _, _, _, _, rfl, lY_le hY (by omega)⟩
  | m + 1, fu + 1, i, c, y, va, vh, vf, vo, i0, im, q, hY, hc => by
    obtain ⟨va1, vh1, vf1, y1, e1, e2⟩ := la_loaded hY (by omega) (x_xor (x_shr x (3 * i)) (x_shl x (5 * i)))
    obtain ⟨va', vh', vf', vo', y', q1, q2⟩ := l_def (p7 := p7) ht t0 t1 m fu (i + 1) (c + 1) y1 va1 vh1 vf1 vo (by omega) (by omega) (by omega) e2 (by omega)
    refine ⟨va', vh', vf', vo', y', ?_, by rw [show c + ((m + 1 : Nat) : Int) = c + 1 + (m : Int) by omega]; exact q2⟩
    unfold fG_c_L255
    rw [z_bind ht, z_ltT ⟨by omega, by omega⟩ ⟨by omega, by omega⟩ (by omega), z_eqF (by decide) (by decide) (by decide), z_bind e1]
    dsimp only
    rw [z_eqF (by decide) (by decide) (by decide)]
    exact q1
theorem l_c {xi : Int → Int} {L k c : Int} {y : BrS} {va vh vf vo : Int → Int} (hL : 0 ≤ L ∧ L ≤ 260) (k0 : 0 ≤ k) (k1 : k ≤ 40) (hY : lY y va vh vf c) (c0 : 0 ≤ c) (hc : c + 6000 < 1000000000) : ∃ va' vh' vf' vo' y', fG_c xi L va vh vf vo y k = some (k, 1, va', vh', vf', vo', y') ∧ lY y' va' vh' vf' (c + 6000) := by
  obtain ⟨x, e⟩ := l_cell (xi := xi) (k := k) hL k0 k1
  obtain ⟨w, e1, w0, w1⟩ := l_low (x_shr x 27) (n := 8) (by decide) (by decide)
  have xw : xin w := ⟨by omega, by omega⟩
  unfold fG_c
  rw [z_bind e, z_bind e1]
  by_cases a0 : w = 0
  · obtain ⟨f, e2, f0, f1⟩ := l_low x (n := 11) (by decide) (by decide)
    obtain ⟨va', vh', vf', y', q1, q2⟩ := la_stormy hY hc f0 (by omega)
    rw [z_eqT xw a0, z_bind e2, z_bind q1]
    exact ⟨_, _, _, _, _, rfl, q2⟩
  rw [z_eqF xw (by decide) a0]
  by_cases a1 : w = 1
  · obtain ⟨va', vh', vf', y', q1, q2⟩ := la_merged hY hc x
    rw [z_eqT xw a1, z_bind q1]
    exact ⟨_, _, _, _, _, rfl, q2⟩
  rw [z_eqF xw (by decide) a1]
  by_cases a2 : w = 2
  · obtain ⟨va', vh', vf', y', q1, q2⟩ := la_landed hY x
    rw [z_eqT xw a2, z_bind q1]
    exact ⟨_, _, _, _, _, rfl, lY_le q2 (by omega)⟩
  rw [z_eqF xw (by decide) a2]
  by_cases a3 : w = 3
  · obtain ⟨f, e2, f0, f1⟩ := l_low x (n := 3) (by decide) (by decide)
    rw [z_eqT xw a3, z_bind e2]
    by_cases d : 0 < f
    · rw [z_ltT (by decide) ⟨by omega, by omega⟩ d]
      exact ⟨_, _, _, _, _, rfl, lY_le hY (by omega)⟩
    · obtain ⟨va', vh', vf', y', q1, q2⟩ := la_emptied hY (by omega)
      rw [z_ltF (by decide) ⟨by omega, by omega⟩ d, z_bind q1]
      dsimp only
      rw [z_eqF (by decide) (by decide) (by decide)]
      exact ⟨_, _, _, _, _, rfl, lY_le q2 (by omega)⟩
  rw [z_eqF xw (by decide) a3]
  obtain ⟨t, e2, t0, t1⟩ := l_low (x_shr x 24) (n := 4) (by decide) (by decide)
  obtain ⟨va', vh', vf', vo', y', q1, q2⟩ := l_def (p7 := k) e2 t0 t1 (1 + t).toNat 6 0 c y va vh vf vo (by omega) (by omega) (by omega) hY (by omega)
  exact ⟨_, _, _, _, _, q1, lY_le q2 (by omega)⟩
theorem l_d {xi : Int → Int} {L k c : Int} {y : BrS} {va vh vf vo : Int → Int} (k0 : 0 ≤ k) (k1 : k ≤ 40) (hY : lY y va vh vf c) (hc : c ≤ 1000000000) : fG_d xi L va vh vf vo y k 1 = some (k, va, vh, vf, vo, y) := by
  have ev := la_values hY hc
  have er := la_runs hY
  have ep := la_parcels hY
  unfold fG_d
  rw [z_eqF (by decide) (by decide) (by decide), z_bind (z_remT k0 (by omega) (by decide) (by decide))]
  by_cases a : k % 4 = 3
  · rw [z_eqT ⟨by omega, by omega⟩ a, z_bind2 ep]
    dsimp only
    rw [z_eqF (by decide) (by decide) (by decide), z_bind (z_remT k0 (by omega) (by decide) (by decide))]
    by_cases d : k % 2 = 1
    · rw [z_eqT ⟨by omega, by omega⟩ d, z_bind2 er]
      dsimp only
      rw [z_eqF (by decide) (by decide) (by decide), z_bind2 ev]
      dsimp only
      rw [z_eqF (by decide) (by decide) (by decide)]
    · rw [z_eqF ⟨by omega, by omega⟩ (by decide) d, z_bind2 ev]
      dsimp only
      rw [z_eqF (by decide) (by decide) (by decide)]
  · rw [z_eqF ⟨by omega, by omega⟩ (by decide) a, z_bind (z_remT k0 (by omega) (by decide) (by decide))]
    by_cases d : k % 2 = 1
    · rw [z_eqT ⟨by omega, by omega⟩ d, z_bind2 er]
      dsimp only
      rw [z_eqF (by decide) (by decide) (by decide), z_bind2 ev]
      dsimp only
      rw [z_eqF (by decide) (by decide) (by decide)]
    · rw [z_eqF ⟨by omega, by omega⟩ (by decide) d, z_bind2 ev]
      dsimp only
      rw [z_eqF (by decide) (by decide) (by decide)]
theorem l_law {xi : Int → Int} {L : Int} (hL : 0 ≤ L ∧ L ≤ 260) : ∀ (m n : Nat) (k c : Int) (y : BrS) (va vh vf vo : Int → Int), 0 ≤ k → k + (m : Int) = 40 → m < n → lY y va vh vf c → 0 ≤ c → c + 6000 * (m : Int) < 1000000 → fG_law xi L n k va vh vf vo y = some ()
  | 0, 0, _, _, _, _, _, _, _, _, _, q, _, _, _ => by omega
  | m + 1, 0, _, _, _, _, _, _, _, _, _, q, _, _, _ => by omega
  | 0, n + 1, k, c, y, va, vh, vf, vo, k0, km, _, hY, _, _ => by
    unfold fG_law
    rw [z_ltF ⟨by omega, by omega⟩ (by decide) (by omega)]
  | m + 1, n + 1, k, c, y, va, vh, vf, vo, k0, km, q, hY, c0, hc => by
    obtain ⟨va1, vh1, vf1, vo1, y1, e1, e2⟩ := l_c (xi := xi) (vo := vo) hL k0 (by omega) hY c0 (by omega)
    have e3 := l_d (xi := xi) (L := L) (vo := vo1) k0 (by omega) e2 (by omega)
    unfold fG_law
    rw [z_ltT ⟨by omega, by omega⟩ (by decide) (by omega), z_bind e1]
    dsimp only
    rw [z_bind e3]
    dsimp only
    exact l_law hL m n (k + 1) (c + 6000) y1 va1 vh1 vf1 vo1 (by omega) (by omega) (by omega) e2 (by omega) (by omega)

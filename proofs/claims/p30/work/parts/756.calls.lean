/-! The calls of the class that the law makes; the numbers. -/
def lHi (h : HisS) : Prop := 0 ≤ g1_nxt h ∧ g1_nxt h ≤ 3 ∧ 0 ≤ g1_cnt h ∧ g1_cnt h ≤ 4
theorem l_save {h : HisS} {o : BoatS} (hB : zB o) (hh : lHi h) : ∃ h', f1_save h o = some h' ∧ lHi h' := by
  obtain ⟨h', b', s1, s2, s3, s4, s5⟩ := z1_save (h := h) hB hh.1 hh.2.1 hh.2.2.1 hh.2.2.2
  obtain ⟨a1, a2, a3, a4⟩ := hh
  refine ⟨h', s1, ?_, ?_, ?_, ?_⟩
  · rw [s3]; omega
  · rw [s3]; omega
  · rw [s4]; split <;> omega
  · rw [s4]; split <;> omega
def lY (y : BrS) (va vh vf : Int → Int) (c : Int) : Prop := lJ (g4_bo y) va vh vf c ∧ lHi (g4_hi y)
theorem lY_le {y : BrS} {va vh vf : Int → Int} {c d : Int} (h : lY y va vh vf c) (hd : c ≤ d) : lY y va vh vf d := ⟨lJ_le h.1 hd, h.2⟩
theorem l_loaded {b : BoatS} : f0_loaded b = some (zn b) := rfl
theorem l_nruns {b : BoatS} : f0_runs b = some (zR b) := rfl
theorem z_zr0 {α : Type} {T : Option α} : x_zr 0 T = T := by unfold x_zr; rw [if_pos rfl]
theorem l_o {vo : Int → Int} {v : Int} : x_ld 1 (x_up vo 0 v) 0 = some v := by rw [z_ldT (by decide) (by decide), z_upS]
theorem l_has {b : BoatS} (hB : zB b) {i : Int} (i0 : 0 ≤ i) (i1 : i < zR b) : f0_hasRun b (zF b i) = some 1 := by
  have hR := hB.R_le
  have h120 := hB.1.2.1
  unfold f0_hasRun
  rw [z_bind (hB.idxAt i0 i1), z_eqF ⟨by omega, by omega⟩ (by decide) (by omega)]
theorem l_hasNo {b : BoatS} (hB : zB b) {r : Int} (hr : xin r) (hn : ∀ k, 0 ≤ k → k < zR b → ¬ zF b k = r) : f0_hasRun b r = some 0 := by
  obtain ⟨t, e, ht⟩ := hB.idx hr
  unfold f0_hasRun
  rw [z_bind e]
  rcases ht with ⟨h1, _⟩ | ⟨h1, h2, h3, _⟩
  · rw [h1, z_eqT (by decide) rfl]
  · exact absurd h3 (hn t h1 h2)
theorem l_flo {b : BoatS} (hB : zB b) : ∀ k, 0 ≤ k → k < zR b → ¬ zF b k = g0_flo b := fun k k0 k1 z => by
  have := (hB.2.2.2.1.2.2.1 k k0 k1).2.1
  omega
theorem l_value {y : BrS} {w v : Int} (w0 : 0 ≤ w) (w1 : w < 12) (h : f0_number (g4_bo y) w = some v) : f4_value y w = some (0, v, y) := by
  unfold f4_value
  rw [z_ltF ⟨by omega, by omega⟩ (by decide) (by omega), z_ltT ⟨by omega, by omega⟩ (by decide) w1, z_bind h]
theorem l_num0 {b : BoatS} : f0_number b 0 = some (g0_room b) := by
  unfold f0_number
  rw [z_eqT (by decide) rfl]
theorem l_num1 {b : BoatS} (hB : zB b) : f0_number b 1 = some (zC (zH b) (-1) (zn b)) := by
  unfold f0_number
  rw [z_eqF (by decide) (by decide) (by decide), z_eqT (by decide) rfl, z_bind (z0_countAt hB (by decide))]
theorem l_num2 {b : BoatS} : f0_number b 2 = some (zn b) := by
  unfold f0_number
  rw [z_eqF (by decide) (by decide) (by decide), z_eqF (by decide) (by decide) (by decide), z_eqT (by decide) rfl, z_bind (show f2_size 120 (g0_keys b) = some (zn b) from rfl)]
theorem l_num3 {b : BoatS} : f0_number b 3 = some (zR b) := by
  unfold f0_number
  rw [z_eqF (by decide) (by decide) (by decide), z_eqF (by decide) (by decide) (by decide), z_eqF (by decide) (by decide) (by decide), z_eqT (by decide) rfl, z_bind (show f2_size 120 (g0_flts b) = some (zR b) from rfl)]
theorem l_num4 {b : BoatS} (hB : zB b) : f0_number b 4 = some (zn b - zC (zH b) (-1) (zn b) - zC (zH b) (-2) (zn b)) := by
  unfold f0_number
  rw [z_eqF (by decide) (by decide) (by decide), z_eqF (by decide) (by decide) (by decide), z_eqF (by decide) (by decide) (by decide), z_eqF (by decide) (by decide) (by decide), z_eqT (by decide) rfl, z_bind (show f2_size 120 (g0_keys b) = some (zn b) from rfl), z_bind (z0_countAt hB (by decide)), z_bind (z0_countAt hB (by decide))]
theorem l_num5 {b : BoatS} (hB : zB b) : f0_number b 5 = some (zC (zH b) (-2) (zn b)) := by
  unfold f0_number
  rw [z_eqF (by decide) (by decide) (by decide), z_eqF (by decide) (by decide) (by decide), z_eqF (by decide) (by decide) (by decide), z_eqF (by decide) (by decide) (by decide), z_eqF (by decide) (by decide) (by decide), z_eqT (by decide) rfl, z_bind (z0_countAt hB (by decide))]
theorem l_num6 {b : BoatS} : f0_number b 6 = some (g0_cst b) := by
  unfold f0_number
  rw [z_eqF (by decide) (by decide) (by decide), z_eqF (by decide) (by decide) (by decide), z_eqF (by decide) (by decide) (by decide), z_eqF (by decide) (by decide) (by decide), z_eqF (by decide) (by decide) (by decide), z_eqF (by decide) (by decide) (by decide), z_eqT (by decide) rfl]
theorem l_num7 {b : BoatS} : f0_number b 7 = some (g0_mrg b) := by
  unfold f0_number
  rw [z_eqF (by decide) (by decide) (by decide), z_eqF (by decide) (by decide) (by decide), z_eqF (by decide) (by decide) (by decide), z_eqF (by decide) (by decide) (by decide), z_eqF (by decide) (by decide) (by decide), z_eqF (by decide) (by decide) (by decide), z_eqF (by decide) (by decide) (by decide), z_eqT (by decide) rfl]
theorem l_num8 {b : BoatS} : f0_number b 8 = some (g0_stm b) := by
  unfold f0_number
  rw [z_eqF (by decide) (by decide) (by decide), z_eqF (by decide) (by decide) (by decide), z_eqF (by decide) (by decide) (by decide), z_eqF (by decide) (by decide) (by decide), z_eqF (by decide) (by decide) (by decide), z_eqF (by decide) (by decide) (by decide), z_eqF (by decide) (by decide) (by decide), z_eqF (by decide) (by decide) (by decide), z_eqT (by decide) rfl]
theorem l_num9 {b : BoatS} : f0_number b 9 = some (g0_brk b) := by
  unfold f0_number
  rw [z_eqF (by decide) (by decide) (by decide), z_eqF (by decide) (by decide) (by decide), z_eqF (by decide) (by decide) (by decide), z_eqF (by decide) (by decide) (by decide), z_eqF (by decide) (by decide) (by decide), z_eqF (by decide) (by decide) (by decide), z_eqF (by decide) (by decide) (by decide), z_eqF (by decide) (by decide) (by decide), z_eqF (by decide) (by decide) (by decide), z_eqT (by decide) rfl]
theorem l_num10 {b : BoatS} : f0_number b 10 = some (g0_opn b) := by
  unfold f0_number
  rw [z_eqF (by decide) (by decide) (by decide), z_eqF (by decide) (by decide) (by decide), z_eqF (by decide) (by decide) (by decide), z_eqF (by decide) (by decide) (by decide), z_eqF (by decide) (by decide) (by decide), z_eqF (by decide) (by decide) (by decide), z_eqF (by decide) (by decide) (by decide), z_eqF (by decide) (by decide) (by decide), z_eqF (by decide) (by decide) (by decide), z_eqF (by decide) (by decide) (by decide), z_eqT (by decide) rfl]
theorem l_num11 {b : BoatS} : f0_number b 11 = some (g0_flo b) := by
  unfold f0_number
  rw [z_eqF (by decide) (by decide) (by decide), z_eqF (by decide) (by decide) (by decide), z_eqF (by decide) (by decide) (by decide), z_eqF (by decide) (by decide) (by decide), z_eqF (by decide) (by decide) (by decide), z_eqF (by decide) (by decide) (by decide), z_eqF (by decide) (by decide) (by decide), z_eqF (by decide) (by decide) (by decide), z_eqF (by decide) (by decide) (by decide), z_eqF (by decide) (by decide) (by decide), z_eqF (by decide) (by decide) (by decide)]
theorem l_run {y : BrS} (hB : zB (g4_bo y)) {i w v : Int} (i0 : 0 ≤ i) (i1 : i < zR (g4_bo y)) (w0 : 0 ≤ w) (w1 : w < 6) (h : f0_runFact (g4_bo y) (zF (g4_bo y) i) w = some v) : f4_run y (zF (g4_bo y) i) w = some (0, v, y) := by
  unfold f4_run
  rw [z_bind (l_has hB i0 i1), z_eqF (by decide) (by decide) (by decide), z_ltF ⟨by omega, by omega⟩ (by decide) (by omega), z_ltT ⟨by omega, by omega⟩ (by decide) w1, z_bind h]
theorem l_rf0 {b : BoatS} (hB : zB b) {i : Int} (i0 : 0 ≤ i) (i1 : i < zR b) : f0_runFact b (zF b i) 0 = some (zC (zH b) (zF b i) (zn b)) := by
  unfold f0_runFact
  rw [z_eqT (by decide) rfl, z_bind (z0_countAt hB (h := zF b i) (hB.xF i i0 i1))]
theorem l_rf1 {b : BoatS} (hB : zB b) {i : Int} (i0 : 0 ≤ i) (i1 : i < zR b) : f0_runFact b (zF b i) 1 = some (zG b i) := by
  unfold f0_runFact
  rw [z_eqF (by decide) (by decide) (by decide), z_eqT (by decide) rfl, z_bind (hB.idxAt i0 i1), z_bind (hB.getG i0 i1)]
theorem l_rf2 {b : BoatS} (hB : zB b) {i : Int} (i0 : 0 ≤ i) (i1 : i < zR b) : f0_runFact b (zF b i) 2 = some (zS b i) := by
  unfold f0_runFact
  rw [z_eqF (by decide) (by decide) (by decide), z_eqF (by decide) (by decide) (by decide), z_eqT (by decide) rfl, z_bind (hB.idxAt i0 i1), z_bind (hB.getS i0 i1)]
theorem l_rf3 {b : BoatS} (hB : zB b) {i p : Int} (h : f0_parcelAt b (zF b i) 0 = some p) (p0 : 0 ≤ p) (p1 : p < zn b) : f0_runFact b (zF b i) 3 = some (zK b p) := by
  unfold f0_runFact
  rw [z_eqF (by decide) (by decide) (by decide), z_eqF (by decide) (by decide) (by decide), z_eqF (by decide) (by decide) (by decide), z_eqT (by decide) rfl, z_bind h, z_bind (hB.getK p0 p1)]
theorem l_rf4 {b : BoatS} (hB : zB b) {i p : Int} (h : f0_lastAt b (zF b i) = some p) (p0 : 0 ≤ p) (p1 : p < zn b) : f0_runFact b (zF b i) 4 = some (zK b p) := by
  unfold f0_runFact
  rw [z_eqF (by decide) (by decide) (by decide), z_eqF (by decide) (by decide) (by decide), z_eqF (by decide) (by decide) (by decide), z_eqF (by decide) (by decide) (by decide), z_eqT (by decide) rfl, z_bind h, z_bind (hB.getK p0 p1)]
theorem l_rf5 {b : BoatS} (hB : zB b) {i : Int} (i0 : 0 ≤ i) (i1 : i < zR b) : f0_runFact b (zF b i) 5 = some (if g0_opn b = zF b i then 1 else 0) := by
  unfold f0_runFact
  rw [z_eqF (by decide) (by decide) (by decide), z_eqF (by decide) (by decide) (by decide), z_eqF (by decide) (by decide) (by decide), z_eqF (by decide) (by decide) (by decide), z_eqF (by decide) (by decide) (by decide)]
  by_cases c : g0_opn b = zF b i
  · rw [z_eqT hB.opn_x c, if_pos c]
  · rw [z_eqF hB.opn_x (hB.xF i i0 i1) c, if_neg c]
theorem l_runAt {y : BrS} (hB : zB (g4_bo y)) {i : Int} (i0 : 0 ≤ i) (i1 : i < zR (g4_bo y)) : f4_runAt y i = some (0, zF (g4_bo y) i, y) := by
  have hR := hB.R_le
  have h120 := hB.1.2.1
  unfold f4_runAt f0_runNumber
  rw [z_ltF ⟨by omega, by omega⟩ (by decide) (by omega), z_bind l_nruns, z_ltT ⟨by omega, by omega⟩ ⟨by omega, by omega⟩ i1, hB.getF i0 i1]
  rfl
theorem l_runAtNo {y : BrS} (hB : zB (g4_bo y)) {i : Int} (hx : xin i) (h : i < 0 ∨ zR (g4_bo y) ≤ i) : f4_runAt y i = some (4, 0, y) := by
  have hR := hB.R_le
  have r0 := hB.R0
  have h120 := hB.1.2.1
  unfold f4_runAt
  by_cases c : i < 0
  · rw [z_ltT hx (by decide) c]
  · rw [z_ltF hx (by decide) c, z_bind l_nruns, z_ltF hx ⟨by omega, by omega⟩ (by omega)]
theorem l_inRun {y : BrS} (hB : zB (g4_bo y)) {i k p : Int} (i0 : 0 ≤ i) (i1 : i < zR (g4_bo y)) (k0 : 0 ≤ k) (k1 : k < zC (zH (g4_bo y)) (zF (g4_bo y) i) (zn (g4_bo y))) (h : f0_parcelAt (g4_bo y) (zF (g4_bo y) i) k = some p) : f4_inRun y (zF (g4_bo y) i) k = some (0, p, y) := by
  have h120 := hB.1.2.1
  have cl := zC_le (zH (g4_bo y)) (zF (g4_bo y) i) hB.1.1
  unfold f4_inRun
  rw [z_bind (l_has hB i0 i1), z_eqF (by decide) (by decide) (by decide), z_ltF ⟨by omega, by omega⟩ (by decide) (by omega), z_bind (z0_countAt hB (h := zF (g4_bo y) i) (hB.xF i i0 i1)), z_ltT ⟨by omega, by omega⟩ ⟨by omega, by omega⟩ k1, z_bind h]
theorem l_inRunNo {y : BrS} (hB : zB (g4_bo y)) {i : Int} (i0 : 0 ≤ i) (i1 : i < zR (g4_bo y)) : f4_inRun y (zF (g4_bo y) i) (zC (zH (g4_bo y)) (zF (g4_bo y) i) (zn (g4_bo y))) = some (4, 0, y) := by
  have h120 := hB.1.2.1
  have cn := zC_nonneg (zH (g4_bo y)) (zF (g4_bo y) i) (zn (g4_bo y))
  have cl := zC_le (zH (g4_bo y)) (zF (g4_bo y) i) hB.1.1
  unfold f4_inRun
  rw [z_bind (l_has hB i0 i1), z_eqF (by decide) (by decide) (by decide), z_ltF ⟨by omega, by omega⟩ (by decide) (by omega), z_bind (z0_countAt hB (h := zF (g4_bo y) i) (hB.xF i i0 i1)), z_ltF ⟨by omega, by omega⟩ ⟨by omega, by omega⟩ (by omega)]
theorem l_inRunGone {y : BrS} {r k : Int} (h : f0_hasRun (g4_bo y) r = some 0) : f4_inRun y r k = some (3, 0, y) := by
  unfold f4_inRun
  rw [z_bind h, z_eqT (by decide) rfl]
theorem l_ashore {y : BrS} (hB : zB (g4_bo y)) {k p : Int} (k0 : 0 ≤ k) (k1 : k < zC (zH (g4_bo y)) (-2) (zn (g4_bo y))) (h : f0_parcelAt (g4_bo y) (-2) k = some p) : f4_ashore y k = some (0, p, y) := by
  have h120 := hB.1.2.1
  have cl := zC_le (zH (g4_bo y)) (-2) hB.1.1
  unfold f4_ashore
  rw [z_ltF ⟨by omega, by omega⟩ (by decide) (by omega), z_bind (z0_countAt hB (by decide)), z_ltT ⟨by omega, by omega⟩ ⟨by omega, by omega⟩ k1, z_bind h]
theorem l_ashoreNo {y : BrS} (hB : zB (g4_bo y)) : f4_ashore y (zC (zH (g4_bo y)) (-2) (zn (g4_bo y))) = some (4, 0, y) := by
  have h120 := hB.1.2.1
  have cn := zC_nonneg (zH (g4_bo y)) (-2) (zn (g4_bo y))
  have cl := zC_le (zH (g4_bo y)) (-2) hB.1.1
  unfold f4_ashore
  rw [z_ltF ⟨by omega, by omega⟩ (by decide) (by omega), z_bind (z0_countAt hB (by decide)), z_ltF ⟨by omega, by omega⟩ ⟨by omega, by omega⟩ (by omega)]
theorem l_parcel {y : BrS} (hB : zB (g4_bo y)) {p w v : Int} (p0 : 0 ≤ p) (p1 : p < zn (g4_bo y)) (w0 : 0 ≤ w) (w1 : w < 5) (h : f0_parcelFact (g4_bo y) p w = some v) : f4_parcel y p w = some (0, v, y) := by
  have h120 := hB.1.2.1
  unfold f4_parcel
  rw [z_ltF ⟨by omega, by omega⟩ (by decide) (by omega), z_bind l_loaded, z_ltT ⟨by omega, by omega⟩ ⟨by omega, by omega⟩ p1, z_ltF ⟨by omega, by omega⟩ (by decide) (by omega), z_ltT ⟨by omega, by omega⟩ (by decide) w1, z_bind h]
theorem l_parcelNo {y : BrS} (hB : zB (g4_bo y)) {p w : Int} (hx : xin p) (h : p < 0 ∨ zn (g4_bo y) ≤ p) : f4_parcel y p w = some (4, 0, y) := by
  have h120 := hB.1.2.1
  have h0 := hB.1.1
  unfold f4_parcel
  by_cases c : p < 0
  · rw [z_ltT hx (by decide) c]
  · rw [z_ltF hx (by decide) c, z_bind l_loaded, z_ltF hx ⟨by omega, by omega⟩ (by omega)]
theorem l_parcelW {y : BrS} (hB : zB (g4_bo y)) {p : Int} (p0 : 0 ≤ p) (p1 : p < zn (g4_bo y)) : f4_parcel y p 5 = some (1, 0, y) := by
  have h120 := hB.1.2.1
  unfold f4_parcel
  rw [z_ltF ⟨by omega, by omega⟩ (by decide) (by omega), z_bind l_loaded, z_ltT ⟨by omega, by omega⟩ ⟨by omega, by omega⟩ p1, z_ltF (by decide) (by decide) (by decide), z_ltF (by decide) (by decide) (by decide)]
section LPF
variable {b : BoatS} {p : Int}
theorem l_pf0 (hB : zB b) (p0 : 0 ≤ p) (p1 : p < zn b) : f0_parcelFact b p 0 = some (zK b p) := by
  unfold f0_parcelFact
  rw [z_bind (hB.getH p0 p1), z_eqT (by decide) rfl, z_bind (hB.getK p0 p1)]
theorem l_pf1 (hB : zB b) (p0 : 0 ≤ p) (p1 : p < zn b) : f0_parcelFact b p 1 = some (zW b p) := by
  unfold f0_parcelFact
  rw [z_bind (hB.getH p0 p1), z_eqF (by decide) (by decide) (by decide), z_eqT (by decide) rfl, z_bind (hB.getW p0 p1)]
theorem l_pf2 (hB : zB b) (p0 : 0 ≤ p) (p1 : p < zn b) : f0_parcelFact b p 2 = some (zwh (zH b p)) := by
  have hp := hB.1.2.2 p p0 p1
  have xH : xin (zH b p) := hB.xH p p0 p1
  unfold f0_parcelFact
  rw [z_bind (hB.getH p0 p1), z_eqF (by decide) (by decide) (by decide), z_eqF (by decide) (by decide) (by decide), z_eqT (by decide) rfl]
  by_cases a : zH b p = -1
  · rw [z_eqT xH a, zwh_0.mpr a]
  · rw [z_eqF xH (by decide) a]
    by_cases c : zH b p = -2
    · rw [z_eqT xH c, zwh_2.mpr c]
    · rw [z_eqF xH (by decide) c, (zwh_1 hp.2.2.2.2.1).mpr (by omega)]
theorem l_pf3 (hB : zB b) (p0 : 0 ≤ p) (p1 : p < zn b) : f0_parcelFact b p 3 = some (zof (zH b p)) := by
  have hp := hB.1.2.2 p p0 p1
  have xH : xin (zH b p) := hB.xH p p0 p1
  unfold f0_parcelFact
  rw [z_bind (hB.getH p0 p1), z_eqF (by decide) (by decide) (by decide), z_eqF (by decide) (by decide) (by decide), z_eqF (by decide) (by decide) (by decide), z_eqT (by decide) rfl]
  by_cases a : zH b p = -1
  · rw [z_eqT xH a, a]; rfl
  · rw [z_eqF xH (by decide) a]
    by_cases c : zH b p = -2
    · rw [z_eqT xH c, c]; rfl
    · rw [z_eqF xH (by decide) c, zof_0 (by omega)]
theorem l_pf4 (hB : zB b) (p0 : 0 ≤ p) (p1 : p < zn b) : f0_parcelFact b p 4 = some (if zH b p = -1 then -1 else zRk (zK b) (zH b) (zn b) (zH b p) p) := by
  have xH : xin (zH b p) := hB.xH p p0 p1
  unfold f0_parcelFact
  rw [z_bind (hB.getH p0 p1), z_eqF (by decide) (by decide) (by decide), z_eqF (by decide) (by decide) (by decide), z_eqF (by decide) (by decide) (by decide), z_eqF (by decide) (by decide) (by decide)]
  by_cases a : zH b p = -1
  · rw [z_eqT xH a, if_pos a]
  · rw [z_eqF xH (by decide) a, if_neg a, z_bind (z0_placeOf hB p0 p1)]
    rfl
end LPF

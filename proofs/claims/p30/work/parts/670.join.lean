/-! Two runs become one: the homes, the rows of the runs. -/
def zMv (H : Int → Int) (a c n : Int) : Int → Int := fun p => if 0 ≤ p ∧ p < n ∧ H p = a then c else H p
theorem zMv_0 (H : Int → Int) (a c : Int) : zMv H a c 0 = H := by
  funext p
  unfold zMv
  rw [if_neg (by omega)]
theorem zMv_at {H : Int → Int} {a c l : Int} : zMv H a c l l = H l := by
  unfold zMv
  rw [if_neg (by omega)]
theorem zMv_y {H : Int → Int} {a c l : Int} (h0 : 0 ≤ l) (h : H l = a) : x_up (zMv H a c l) l c = zMv H a c (l + 1) := by
  funext p
  unfold x_up zMv
  by_cases e : p = l
  · subst e; rw [if_pos rfl, if_pos ⟨h0, by omega, h⟩]
  · rw [if_neg e]
    by_cases g : 0 ≤ p ∧ p < l ∧ H p = a
    · rw [if_pos g, if_pos ⟨g.1, by omega, g.2.2⟩]
    · rw [if_neg g, if_neg (fun w => g ⟨w.1, by omega, w.2.2⟩)]
theorem zMv_n {H : Int → Int} {a c l : Int} (h : ¬ H l = a) : zMv H a c (l + 1) = zMv H a c l := by
  funext p
  unfold zMv
  by_cases e : p = l
  · subst e; rw [if_neg (fun w => h w.2.2), if_neg (by omega)]
  · by_cases g : 0 ≤ p ∧ p < l ∧ H p = a
    · rw [if_pos ⟨g.1, by omega, g.2.2⟩, if_pos g]
    · rw [if_neg (fun w => g ⟨w.1, by omega, w.2.2⟩), if_neg g]
theorem zMv_in {H : Int → Int} {a c n p : Int} (p0 : 0 ≤ p) (p1 : p < n) : zMv H a c n p = if H p = a then c else H p := by
  unfold zMv
  by_cases g : H p = a
  · rw [if_pos ⟨p0, p1, g⟩, if_pos g]
  · rw [if_neg (fun w => g w.2.2), if_neg g]
theorem z0_moveL {b : BoatS} {n a c : Int} {H : Int → Int} (hn : n ≤ 120) (ha : xin a) (hx : ∀ p, 0 ≤ p → p < n → xin (H p)) : ∀ (m fu : Nat) (l : Int), 0 ≤ l → l + (m : Int) = n → m < fu → f0_move_L2 a c fu l (s0_homs b (n, zMv H a c l)) = some (s0_homs b (n, zMv H a c n))
  | 0, 0, _, _, _, h => by omega
  | m + 1, 0, _, _, _, h => by omega
  | 0, fu + 1, l, l0, hl, _ => by
    unfold f0_move_L2
    rw [z_bind (show f2_size 120 (g0_homs (s0_homs b (n, zMv H a c l))) = some n from rfl), z_ltF ⟨by omega, by omega⟩ ⟨by omega, by omega⟩ (by omega), show l = n by omega]
  | m + 1, fu + 1, l, l0, hl, h => by
    unfold f0_move_L2
    have eg : f2_get 120 (g0_homs (s0_homs b (n, zMv H a c l))) l = some (H l) := by
      have := z2_get (N := 120) (r := (n, zMv H a c l)) (i := l) (by show n ≤ (120 : Int); omega) (by show n ≤ 100000; omega) l0 (by show l < n; omega)
      rw [show (n, zMv H a c l).2 l = H l from zMv_at] at this
      exact this
    rw [z_bind (show f2_size 120 (g0_homs (s0_homs b (n, zMv H a c l))) = some n from rfl), z_ltT ⟨by omega, by omega⟩ ⟨by omega, by omega⟩ (by omega), z_bind eg]
    by_cases e : H l = a
    · have es : f2_set 120 (g0_homs (s0_homs b (n, zMv H a c l))) l c = some (n, zMv H a c (l + 1)) := by
        have := z2_set (N := 120) (r := (n, zMv H a c l)) (i := l) (v := c) (by show n ≤ (120 : Int); omega) (by show n ≤ 100000; omega) l0 (by show l < n; omega)
        rw [show x_up (n, zMv H a c l).2 l c = zMv H a c (l + 1) from zMv_y l0 e] at this
        exact this
      rw [z_eqT (hx l l0 (by omega)) e, z_bind es]
      exact z0_moveL hn ha hx m fu (l + 1) (by omega) (by omega) (by omega)
    · rw [z_eqF (hx l l0 (by omega)) ha e, ← zMv_n (c := c) e]
      exact z0_moveL hn ha hx m fu (l + 1) (by omega) (by omega) (by omega)
theorem zB.xH {b : BoatS} (h : zB b) : ∀ p, 0 ≤ p → p < zn b → xin (zH b p) := fun p p0 p1 => by
  have := h.1.2.2 p p0 p1
  exact ⟨by omega, by omega⟩
theorem z0_move {b : BoatS} (hB : zB b) {a c : Int} (ha : xin a) : f0_move b a c = some (s0_homs b (zn b, zMv (zH b) a c (zn b))) := by
  have h0 := hB.1.1
  have h1 := hB.1.2.1
  have e := z0_moveL (b := b) (n := zn b) (a := a) (c := c) (H := zH b) h1 ha hB.xH (zn b).toNat xFU 0 (by omega) (by omega) (by unfold xFU; omega)
  rw [zMv_0, ← hB.eH] at e
  exact e
theorem zRem_at {j R k : Int} (j0 : 0 ≤ j) (j1 : j < R) (k0 : 0 ≤ k) (k1 : k < R - 1) : ∃ k', 0 ≤ k' ∧ k' < R ∧ k' ≠ j ∧ ((j ≤ k ∧ k' = k + 1) ∨ (k < j ∧ k' = k)) ∧ ∀ f : Int → Int, zRem f j R k = f k' := by
  by_cases h : j ≤ k
  · exact ⟨k + 1, by omega, by omega, by omega, Or.inl ⟨h, rfl⟩, fun f => by unfold zRem; rw [if_pos ⟨h, k1⟩]⟩
  · exact ⟨k, k0, by omega, by omega, Or.inr ⟨by omega, rfl⟩, fun f => by unfold zRem; rw [if_neg (fun w => h w.1)]⟩
theorem zRem_to {j R k : Int} (j0 : 0 ≤ j) (j1 : j < R) (k0 : 0 ≤ k) (k1 : k < R) (h : k ≠ j) : ∃ k', 0 ≤ k' ∧ k' < R - 1 ∧ ((k < j ∧ k' = k) ∨ (j < k ∧ k' = k - 1)) ∧ ∀ f : Int → Int, zRem f j R k' = f k := by
  by_cases g : k < j
  · exact ⟨k, k0, by omega, Or.inl ⟨g, rfl⟩, fun f => by unfold zRem; rw [if_neg (by omega)]⟩
  · exact ⟨k - 1, by omega, by omega, Or.inr ⟨by omega, rfl⟩, fun f => by unfold zRem; rw [if_pos ⟨by omega, by omega⟩, show k - 1 + 1 = k by omega]⟩
theorem zRun.inj {H W F S G : Int → Int} {n R flo i j : Int} (h : zRun H W F S G n R flo) (i0 : 0 ≤ i) (i1 : i < R) (j0 : 0 ≤ j) (j1 : j < R) (e : F i = F j) : i = j := by
  rcases Int.lt_trichotomy i j with q | q | q
  · have := h.2.1 i j i0 q j1; omega
  · exact q
  · have := h.2.1 j i j0 q i1; omega
theorem zRun_join {H W F S G : Int → Int} {n R flo i j : Int} (h : zRun H W F S G n R flo) (i0 : 0 ≤ i) (ij : i < j) (j1 : j < R) : zRun (zMv H (F j) (F i) n) W (zRem F j R) (zRem S j R) (zRem (x_up G i (G i + G j)) j R) n (R - 1) flo := by
  have hinj := fun {i j : Int} => h.inj (i := i) (j := j)
  obtain ⟨h1, h2, h3, h4⟩ := h
  have hi := h3 i i0 (by omega)
  have hj := h3 j (by omega) j1
  have ne : ¬ F i = F j := fun z => by have := hinj i0 (by omega) (by omega) j1 z; omega
  refine ⟨⟨by omega, h1.2.1, h1.2.2⟩, fun a c a0 ac c1 => ?_, fun k k0 k1 => ?_, fun p p0 p1 hp => ?_⟩
  · obtain ⟨a', a1, a2, a3, a4, a5⟩ := zRem_at (j := j) (R := R) (by omega) j1 a0 (by omega)
    obtain ⟨c', c3, c4, c5, c6, c7⟩ := zRem_at (j := j) (R := R) (by omega) j1 (by omega : 0 ≤ c) (by omega)
    rw [a5, c7]
    exact h2 a' c' a1 (by omega) c4
  · obtain ⟨k', a1, a2, a3, a4, a5⟩ := zRem_at (j := j) (R := R) (by omega) j1 k0 (by omega)
    have hk := h3 k' a1 a2
    have nk : ¬ F k' = F j := fun z => a3 (hinj a1 a2 (by omega) j1 z)
    rw [a5, a5, a5]
    refine ⟨hk.1, hk.2.1, hk.2.2.1, hk.2.2.2.1, ?_, ?_⟩
    · by_cases e : k' = i
      · subst e
        rw [z_upS, hi.2.2.2.2.1, hj.2.2.2.2.1, ← xS_add]
        exact xS_congr _ _ (fun p p0 p1 => by
          rw [zMv_in p0 (by omega)]
          by_cases z : H p = F j
          · rw [if_pos z, if_neg (by omega), if_pos z, if_pos rfl]; omega
          · rw [if_neg z, if_neg z]; omega)
      · rw [z_upN e, hk.2.2.2.2.1]
        have nki : ¬ F k' = F i := fun z => e (hinj a1 a2 i0 (by omega) z)
        exact xS_congr _ _ (fun p p0 p1 => by
          rw [zMv_in p0 (by omega)]
          by_cases z : H p = F j
          · rw [if_pos z, if_neg (by omega), if_neg (by omega)]
          · rw [if_neg z])
    · obtain ⟨q, q0, q1, hq⟩ := hk.2.2.2.2.2
      exact ⟨q, q0, q1, by rw [zMv_in q0 q1, if_neg (by omega)]; exact hq⟩
  · rw [zMv_in p0 p1] at hp ⊢
    by_cases z : H p = F j
    · rw [if_pos z]
      obtain ⟨k', a1, a2, a3, a4⟩ := zRem_to (j := j) (R := R) (k := i) (by omega) j1 i0 (by omega) (by omega)
      exact ⟨k', a1, a2, a4 F⟩
    · rw [if_neg z] at hp ⊢
      obtain ⟨k, k0, k1, hk⟩ := h4 p p0 p1 hp
      obtain ⟨k', a1, a2, a3, a4⟩ := zRem_to (j := j) (R := R) (k := k) (by omega) j1 k0 k1 (fun w => z (by rw [← hk, w]))
      exact ⟨k', a1, a2, by rw [a4]; exact hk⟩
def bJoin (b : BoatS) (i j : Int) : BoatS := mkB (g0_room b) (if g0_opn b = zF b i ∨ g0_opn b = zF b j then -1 else g0_opn b) (g0_flo b) (g0_cst b + (zG b i + zG b j)) (g0_mrg b + 1) (g0_stm b) (g0_brk b) (zn b, zK b) (zn b, zW b) (zn b, zMv (zH b) (zF b j) (zF b i) (zn b)) (zn b, zO b) (zR b - 1, zRem (zF b) j (zR b)) (zR b - 1, zRem (zS b) j (zR b)) (zR b - 1, zRem (x_up (zG b) i (zG b i + zG b j)) j (zR b))
theorem zP_mv {K W H : Int → Int} {n a c : Int} (h : zP K W H n) (h0 : -2 ≤ c) (h1 : c ≤ 1000000000) : zP K W (zMv H a c n) n := by
  refine ⟨h.1, h.2.1, fun q q0 q1 => ?_⟩
  have hq := h.2.2 q q0 q1
  refine ⟨hq.1, hq.2.1, hq.2.2.1, hq.2.2.2.1, ?_⟩
  rw [zMv_in q0 q1]
  by_cases e : H q = a
  · rw [if_pos e]; exact ⟨h0, h1⟩
  · rw [if_neg e]; exact hq.2.2.2.2
theorem zC_mv {H : Int → Int} {n a c : Int} (ha : ¬ a = -1) (hc : ¬ c = -1) : zC (zMv H a c n) (-1) n = zC H (-1) n := xS_congr _ _ (fun p p0 p1 => by
  rw [zMv_in p0 (by omega)]
  by_cases e : H p = a
  · rw [if_pos e, if_neg hc, if_neg (by omega)]
  · rw [if_neg e])
theorem zB_join {b : BoatS} (hB : zB b) {i j : Int} (i0 : 0 ≤ i) (ij : i < j) (j1 : j < zR b) : zB (bJoin b i j) := by
  have hi := hB.2.2.2.1.2.2.1 i i0 (by omega)
  have hj := hB.2.2.2.1.2.2.1 j (by omega) j1
  have hf := hB.2.2.2.1.1
  have hr := hB.2.2.2.2.2
  refine zB_mk (zP_mv hB.1 (by omega) (by omega)) hB.2.2.1 (zRun_join hB.2.2.2.1 i0 ij j1) ?_ hr.1 hr.2.1 ?_
  · by_cases e : g0_opn b = zF b i ∨ g0_opn b = zF b j
    · rw [if_pos e]; exact Or.inl rfl
    · rw [if_neg e]
      rcases hB.2.2.2.2.1 with q | ⟨k, q0, q1, q2⟩
      · exact Or.inl q
      · obtain ⟨k', a1, a2, a3, a4⟩ := zRem_to (j := j) (R := zR b) (k := k) (by omega) j1 q0 q1 (fun w => e (Or.inr (by rw [← q2, w])))
        exact Or.inr ⟨k', a1, a2, by rw [a4]; exact q2⟩
  · rw [zC_mv (by omega) (by omega)]; exact hr.2.2
theorem zB.idxAt {b : BoatS} (hB : zB b) {i : Int} (i0 : 0 ≤ i) (i1 : i < zR b) : f2_indexOf 120 (g0_flts b) (zF b i) = some i := by
  have hR := hB.R_le
  have h120 := hB.1.2.1
  exact z2_idxAt hB.R0 (by show zR b ≤ (120 : Int); omega) (by show zR b ≤ 1000; omega) (hB.xF i i0 i1) hB.xF (zIdx_at hB.2.2.2.1.2.1 i0 i1)
theorem z0_remF {b : BoatS} {R j : Int} {F S G : Int → Int} (eF : g0_flts b = (R, F)) (eS : g0_strs b = (R, S)) (eG : g0_rwts b = (R, G)) (h1 : R ≤ 120) (j0 : 0 ≤ j) (j1 : j < R) : f0_removeFloat b j = some (s0_rwts (s0_strs (s0_flts b (R - 1, zRem F j R)) (R - 1, zRem S j R)) (R - 1, zRem G j R)) := by
  unfold f0_removeFloat
  rw [eF, eS, eG]
  rw [z_bind (z2_remove (N := 120) (r := (R, F)) (by show R ≤ (120 : Int); omega) (by show R ≤ 1000; omega) j0 j1)]
  rw [z_bind (z2_remove (N := 120) (r := (R, S)) (by show R ≤ (120 : Int); omega) (by show R ≤ 1000; omega) j0 j1)]
  rw [z_bind (z2_remove (N := 120) (r := (R, G)) (by show R ≤ (120 : Int); omega) (by show R ≤ 1000; omega) j0 j1)]
theorem z0_join {b : BoatS} (hB : zB b) {i j p q : Int} (i0 : 0 ≤ i) (ij : i < j) (j1 : j < zR b) (hpq : (p = zF b i ∧ q = zF b j) ∨ (p = zF b j ∧ q = zF b i)) : f0_join b p q = some (zG b i + zG b j, bJoin b i j) := by
  have hR := hB.R_le
  have h120 := hB.1.2.1
  have lt := hB.2.2.2.1.2.1 i j i0 ij j1
  have xi := hB.xF i i0 (by show i < zR b; omega)
  have xj := hB.xF j (by omega) j1
  have xi' : xin (zF b i) := xi
  have xj' : xin (zF b j) := xj
  have e1 : x_min p q = some (zF b i) := by
    rcases hpq with ⟨h1, h2⟩ | ⟨h1, h2⟩
    · rw [h1, h2, z_min xi' xj', if_neg (by omega)]
    · rw [h1, h2, z_min xj' xi', if_pos (by omega)]
  have e2 : x_max p q = some (zF b j) := by
    rcases hpq with ⟨h1, h2⟩ | ⟨h1, h2⟩
    · rw [h1, h2, z_max xi' xj', if_pos (by omega)]
    · rw [h1, h2, z_max xj' xi', if_neg (by omega)]
  have ei : f2_increase 120 (g0_rwts b) i (zG b j) = some (zR b, x_up (zG b) i (zG b i + zG b j)) := by
    rw [hB.eG]
    exact zg_inc (by omega) i0 (by omega)
  have eg : f2_get 120 (zR b - 1, zRem (x_up (zG b) i (zG b i + zG b j)) j (zR b)) i = some (zG b i + zG b j) := by
    rw [zg_get (by omega) i0 (by omega)]
    unfold zRem
    rw [if_neg (by omega), z_upS]
  have xp : xin p := by rcases hpq with ⟨h1, h2⟩ | ⟨h1, h2⟩ <;> rw [h1] <;> assumption
  have xq : xin q := by rcases hpq with ⟨h1, h2⟩ | ⟨h1, h2⟩ <;> rw [h2] <;> assumption
  unfold f0_join
  rw [z_bind e1, z_bind e2, z_bind (z0_move hB xj')]
  simp only [se0I, se0R, gm0]
  rw [z_bind (hB.idxAt i0 (by omega)), z_bind (hB.idxAt (i := j) (by omega) j1), z_bind (hB.getG (i := j) (by omega) j1), z_bind ei]
  rw [z_bind (z0_remF (R := zR b) (j := j) (F := zF b) (S := zS b) (G := x_up (zG b) i (zG b i + zG b j)) (by simp only [gm0]) (by simp only [gm0]; exact hB.eS) (by simp only [gm0]) (by omega) (by omega) j1)]
  simp only [se0I, se0R, gm0]
  unfold bJoin
  by_cases c1 : g0_opn b = p
  · rw [z_eqT hB.opn_x c1, z_bind eg, if_pos (by omega), hB.eW, hB.eO]
  · rw [z_eqF hB.opn_x xp c1]
    by_cases c2 : g0_opn b = q
    · rw [z_eqT hB.opn_x c2, z_bind eg, if_pos (by omega), hB.eW, hB.eO]
    · rw [z_eqF hB.opn_x xq c2, z_bind eg, if_neg (by omega), hB.eW, hB.eO]

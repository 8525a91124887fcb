/-! The law's row of parcels: what its readers answer. -/
def lQ (va K W H : Int → Int) (n : Int) : Prop := (0 ≤ n ∧ n ≤ 60) ∧ ∀ p, 0 ≤ p → p < n → va p = lpk (K p) (W p) (H p) ∧ (0 ≤ K p ∧ K p ≤ 999) ∧ (1 ≤ W p ∧ W p ≤ 50) ∧ -2 ≤ H p ∧ H p ≤ 4000
section LQ
variable {va vh K W H : Int → Int} {n : Int}
theorem lq_ld (h : lQ va K W H n) {p : Int} (p0 : 0 ≤ p) (p1 : p < n) : x_ld 64 va p = some (lpk (K p) (W p) (H p)) := by
  have hn := h.1
  rw [z_ldT p0 (by show p < (64 : Int); omega), (h.2 p p0 p1).1]
theorem lq_key (h : lQ va K W H n) {p : Int} (p0 : 0 ≤ p) (p1 : p < n) : fL_key va p = some (K p) := by
  obtain ⟨-, k1, w1, h1⟩ := h.2 p p0 p1
  have r1 := zwh_rng (H p)
  have r2 := zof_rng h1.2
  unfold fL_key
  rw [z_bind (lq_ld h p0 p1), lb_and1023]
  unfold lpk
  exact congrArg some (by omega)
theorem lq_weight (h : lQ va K W H n) {p : Int} (p0 : 0 ≤ p) (p1 : p < n) : fL_weight va p = some (W p) := by
  obtain ⟨-, k1, w1, h1⟩ := h.2 p p0 p1
  have r1 := zwh_rng (H p)
  have r2 := zof_rng h1.2
  unfold fL_weight
  rw [z_bind (lq_ld h p0 p1)]
  unfold lpk
  rw [lb_shr10 (by omega) (by omega), lb_and63]
  exact congrArg some (by omega)
theorem lq_where (h : lQ va K W H n) {p : Int} (p0 : 0 ≤ p) (p1 : p < n) : fL_where va p = some (zwh (H p)) := by
  obtain ⟨-, k1, w1, h1⟩ := h.2 p p0 p1
  have r1 := zwh_rng (H p)
  have r2 := zof_rng h1.2
  unfold fL_where
  rw [z_bind (lq_ld h p0 p1)]
  unfold lpk
  rw [lb_shr16 (by omega) (by omega), lb_and3]
  exact congrArg some (by omega)
theorem lq_run (h : lQ va K W H n) {p : Int} (p0 : 0 ≤ p) (p1 : p < n) : fL_run va p = some (zof (H p)) := by
  obtain ⟨-, k1, w1, h1⟩ := h.2 p p0 p1
  have r1 := zwh_rng (H p)
  have r2 := zof_rng h1.2
  unfold fL_run
  rw [z_bind (lq_ld h p0 p1)]
  unfold lpk
  rw [lb_shr18 (by omega) (by omega)]
  exact congrArg some (by omega)
theorem lq_up (h : lQ va K W H n) {p r : Int} (r0 : -2 ≤ r) (r1 : r ≤ 4000) : lQ (x_up va p (lpk (K p) (W p) r)) K W (x_up H p r) n := by
  refine ⟨h.1, fun q q0 q1 => ?_⟩
  have hq := h.2 q q0 q1
  by_cases e : q = p
  · subst e
    rw [z_upS, z_upS]
    exact ⟨rfl, hq.2.1, hq.2.2.1, r0, r1⟩
  · rw [z_upN e, z_upN e]
    exact hq
theorem lq_goes (h : lQ va K W H n) {p e r h' : Int} (p0 : 0 ≤ p) (p1 : p < n) (he : e = zwh h') (hr : r = zof h') (h1 : h' ≤ 4000) : fL_goes va p e r = some (x_up va p (lpk (K p) (W p) h')) := by
  have hn := h.1
  obtain ⟨-, k1, w1, -⟩ := h.2 p p0 p1
  subst he; subst hr
  unfold fL_goes
  rw [z_bind (lq_key h p0 p1), z_bind (lq_weight h p0 p1), z_bind (lb_pack k1.1 k1.2 w1.1 w1.2 h1), z_bind (z_stT p0 (by show p < (64 : Int); omega))]
theorem lq_less (h : lQ va K W H n) {p q : Int} (p0 : 0 ≤ p) (p1 : p < n) (q0 : 0 ≤ q) (q1 : q < n) : fL_isLess va p q = some (if zl K p q then 1 else 0) := by
  have hn := h.1
  have hp := (h.2 p p0 p1).2.1
  have hq := (h.2 q q0 q1).2.1
  unfold fL_isLess
  rw [z_bind (lq_key h p0 p1), z_bind (lq_key h q0 q1)]
  by_cases c : K p = K q
  · rw [z_eqT ⟨by omega, by omega⟩ c]
    by_cases d : p < q
    · rw [z_ltT ⟨by omega, by omega⟩ ⟨by omega, by omega⟩ d, if_pos (Or.inr ⟨c, d⟩)]
    · rw [z_ltF ⟨by omega, by omega⟩ ⟨by omega, by omega⟩ d, if_neg (by omega)]
  · rw [z_eqF ⟨by omega, by omega⟩ ⟨by omega, by omega⟩ c, z_bind (lq_key h p0 p1), z_bind (lq_key h q0 q1)]
    by_cases a : K p < K q
    · rw [z_ltT ⟨by omega, by omega⟩ ⟨by omega, by omega⟩ a, if_pos (Or.inl a)]
    · rw [z_ltF ⟨by omega, by omega⟩ ⟨by omega, by omega⟩ a, if_neg (by omega)]
theorem l_wxin (h : Int) : xin (zwh h) := zwh_xin h
/-- one home told by where and run -/
theorem l_home {g h : Int} (g0 : -2 ≤ g) (h0 : -2 ≤ h) (hn : ¬ g = h) (e : zwh g = zwh h) : ¬ zof g = zof h := fun q => hn ((zwo_inj g0 h0).mp ⟨e, q⟩)
theorem lq_manyL (hA : lQ va K W H n) (hv : vh 0 = n) {e r h : Int} (he : e = zwh h) (hr : r = zof h) (h0 : -2 ≤ h) (h1 : h ≤ 4000) : ∀ (m fu : Nat) (acc i : Int), 0 ≤ i → i + (m : Int) = n → m < fu → fL_many_L6 va vh e r fu acc i = some (acc + xS (fun p => if H p = h then 1 else 0) i m)
  | 0, 0, _, _, _, _, q => by omega
  | m + 1, 0, _, _, _, _, q => by omega
  | 0, fu + 1, acc, i, i0, i1, _ => by
    have hn := hA.1
    unfold fL_many_L6
    rw [z_bind (z_ldT (by decide) (by decide)), hv, z_ltF ⟨by omega, by omega⟩ ⟨by omega, by omega⟩ (by omega)]
    show some acc = some (acc + 0)
    rw [Int.add_zero]
  | m + 1, fu + 1, acc, i, i0, i1, q => by
    have hn := hA.1
    have hi := (hA.2 i i0 (by omega)).2.2.2
    have r2 := zof_rng hi.2
    have r3 := zof_rng h1
    have ih := fun acc' => lq_manyL hA hv he hr h0 h1 m fu acc' (i + 1) (by omega) (by omega) (by omega)
    have fin : ∀ x : Int, acc + x + xS (fun p => if H p = h then 1 else 0) (i + 1) m = acc + (x + xS (fun p => if H p = h then 1 else 0) (i + 1) m) := fun x => by omega
    unfold fL_many_L6
    rw [z_bind (z_ldT (by decide) (by decide)), hv, z_ltT ⟨by omega, by omega⟩ ⟨by omega, by omega⟩ (by omega), z_bind (lq_where hA i0 (by omega))]
    show _ = some (acc + ((if H i = h then 1 else 0) + xS (fun p => if H p = h then 1 else 0) (i + 1) m))
    by_cases c : H i = h
    · rw [if_pos c, he, hr, z_eqT (l_wxin _) (by rw [c]), z_bind (lq_run hA i0 (by omega)), z_eqT ⟨by omega, by omega⟩ (by rw [c]), ← he, ← hr, ih, fin]
    · rw [if_neg c]
      by_cases d : zwh (H i) = zwh h
      · rw [he, hr, z_eqT (l_wxin _) d, z_bind (lq_run hA i0 (by omega)), z_eqF ⟨by omega, by omega⟩ ⟨by omega, by omega⟩ (l_home hi.1 h0 c d), ← he, ← hr, ih, fin]
      · rw [he, hr, z_eqF (l_wxin _) (l_wxin _) d, ← he, ← hr, ih, fin]
theorem lq_many (hA : lQ va K W H n) (hv : vh 0 = n) {e r h : Int} (he : e = zwh h) (hr : r = zof h) (h0 : -2 ≤ h) (h1 : h ≤ 4000) : fL_many va vh e r = some (zC H h n) := by
  have hn := hA.1
  unfold fL_many zC
  rw [lq_manyL hA hv he hr h0 h1 n.toNat xFU 0 0 (by omega) (by omega) (by unfold xFU; omega), Int.zero_add]
theorem lq_weighsL (hA : lQ va K W H n) (hv : vh 0 = n) {r : Int} (h0 : 0 ≤ r) (h1 : r ≤ 4000) : ∀ (m fu : Nat) (acc i : Int), 0 ≤ i → i + (m : Int) = n → m < fu → fL_weighs_L5 va vh r fu acc i = some (acc + xS (fun p => if H p = r then W p else 0) i m)
  | 0, 0, _, _, _, _, q => by omega
  | m + 1, 0, _, _, _, _, q => by omega
  | 0, fu + 1, acc, i, i0, i1, _ => by
    have hn := hA.1
    unfold fL_weighs_L5
    rw [z_bind (z_ldT (by decide) (by decide)), hv, z_ltF ⟨by omega, by omega⟩ ⟨by omega, by omega⟩ (by omega)]
    show some acc = some (acc + 0)
    rw [Int.add_zero]
  | m + 1, fu + 1, acc, i, i0, i1, q => by
    have hn := hA.1
    have hi := (hA.2 i i0 (by omega)).2.2.2
    have r2 := zof_rng hi.2
    have ih := fun acc' => lq_weighsL hA hv h0 h1 m fu acc' (i + 1) (by omega) (by omega) (by omega)
    have fin : ∀ x : Int, acc + x + xS (fun p => if H p = r then W p else 0) (i + 1) m = acc + (x + xS (fun p => if H p = r then W p else 0) (i + 1) m) := fun x => by omega
    unfold fL_weighs_L5
    rw [z_bind (z_ldT (by decide) (by decide)), hv, z_ltT ⟨by omega, by omega⟩ ⟨by omega, by omega⟩ (by omega), z_bind (lq_where hA i0 (by omega))]
    show _ = some (acc + ((if H i = r then W i else 0) + xS (fun p => if H p = r then W p else 0) (i + 1) m))
    by_cases a : 0 ≤ H i
    · rw [z_eqT (l_wxin _) ((zwh_1 hi.1).mpr a), z_bind (lq_run hA i0 (by omega)), zof_0 a]
      by_cases c : H i = r
      · rw [if_pos c, z_eqT ⟨by omega, by omega⟩ c, z_bind (lq_weight hA i0 (by omega)), ih, fin]
      · rw [if_neg c, z_eqF ⟨by omega, by omega⟩ ⟨by omega, by omega⟩ c, ih, fin]
    · rw [if_neg (by omega), z_eqF (l_wxin _) (by decide) (fun z => a ((zwh_1 hi.1).mp z)), ih, fin]
theorem lq_weighs (hA : lQ va K W H n) (hv : vh 0 = n) {r : Int} (h0 : 0 ≤ r) (h1 : r ≤ 4000) : fL_weighs va vh r = some (xS (fun p => if H p = r then W p else 0) 0 n.toNat) := by
  have hn := hA.1
  unfold fL_weighs
  rw [lq_weighsL hA hv h0 h1 n.toNat xFU 0 0 (by omega) (by omega) (by unfold xFU; omega), Int.zero_add]
/-! the k-th of a home -/
def zRk (K H : Int → Int) (n h t : Int) : Int := xS (fun q => if H q = h ∧ zl K q t then 1 else 0) 0 n.toNat
theorem zRk_rng (K H : Int → Int) {n : Int} (hn : 0 ≤ n) (h t : Int) : 0 ≤ zRk K H n h t ∧ zRk K H n h t ≤ n := xS_ind (P := fun q => H q = h ∧ zl K q t) hn
theorem lq_rkL1 (hA : lQ va K W H n) (hv : vh 0 = n) {e r h k p : Int} {kk : Int → Option Int} (he : e = zwh h) (hr : r = zof h) (h0 : -2 ≤ h) (h1 : h ≤ 4000) (hk : xin k) (p0 : 0 ≤ p) (p1 : p < n) : ∀ (m fu : Nat) (acc i : Int), 0 ≤ i → i + (m : Int) = n → m < fu → 0 ≤ acc → acc ≤ i → fL_ranked_L44 va vh e r k p 1 kk fu acc i = if acc + xS (fun q => if H q = h ∧ zl K q p then 1 else 0) i m = k then some p else kk (p + 1)
  | 0, 0, _, _, _, _, q, _, _ => by omega
  | m + 1, 0, _, _, _, _, q, _, _ => by omega
  | 0, fu + 1, acc, i, i0, i1, _, a0, a1 => by
    have hn := hA.1
    unfold fL_ranked_L44
    rw [z_bind (z_ldT (by decide) (by decide)), hv, z_ltF ⟨by omega, by omega⟩ ⟨by omega, by omega⟩ (by omega), z_eqF (by decide) (by decide) (by decide)]
    show _ = if acc + 0 = k then some p else kk (p + 1)
    rw [Int.add_zero]
    by_cases c : acc = k
    · rw [if_pos c, z_eqT ⟨by omega, by omega⟩ c]
    · rw [if_neg c, z_eqF ⟨by omega, by omega⟩ hk c]
  | m + 1, fu + 1, acc, i, i0, i1, q, a0, a1 => by
    have hn := hA.1
    have hi := (hA.2 i i0 (by omega)).2.2.2
    have r2 := zof_rng hi.2
    have r3 := zof_rng h1
    have ih := fun acc' b0 b1 => lq_rkL1 (kk := kk) hA hv he hr h0 h1 hk p0 p1 m fu acc' (i + 1) (by omega) (by omega) (by omega) b0 b1
    have fin : ∀ x : Int, acc + x + xS (fun q => if H q = h ∧ zl K q p then 1 else 0) (i + 1) m = acc + (x + xS (fun q => if H q = h ∧ zl K q p then 1 else 0) (i + 1) m) := fun x => by omega
    unfold fL_ranked_L44
    rw [z_bind (z_ldT (by decide) (by decide)), hv, z_ltT ⟨by omega, by omega⟩ ⟨by omega, by omega⟩ (by omega), z_eqF (by decide) (by decide) (by decide), z_bind (lq_where hA i0 (by omega))]
    show _ = if acc + ((if H i = h ∧ zl K i p then 1 else 0) + xS (fun q => if H q = h ∧ zl K q p then 1 else 0) (i + 1) m) = k then some p else kk (p + 1)
    by_cases c : H i = h
    · rw [he, hr, z_eqT (l_wxin _) (by rw [c]), z_bind (lq_run hA i0 (by omega)), z_eqT ⟨by omega, by omega⟩ (by rw [c]), z_bind (lq_less hA i0 (by omega) p0 p1), ← he, ← hr]
      by_cases d : zl K i p
      · rw [if_pos d, if_pos (show H i = h ∧ zl K i p from ⟨c, d⟩), z_eqF (by decide) (by decide) (by decide), ih _ (by omega) (by omega), fin]
      · rw [if_neg d, if_neg (show ¬ (H i = h ∧ zl K i p) from fun w => d w.2), z_eqT (by decide) rfl, ih _ (by omega) (by omega), fin]
    · rw [if_neg (show ¬ (H i = h ∧ zl K i p) from fun w => c w.1)]
      by_cases d : zwh (H i) = zwh h
      · rw [he, hr, z_eqT (l_wxin _) d, z_bind (lq_run hA i0 (by omega)), z_eqF ⟨by omega, by omega⟩ ⟨by omega, by omega⟩ (l_home hi.1 h0 c d), ← he, ← hr, ih _ (by omega) (by omega), fin]
      · rw [he, hr, z_eqF (l_wxin _) (l_wxin _) d, ← he, ← hr, ih _ (by omega) (by omega), fin]
theorem lq_rkL0 (hA : lQ va K W H n) (hv : vh 0 = n) {e r k p : Int} {kk : Int → Option Int} (fu : Nat) : fL_ranked_L44 va vh e r k p 0 kk (fu + 1) 0 0 = kk (p + 1) := by
  have hn := hA.1
  unfold fL_ranked_L44
  rw [z_bind (z_ldT (by decide) (by decide)), hv]
  by_cases c : 0 < n
  · rw [z_ltT (by decide) ⟨by omega, by omega⟩ c, z_eqT (by decide) rfl, z_eqT (by decide) rfl]
  · rw [z_ltF (by decide) ⟨by omega, by omega⟩ c, z_eqT (by decide) rfl]
theorem lq_rkO (hA : lQ va K W H n) (hv : vh 0 = n) {e r h k : Int} (he : e = zwh h) (hr : r = zof h) (h0 : -2 ≤ h) (h1 : h ≤ 4000) (hk : xin k) : ∀ (m fu : Nat) (i : Int), 0 ≤ i → i + (m : Int) = n → m < fu → (∀ j, 0 ≤ j → j < i → H j = h → ¬ zRk K H n h j = k) → ∃ t, fL_ranked_L3 va vh e r k fu i = some t ∧ ((0 ≤ t ∧ t < n ∧ H t = h ∧ zRk K H n h t = k) ∨ (t = -1 ∧ ∀ j, 0 ≤ j → j < n → H j = h → ¬ zRk K H n h j = k))
  | 0, 0, _, _, _, q, _ => by omega
  | m + 1, 0, _, _, _, q, _ => by omega
  | 0, fu + 1, i, i0, i1, _, hno => by
    have hn := hA.1
    unfold fL_ranked_L3
    rw [z_bind (z_ldT (by decide) (by decide)), hv, z_ltF ⟨by omega, by omega⟩ ⟨by omega, by omega⟩ (by omega)]
    exact ⟨-1, rfl, Or.inr ⟨rfl, fun j a b => hno j a (by omega)⟩⟩
  | m + 1, fu + 1, i, i0, i1, q, hno => by
    have hn := hA.1
    have hi := (hA.2 i i0 (by omega)).2.2.2
    have r2 := zof_rng hi.2
    have r3 := zof_rng h1
    have ih := fun g => lq_rkO hA hv he hr h0 h1 hk m fu (i + 1) (by omega) (by omega) (by omega) g
    have inn := fun kk => lq_rkL1 (kk := kk) hA hv he hr h0 h1 hk i0 (by omega : i < n) n.toNat xFU 0 0 (by omega) (by omega) (by unfold xFU; omega) (by omega) (by omega)
    rw [Int.zero_add] at inn
    unfold fL_ranked_L3
    rw [z_bind (z_ldT (by decide) (by decide)), hv, z_ltT ⟨by omega, by omega⟩ ⟨by omega, by omega⟩ (by omega), z_bind (lq_where hA i0 (by omega))]
    by_cases c : H i = h
    · rw [he, hr, z_eqT (l_wxin _) (by rw [c]), z_bind (lq_run hA i0 (by omega)), z_eqT ⟨by omega, by omega⟩ (by rw [c]), ← he, ← hr, inn]
      by_cases d : xS (fun q => if H q = h ∧ zl K q i then 1 else 0) 0 n.toNat = k
      · rw [if_pos d]
        exact ⟨i, rfl, Or.inl ⟨i0, by omega, c, d⟩⟩
      · rw [if_neg d]
        exact ih (fun j a b hj => by
          by_cases z : j = i
          · rw [z]; exact d
          · exact hno j a (by omega) hj)
    · have go := ih (fun j a b hj => hno j a (by
        by_cases z : j = i
        · rw [z] at hj; exact absurd hj c
        · omega) hj)
      by_cases d : zwh (H i) = zwh h
      · rw [he, hr, z_eqT (l_wxin _) d, z_bind (lq_run hA i0 (by omega)), z_eqF ⟨by omega, by omega⟩ ⟨by omega, by omega⟩ (l_home hi.1 h0 c d), ← he, ← hr, show xFU = 99999 + 1 from rfl, lq_rkL0 hA hv]
        exact go
      · rw [he, hr, z_eqF (l_wxin _) (l_wxin _) d, ← he, ← hr, show xFU = 99999 + 1 from rfl, lq_rkL0 hA hv]
        exact go
theorem lq_ranked (hA : lQ va K W H n) (hv : vh 0 = n) {e r h k : Int} (he : e = zwh h) (hr : r = zof h) (h0 : -2 ≤ h) (h1 : h ≤ 4000) (hk : xin k) : ∃ t, fL_ranked va vh e r k = some t ∧ ((0 ≤ t ∧ t < n ∧ H t = h ∧ zRk K H n h t = k) ∨ (t = -1 ∧ ∀ j, 0 ≤ j → j < n → H j = h → ¬ zRk K H n h j = k)) := by
  have hn := hA.1
  exact lq_rkO hA hv he hr h0 h1 hk n.toNat xFU 0 (by omega) (by omega) (by unfold xFU; omega) (fun j a b => by omega)
theorem lq_rankedAt (hA : lQ va K W H n) (hv : vh 0 = n) {e r h t : Int} (he : e = zwh h) (hr : r = zof h) (h0 : -2 ≤ h) (h1 : h ≤ 4000) (t0 : 0 ≤ t) (t1 : t < n) (ht : H t = h) : fL_ranked va vh e r (zRk K H n h t) = some t := by
  have hn := hA.1
  have rg := zRk_rng K H hn.1 h t
  obtain ⟨u, e1, hu⟩ := lq_ranked hA hv he hr h0 h1 (k := zRk K H n h t) ⟨by omega, by omega⟩
  rcases hu with ⟨u0, u1, u2, u3⟩ | ⟨_, u3⟩
  · rw [e1, zRank_inj u0 u1 u2 t0 t1 ht u3]
  · exact absurd rfl (u3 t t0 t1 ht)
end LQ
/-- ranks and the count -/
theorem zRk_all {K H : Int → Int} {n h t : Int} (t0 : 0 ≤ t) (t1 : t < n) (ht : H t = h) (hl : ∀ q, 0 ≤ q → q < n → H q = h → q = t ∨ zl K q t) : zRk K H n h t = zC H h n - 1 := by
  have e : zC H h n = xS (fun q => (if H q = h ∧ zl K q t then 1 else 0) + (if q = t then 1 else 0)) 0 n.toNat := xS_congr _ _ (fun q q0 q1 => by
    by_cases c : H q = h
    · rw [if_pos c]
      by_cases d : q = t
      · subst d
        rw [if_neg (fun w => zl_irr w.2), if_pos rfl]; rfl
      · rw [if_pos ⟨c, (hl q q0 (by omega) c).resolve_left d⟩, if_neg d]; rfl
    · rw [if_neg c, if_neg (fun w => c w.1), if_neg (fun z => c (by rw [z]; exact ht))]; rfl)
  rw [xS_add, xS_point (f := fun q => if q = t then 1 else 0) (k := t) n.toNat 0 t0 (by omega) (fun p _ _ z => if_neg z), if_pos rfl] at e
  unfold zRk
  omega
theorem zRk_lt {K H : Int → Int} {n h t : Int} (t0 : 0 ≤ t) (t1 : t < n) (ht : H t = h) : zRk K H n h t < zC H h n := by
  have e : xS (fun q => (if H q = h ∧ zl K q t then 1 else 0) + (if q = t then 1 else 0)) 0 n.toNat ≤ zC H h n := xS_le _ _ (fun q q0 q1 => by
    by_cases d : q = t
    · subst d
      rw [if_neg (fun w => zl_irr w.2), if_pos rfl, if_pos ht]; omega
    · rw [if_neg d]
      by_cases c : H q = h
      · rw [if_pos c]; split <;> omega
      · rw [if_neg c, if_neg (fun w => c w.1)]; omega)
  rw [xS_add, xS_point (f := fun q => if q = t then 1 else 0) (k := t) n.toNat 0 t0 (by omega) (fun p _ _ z => if_neg z), if_pos rfl] at e
  unfold zRk
  omega
theorem zRk_mono {K H : Int → Int} {n h p r : Int} (p0 : 0 ≤ p) (p1 : p < n) (hp : H p = h) (hl : zl K p r) : zRk K H n h p < zRk K H n h r := by
  have e : xS (fun q => (if H q = h ∧ zl K q p then 1 else 0) + (if q = p then 1 else 0)) 0 n.toNat ≤ zRk K H n h r := xS_le _ _ (fun q _ _ => by
    by_cases z : q = p
    · subst z
      rw [if_neg (fun w => zl_irr w.2), if_pos rfl, if_pos ⟨hp, hl⟩]; omega
    · rw [if_neg z]
      by_cases w : H q = h ∧ zl K q p
      · rw [if_pos w, if_pos ⟨w.1, zl_trans w.2 hl⟩]; omega
      · rw [if_neg w]; split <;> omega)
  rw [xS_add, xS_point (f := fun q => if q = p then 1 else 0) (k := p) n.toNat 0 p0 (by omega) (fun q _ _ z => if_neg z), if_pos rfl] at e
  unfold zRk at e ⊢
  omega
theorem zRk_0 {K H : Int → Int} {n h t : Int} (hl : ∀ q, 0 ≤ q → q < n → H q = h → q = t ∨ zl K t q) : zRk K H n h t = 0 := by
  unfold zRk
  rw [xS_congr (g := fun _ => 0) n.toNat 0 (fun q q0 q1 => if_neg (fun w => by
    rcases hl q q0 (by omega) w.1 with z | z
    · rw [z] at w; exact zl_irr w.2
    · exact zl_asym z w.2)), xS_zero]

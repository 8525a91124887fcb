/-! The text: all orders; carrying them out. -/
def zOr (t : TextS) (o : Int → Int) (k : Int) : Prop := zSz3 t k ∧ ∀ i, 0 ≤ i → i < k → zKd ((g3_knds t).2 i) ((g3_fsts t).2 i) ((g3_snds t).2 i) (o (3 * i)) (o (3 * i + 1)) (o (3 * i + 2))
def coTail (l1 : Int) (x1 : ModS) : Option (Int × ModS) :=
  x_eq (g5_wra x1) (-1) (
          (f5_save x1).bind fun x10 =>
          f5_carryOut_L87 l1 xFU 0 x10) (
          x_lt (g5_wra x1) (g5_typ x1) (
            some (((-10) - g5_wra x1), x1)) (
            some (((-10) - g5_typ x1), x1)))
theorem coTail_err {t : TextS} {x : ModS} (h : zTx t x) {l1 a w : Int} {o : Int → Int} (w0 : 0 ≤ w) (w1 : w ≤ zLL t) : coTail l1 (zXX x a w o) = some (-10 - w, zXX x a w o) := by
  have h1 := h.1; have h2 := h.2.2.1
  unfold coTail
  rw [zXX_gw, zXX_gt, z_eqF ⟨by omega, by omega⟩ (by decide) (by omega)]
  by_cases g : w < g5_typ x
  · rw [z_ltT ⟨by omega, by omega⟩ ⟨by omega, by omega⟩ g]
  · rw [z_ltF ⟨by omega, by omega⟩ ⟨by omega, by omega⟩ g, show g5_typ x = w by omega]
theorem coL17_err {t : TextS} {x : ModS} (h : zTx t x) {l1 a w : Int} {o : Int → Int} {fu : Nat} (a0 : 0 ≤ a) (a1 : a ≤ 1000) (w0 : 0 ≤ w) (w1 : w ≤ zLL t) : f5_carryOut_L17 (fu + 1) l1 (zXX x a w o) = some (-10 - w, zXX x a w o) := by
  have h1 := h.1; have h2 := h.2.2.1; have h3 := h.2.1
  have e := coTail_err (l1 := l1) (a := a) (o := o) h w0 w1
  unfold coTail at e
  unfold f5_carryOut_L17
  by_cases g : a < g5_typ x
  · rw [zXX_gp, zXX_gt, z_ltT ⟨by omega, by omega⟩ ⟨by omega, by omega⟩ g, zXX_gw, z_eqF ⟨by omega, by omega⟩ (by decide) (by omega)]
    rw [zXX_gw, zXX_gt] at e
    exact e
  · rw [zXX_gp, zXX_gt, z_ltF ⟨by omega, by omega⟩ ⟨by omega, by omega⟩ g]
    rw [zXX_gt] at e
    exact e
theorem zTT_eta {t : TextS} : zTT t (g3_pos t) (g3_err t) = t := rfl
theorem zs_readL {x : ModS} : ∀ (m fu fu2 : Nat) (t : TextS) (p k : Int) (o : Int → Int), zTx t x → 0 ≤ p → p ≤ zLL t → zLL t - p ≤ (m : Int) → 0 ≤ k → 2 * k ≤ p → zOr t o k → m + 1 < fu → m + 1 < fu2 → ∃ t' e, f3_readOrders_L33 fu k (zTT t p (-1)) = some (e, t') ∧ g3_byts t' = g3_byts t ∧ ((e = -1 ∧ ∃ k' o', f5_carryOut_L17 fu2 k (zXX x p (-1) o) = ((f5_save (zXX x (zLL t) (-1) o')).bind fun x10 => f5_carryOut_L87 k' xFU 0 x10) ∧ zOr t' o' k' ∧ 0 ≤ k' ∧ k' ≤ 50) ∨ (0 ≤ e ∧ e ≤ zLL t ∧ ∃ a' o', f5_carryOut_L17 fu2 k (zXX x p (-1) o) = some (-10 - e, zXX x a' e o')))
  | _, 0, _, _, _, _, _, _, _, _, _, _, _, _, h, _ => by omega
  | _, _ + 1, 0, _, _, _, _, _, _, _, _, _, _, _, _, h => by omega
  | m, fu + 1, fu2 + 1, t, p, k, o, h, p0, p1, hm, k0, kp, ho, f1, f2 => by
    have h1 := h.1; have h2 := h.2.2.1; have h3 := h.2.1
    by_cases g : p < zLL t
    · obtain ⟨t', a', w', o', q1, q2, q3⟩ := zs_order h (k := k) (o := o) p0 g k0 (by omega) ho.1
      obtain ⟨s1, s2, s3, s4, s5⟩ := q3
      have hcl : f3_readOrders_L33 (fu + 1) k (zTT t p (-1)) = f3_readOrders_L33 fu (k + 1) t' := by
        conv => lhs; unfold f3_readOrders_L33
        rw [z_ltT ⟨by omega, by omega⟩ (by decide) (by omega), zTT_ge, z_eqT (by decide) rfl, z_bind (show f2_size 100 (g3_byts (zTT t p (-1))) = some (zLL t) from rfl), zTT_gp, z_ltT ⟨by omega, by omega⟩ ⟨by omega, by omega⟩ g, z_bind q1]
      have hmo : f5_carryOut_L17 (fu2 + 1) k (zXX x p (-1) o) = f5_carryOut_L17 fu2 (k + 1) (zXX x a' w' o') := by
        conv => lhs; unfold f5_carryOut_L17
        rw [zXX_gp, zXX_gt, z_ltT ⟨by omega, by omega⟩ ⟨by omega, by omega⟩ (by omega), zXX_gw, z_eqT (by decide) rfl, z_bind q2]
      rw [hcl, hmo]
      have eL : zLL t' = zLL t := congrArg Prod.fst s3
      have hx' : zTx t' x := by
        obtain ⟨b1, b2, b3, b4⟩ := h
        refine ⟨by rw [eL]; exact b1, b2, b3, fun i i0 i1 => ?_⟩
        rw [show zBB t' = zBB t from congrArg Prod.snd s3]
        exact b4 i i0 i1
      rcases s1 with ⟨e1, w1, ea, g0, g1⟩ | ⟨ew, e0, e1, g0, g1, a0, a1⟩
      · obtain ⟨z1, z2, z3, z4⟩ := s5 e1
        have et : t' = zTT t' (g3_pos t') (-1) := by
          have := (zTT_eta (t := t')).symm
          rw [e1] at this; exact this
        subst w1
        subst ea
        cases m with
        | zero => omega
        | succ m =>
          have ho' : zOr t' o' (k + 1) := by
            refine ⟨z2, fun i i0 i1 => ?_⟩
            by_cases d : i = k
            · rw [d]; exact z4
            · obtain ⟨y1, y2, y3⟩ := z3 i (by omega)
              rw [y1, y2, y3, s4 _ (by omega), s4 _ (by omega), s4 _ (by omega)]
              exact ho.2 i i0 (by omega)
          obtain ⟨t2, e2, r1, r2, r3⟩ := zs_readL m fu fu2 t' (g3_pos t') (k + 1) o' hx' g0 (by rw [eL]; exact g1) (by rw [eL]; omega) (by omega) (by omega) ho' (by omega) (by omega)
          rw [← et] at r1
          rw [eL] at r3
          exact ⟨t2, e2, r1, r2.trans s3, r3⟩
      · cases fu with
        | zero => omega
        | succ fu =>
          cases fu2 with
          | zero => omega
          | succ fu2 =>
            refine ⟨t', g3_err t', ?_, s3, Or.inr ⟨e0, e1, a', o', ?_⟩⟩
            · unfold f3_readOrders_L33
              rw [z_ltT ⟨by omega, by omega⟩ (by decide) (by omega), z_eqF ⟨by omega, by omega⟩ (by decide) (by omega)]
            · rw [ew]
              exact coL17_err h a0 (by omega) (by omega) (by omega)
    · have ep : p = zLL t := by omega
      refine ⟨zTT t p (-1), -1, ?_, rfl, Or.inl ⟨rfl, k, o, ?_, ho, k0, by omega⟩⟩
      · unfold f3_readOrders_L33
        by_cases d : k < 100
        · rw [z_ltT ⟨by omega, by omega⟩ (by decide) d, zTT_ge, z_eqT (by decide) rfl, z_bind (show f2_size 100 (g3_byts (zTT t p (-1))) = some (zLL t) from rfl), zTT_gp, z_ltF ⟨by omega, by omega⟩ ⟨by omega, by omega⟩ g]
        · omega
      · unfold f5_carryOut_L17
        rw [zXX_gp, zXX_gt, z_ltF ⟨by omega, by omega⟩ ⟨by omega, by omega⟩ (by omega), zXX_gw, z_eqT (by decide) rfl, ep]
theorem zs_place {b : BoatS} {x : ModS} (hB : zB b) (hR : zRel b (g5_now x)) {v : Int} (hv : xin v) : ∃ t, f2_indexOf 120 (g0_flts b) v = some t ∧ f5_placeOf x v = some t ∧ f0_hasRun b v = some (if t = -1 then 0 else 1) ∧ (t = -1 ∨ (0 ≤ t ∧ t < zR b ∧ zF b t = v)) := by
  have hRl := hB.R_le
  have h120 := hB.1.2.1
  obtain ⟨t, e, ht⟩ := hB.idx hv
  obtain ⟨t2, e2, ht2⟩ := z5_place' (F := zF b) hR.2.2.2.2.2.2.2.2.1 (fun k k0 k1 => (hR.2.2.2.2.2.2.2.2.2 k k0 k1).1) hB.R0 (by omega) hv hB.xF
  rw [zIdx_uniq ht2 ht] at e2
  have hr : t = -1 ∨ (0 ≤ t ∧ t < zR b ∧ zF b t = v) := by
    rcases ht with ⟨a, _⟩ | ⟨a, c, d, _⟩
    · exact Or.inl a
    · exact Or.inr ⟨a, c, d⟩
  refine ⟨t, e, e2, ?_, hr⟩
  unfold f0_hasRun
  rw [z_bind e]
  by_cases g : t = -1
  · rw [z_eqT ⟨by omega, by omega⟩ g, if_pos g]
  · rw [z_eqF ⟨by omega, by omega⟩ (by decide) g, if_neg g]
theorem s4_bobo {y : BrS} {a c : BoatS} : s4_bo (s4_bo y a) c = s4_bo y c := rfl
theorem zs_merge {b : BoatS} {x : ModS} {c : Int} (hJ : zJ b (g5_now x) c) (hc : c + 6000 < 1000000000) {p q i j : Int} (hi : 0 ≤ i ∧ i < zR b ∧ zF b i = p) (hj : 0 ≤ j ∧ j < zR b ∧ zF b j = q) (ne : ¬ p = q) : ∃ v b' now', f0_join b p q = some (v, b') ∧ f5_mergeBoth x p q = some (v, s5_now x now') ∧ zJ b' now' (c + 6000) ∧ 2 ≤ v ∧ v ≤ 6000 := by
  rcases Int.lt_trichotomy i j with z | z | z
  · obtain ⟨now', a1, a2, a3, a4, a5⟩ := zs_join hJ hc hi.1 z hj.2.1 (p := p) (q := q) (Or.inl ⟨hi.2.2.symm, hj.2.2.symm⟩)
    exact ⟨_, _, now', a1, a2, a3, a4, a5⟩
  · exact absurd (by rw [← hi.2.2, ← hj.2.2, z]) ne
  · obtain ⟨now', a1, a2, a3, a4, a5⟩ := zs_join hJ hc hj.1 z hi.2.1 (p := p) (q := q) (Or.inr ⟨hi.2.2.symm, hj.2.2.symm⟩)
    exact ⟨_, _, now', a1, a2, a3, a4, a5⟩
/-- one order, on each side -/
theorem zs_obey {y : BrS} {x : ModS} {c k kd f s : Int} (hJ : zJ (g4_bo y) (g5_now x) c) (hc : c + 6000 < 1000000000) (k0 : 0 ≤ k) (k1 : k < 50) (hk : zKd kd f s (g5_ors x (3 * k)) (g5_ors x (3 * k + 1)) (g5_ors x (3 * k + 2))) : ∃ r b' now', f4_obey y kd f s = some (r, s4_bo y b') ∧ f5_isDone x k = some (r, s5_now x now') ∧ zJ b' now' (c + 6000) ∧ (r = 0 ∨ r = 1) := by
  have hB := hJ.1
  have hR := hJ.2.1
  have h0 := hB.1.1
  have h120 := hB.1.2.1
  have hRl := hB.R_le
  have hR0 := hB.R0
  have l0 : x_ld 150 (g5_ors x) (3 * k) = some (g5_ors x (3 * k)) := z_ldT (by omega) (by show _ < (150 : Int); omega)
  have l1 : x_ld 150 (g5_ors x) (3 * k + 1) = some (g5_ors x (3 * k + 1)) := z_ldT (by omega) (by show _ < (150 : Int); omega)
  have l2 : x_ld 150 (g5_ors x) (3 * k + 2) = some (g5_ors x (3 * k + 2)) := z_ldT (by omega) (by show _ < (150 : Int); omega)
  have e8 : x_ld 730 (g5_now x) 8 = some (zR (g4_bo y)) := by rw [z_ldT (by decide) (by decide), hR.2.2.2.2.2.2.2.2.1]
  have same : zJ (g4_bo y) (g5_now x) (c + 6000) := zJ_le hJ (by omega)
  have ey : s4_bo y (g4_bo y) = y := rfl
  have ex : s5_now x (g5_now x) = x := rfl
  obtain ⟨hk0, hk⟩ := hk
  unfold f4_obey f5_isDone
  rw [z_bind l1, z_bind l2, z_bind l0, ← hk0]
  rcases hk with e | e | ⟨e, f1, s1, f2, f3, s2, s3⟩ | ⟨e, f1, s1, f2, f3, s2, s3⟩ | ⟨e, f1, f2, f3⟩
  · subst e
    obtain ⟨b', now', t1, t2, t3, t4, t5⟩ := zs_throwAll hJ (by omega)
    rw [z_eqT (by decide) rfl, z_eqT (by decide) rfl, z_bind2 t1, z_bind t2]
    exact ⟨1, b', now', rfl, rfl, zJ_le t3 (by omega), Or.inr rfl⟩
  · subst e
    rw [z_eqF (a := 108) (b := 101) (by decide) (by decide) (by decide), z_eqT (a := 108) (b := 108) (by decide) rfl, z_eqF (a := 108) (b := 101) (by decide) (by decide) (by decide), z_eqT (a := 108) (b := 108) (by decide) rfl, z_bind (show f0_runs (g4_bo y) = some (zR (g4_bo y)) from rfl), z_bind e8]
    by_cases g : zR (g4_bo y) < 2
    · rw [z_ltT ⟨by omega, by omega⟩ (by decide) g, z_ltF (by decide) ⟨by omega, by omega⟩ (by omega)]
      exact ⟨0, g4_bo y, g5_now x, rfl, rfl, same, Or.inl rfl⟩
    · obtain ⟨v, b', now', t1, t2, t3, t4, t5⟩ := zs_light hJ hc (by omega)
      rw [z_ltF ⟨by omega, by omega⟩ (by decide) g, z_ltT (by decide) ⟨by omega, by omega⟩ (by omega), z_bind2 t1, z_bind2 t2]
      dsimp only
      rw [z_ltF ⟨by omega, by omega⟩ (by decide) (by omega)]
      exact ⟨1, b', now', rfl, rfl, t3, Or.inr rfl⟩
  · subst e
    rw [z_eqF (a := 109) (b := 101) (by decide) (by decide) (by decide), z_eqF (a := 109) (b := 108) (by decide) (by decide) (by decide), z_eqT (a := 109) (b := 109) (by decide) rfl, z_eqF (a := 109) (b := 101) (by decide) (by decide) (by decide), z_eqF (a := 109) (b := 108) (by decide) (by decide) (by decide), z_eqF (a := 109) (b := 112) (by decide) (by decide) (by decide), z_eqF (a := 109) (b := 115) (by decide) (by decide) (by decide), ← f1, ← s1]
    have xf : xin f := ⟨by omega, by omega⟩
    have xs : xin s := ⟨by omega, by omega⟩
    obtain ⟨i, i1, i2, i3, i4⟩ := zs_place hB hR xf
    obtain ⟨j, j1, j2, j3, j4⟩ := zs_place hB hR xs
    have xi : xin i := by rcases i4 with z | z <;> exact ⟨by omega, by omega⟩
    have xj : xin j := by rcases j4 with z | z <;> exact ⟨by omega, by omega⟩
    have hw : f5_whyNoMerge x f s = some (if i = -1 ∨ j = -1 then 1 else if f = s then 2 else 0) := by
      unfold f5_whyNoMerge
      rw [z_bind i2]
      by_cases a : i = -1
      · rw [z_eqT xi a, if_pos (Or.inl a)]
      · rw [z_eqF xi (by decide) a, z_bind j2]
        by_cases d : j = -1
        · rw [z_eqT xj d, if_pos (Or.inr d)]
        · rw [z_eqF xj (by decide) d, if_neg (fun z => z.elim a d)]
          by_cases e : f = s
          · rw [z_eqT xf e, if_pos e]
          · rw [z_eqF xf xs e, if_neg e]
    rw [z_bind hw]
    by_cases e : f = s
    · have ne : ¬ (if i = -1 ∨ j = -1 then (1 : Int) else if f = s then 2 else 0) = 0 := by
        by_cases a : i = -1 ∨ j = -1
        · rw [if_pos a]; decide
        · rw [if_neg a, if_pos e]; decide
      have xn : xin (if i = -1 ∨ j = -1 then (1 : Int) else if f = s then 2 else 0) := by
        by_cases a : i = -1 ∨ j = -1
        · rw [if_pos a]; decide
        · rw [if_neg a, if_pos e]; decide
      rw [z_eqT xf e, z_eqF xn (by decide) ne]
      exact ⟨0, g4_bo y, g5_now x, rfl, rfl, same, Or.inl rfl⟩
    · rw [z_eqF xf xs e, z_bind i3]
      by_cases a : i = -1
      · rw [if_pos a, z_eqT (by decide) rfl, if_pos (Or.inl a), z_eqF (by decide) (by decide) (by decide)]
        exact ⟨0, g4_bo y, g5_now x, rfl, rfl, same, Or.inl rfl⟩
      · rw [if_neg a, z_eqF (by decide) (by decide) (by decide), z_bind j3]
        by_cases d : j = -1
        · rw [if_pos d, z_eqT (by decide) rfl, if_pos (Or.inr d), z_eqF (by decide) (by decide) (by decide)]
          exact ⟨0, g4_bo y, g5_now x, rfl, rfl, same, Or.inl rfl⟩
        · obtain ⟨v, b', now', t1, t2, t3, t4, t5⟩ := zs_merge hJ hc (i4.resolve_left a) (j4.resolve_left d) e
          rw [if_neg d, z_eqF (by decide) (by decide) (by decide), if_neg (fun z => z.elim a d), if_neg e, z_eqT (by decide) rfl, z_bind2 t1, z_bind2 t2]
          dsimp only
          rw [z_ltF ⟨by omega, by omega⟩ (by decide) (by omega)]
          exact ⟨1, b', now', rfl, rfl, t3, Or.inr rfl⟩
  · subst e
    rw [z_eqF (a := 112) (b := 101) (by decide) (by decide) (by decide), z_eqF (a := 112) (b := 108) (by decide) (by decide) (by decide), z_eqF (a := 112) (b := 109) (by decide) (by decide) (by decide), z_eqT (a := 112) (b := 112) (by decide) rfl, z_eqF (a := 112) (b := 101) (by decide) (by decide) (by decide), z_eqF (a := 112) (b := 108) (by decide) (by decide) (by decide), z_eqT (a := 112) (b := 112) (by decide) rfl, ← f1, ← s1, z_bind (z0_allLoaded hB), z_bind (z5_n hR.1)]
    by_cases g : zn (g4_bo y) < 120
    · obtain ⟨v, b', now', t1, t2, t3, _⟩ := zs_take hJ (by omega) g f2 f3 s2 s3
      rw [if_pos g, z_eqT (by decide) rfl, z_eqF ⟨by omega, by omega⟩ (by decide) (by omega), z_bind2 t1, z_bind2 t2]
      exact ⟨1, b', now', rfl, rfl, zJ_le t3 (by omega), Or.inr rfl⟩
    · rw [if_neg g, z_eqF (by decide) (by decide) (by decide), z_eqT ⟨by omega, by omega⟩ (by omega)]
      exact ⟨0, g4_bo y, g5_now x, rfl, rfl, same, Or.inl rfl⟩
  · subst e
    obtain ⟨v, b', now', t1, t2, t3, t4, t5⟩ := zs_storm hJ hc f2 f3
    rw [z_eqF (a := 115) (b := 101) (by decide) (by decide) (by decide), z_eqF (a := 115) (b := 108) (by decide) (by decide) (by decide), z_eqF (a := 115) (b := 109) (by decide) (by decide) (by decide), z_eqF (a := 115) (b := 112) (by decide) (by decide) (by decide), z_eqT (a := 115) (b := 115) (by decide) rfl, z_eqF (a := 115) (b := 101) (by decide) (by decide) (by decide), z_eqF (a := 115) (b := 108) (by decide) (by decide) (by decide), z_eqF (a := 115) (b := 112) (by decide) (by decide) (by decide), z_eqT (a := 115) (b := 115) (by decide) rfl, ← f1, z_bind2 t1, z_bind2 t2]
    dsimp only
    rw [z_ltF ⟨by omega, by omega⟩ (by decide) (by omega)]
    exact ⟨1, b', now', rfl, rfl, t3, Or.inr rfl⟩
theorem zs_carryL {K : Int} {t : TextS} {o : Int → Int} (K1 : K ≤ 50) (ht : zOr t o K) : ∀ (m fu fu2 : Nat) (l : Int) (y : BrS) (x : ModS) (c : Int), g4_tx y = t → g5_ors x = o → zJ (g4_bo y) (g5_now x) c → 0 ≤ l → l + (m : Int) = K → m < fu → m < fu2 → c + 6000 * (m : Int) < 1000000000 → ∃ v b' now', f4_carryOut_L31 fu l y = some (v, s4_bo y b') ∧ f5_carryOut_L87 K fu2 l x = some (v, s5_now x now') ∧ zJ b' now' (c + 6000 * (m : Int)) ∧ 0 ≤ v ∧ v ≤ 50
  | 0, 0, _, _, _, _, _, _, _, _, _, _, h, _, _ => by omega
  | m + 1, 0, _, _, _, _, _, _, _, _, _, _, h, _, _ => by omega
  | 0, _ + 1, 0, _, _, _, _, _, _, _, _, _, _, h, _ => by omega
  | m + 1, _ + 1, 0, _, _, _, _, _, _, _, _, _, _, h, _ => by omega
  | 0, fu + 1, fu2 + 1, l, y, x, c, hy, hx, hJ, l0, lm, _, _, _ => by
    have ez : f3_orders (g4_tx y) = some K := by
      rw [hy]
      exact congrArg some ht.1.1
    refine ⟨l, g4_bo y, g5_now x, ?_, ?_, zJ_le hJ (by omega), l0, by omega⟩
    · unfold f4_carryOut_L31
      rw [z_bind ez, z_ltF ⟨by omega, by omega⟩ ⟨by omega, by omega⟩ (by omega)]
      rfl
    · unfold f5_carryOut_L87
      rw [z_ltF ⟨by omega, by omega⟩ ⟨by omega, by omega⟩ (by omega)]
      rfl
  | m + 1, fu + 1, fu2 + 1, l, y, x, c, hy, hx, hJ, l0, lm, h1, h2, hc => by
    have ez : f3_orders (g4_tx y) = some K := by
      rw [hy]
      exact congrArg some ht.1.1
    obtain ⟨⟨z1, z2, z3⟩, z4⟩ := ht
    have g1 : f3_kind (g4_tx y) l = some ((g3_knds t).2 l) := by
      unfold f3_kind
      rw [hy, z_bind (z2_get (N := 50) (r := g3_knds t) (by show _ ≤ (50 : Int); omega) (by omega) l0 (by omega))]
    have g2 : f3_first (g4_tx y) l = some ((g3_fsts t).2 l) := by
      unfold f3_first
      rw [hy, z_bind (z2_get (N := 50) (r := g3_fsts t) (by show _ ≤ (50 : Int); omega) (by omega) l0 (by omega))]
    have g3 : f3_second (g4_tx y) l = some ((g3_snds t).2 l) := by
      unfold f3_second
      rw [hy, z_bind (z2_get (N := 50) (r := g3_snds t) (by show _ ≤ (50 : Int); omega) (by omega) l0 (by omega))]
    have hkd := z4 l l0 (by omega)
    rw [← hx] at hkd
    obtain ⟨r, b1, now1, q1, q2, q3, q4⟩ := zs_obey hJ (by omega) l0 (by omega) hkd
    have hcl : ∀ {res}, (x_eq r 0 (some (l, s4_bo y b1)) (f4_carryOut_L31 fu (l + 1) (s4_bo y b1))) = some res → f4_carryOut_L31 (fu + 1) l y = some res := fun {res} e => by
      conv => lhs; unfold f4_carryOut_L31
      rw [z_bind ez, z_ltT ⟨by omega, by omega⟩ ⟨by omega, by omega⟩ (by omega), z_bind g1, z_bind g2, z_bind g3, z_bind2 q1]
      exact e
    have hmo : ∀ {res}, (x_eq r 0 (some (l, s5_now x now1)) (f5_carryOut_L87 K fu2 (l + 1) (s5_now x now1))) = some res → f5_carryOut_L87 K (fu2 + 1) l x = some res := fun {res} e => by
      conv => lhs; unfold f5_carryOut_L87
      rw [z_ltT ⟨by omega, by omega⟩ ⟨by omega, by omega⟩ (by omega), z_bind2 q2]
      exact e
    rcases q4 with e | e
    · refine ⟨l, b1, now1, hcl ?_, hmo ?_, zJ_le q3 (by omega), l0, by omega⟩
      · rw [z_eqT (by rw [e]; decide) e]
      · rw [z_eqT (by rw [e]; decide) e]
    · obtain ⟨v, b2, now2, r1, r2, r3, r4⟩ := zs_carryL K1 ⟨⟨z1, z2, z3⟩, z4⟩ m fu fu2 (l + 1) (s4_bo y b1) (s5_now x now1) (c + 6000) hy hx q3 (by omega) (by omega) (by omega) (by omega) (by omega)
      refine ⟨v, b2, now2, hcl ?_, hmo ?_, zJ_le r3 (by omega), r4⟩
      · rw [z_eqF (by rw [e]; decide) (by decide) (by omega), r1, s4_bobo]
      · rw [z_eqF (by rw [e]; decide) (by decide) (by omega), r2, ss5_now]

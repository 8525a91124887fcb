/-! A run breaks: the class's side. -/
def zCn (O H : Int → Int) (run j : Int) : Int := xS (fun i => if H (O i) = run then 1 else 0) 0 j.toNat
theorem zCn_0 (O H : Int → Int) (run : Int) : zCn O H run 0 = 0 := rfl
theorem zCn_s {O H : Int → Int} {run j : Int} (j0 : 0 ≤ j) : zCn O H run (j + 1) = zCn O H run j + (if H (O j) = run then 1 else 0) := by
  unfold zCn
  rw [xS_ext j0]
theorem zCn_nn (O H : Int → Int) (run j : Int) : 0 ≤ zCn O H run j := xS_nonneg _ _ (fun p _ _ => by split <;> omega)
theorem zCn_mono {O H : Int → Int} {run i j : Int} (i0 : 0 ≤ i) (ij : i ≤ j) : zCn O H run i ≤ zCn O H run j := by
  unfold zCn
  rw [show j.toNat = i.toNat + (j - i).toNat by omega, xS_app]
  have := xS_nonneg (f := fun i => if H (O i) = run then 1 else 0) (j - i).toNat (0 + (i.toNat : Int)) (fun p _ _ => by split <;> omega)
  omega
theorem zCn_all {K O H : Int → Int} {n run : Int} (hn : 0 ≤ n) (h : zOrd K O n) : zCn O H run n = zC H run n := zPerm_sum h.2 (fun q => if H q = run then 1 else 0)
def zTg (O H : Int → Int) (run s o j : Int) : Int := if H (O j) = run ∧ s ≤ zCn O H run j then o else H (O j)
theorem zC_up {H : Int → Int} {n p r h : Int} (p0 : 0 ≤ p) (p1 : p < n) : zC (x_up H p r) h n = zC H h n + ((if r = h then 1 else 0) - (if H p = h then 1 else 0)) := by
  unfold zC
  have e1 : xS (fun q => if x_up H p r q = h then 1 else 0) 0 n.toNat = xS (x_up (fun q => if H q = h then 1 else 0) p (if r = h then 1 else 0)) 0 n.toNat := xS_congr _ _ (fun q _ _ => by
    by_cases z : q = p
    · rw [z, z_upS, z_upS]
    · rw [z_upN z, z_upN z])
  rw [e1, xS_up _ _ p0 (by omega)]
theorem zC_two {H : Int → Int} {h n : Int} (hc : 2 ≤ zC H h n) : ∃ q r, 0 ≤ q ∧ q < n ∧ 0 ≤ r ∧ r < n ∧ q ≠ r ∧ H q = h ∧ H r = h := by
  obtain ⟨q, q0, q1, hq⟩ := zC_pos (H := H) (h := h) (n := n) (by omega)
  have e := zC_up (H := H) (r := h + 1) (h := h) q0 q1
  rw [if_neg (by omega), if_pos hq] at e
  obtain ⟨r, r0, r1, hr⟩ := zC_pos (H := x_up H q (h + 1)) (h := h) (n := n) (by omega)
  have ne : r ≠ q := fun z => by rw [z, z_upS] at hr; omega
  rw [z_upN ne] at hr
  exact ⟨q, r, q0, q1, r0, r1, fun z => ne z.symm, hq, hr⟩
theorem zB.room_run {b : BoatS} (hB : zB b) {i : Int} (i0 : 0 ≤ i) (i1 : i < zR b) (hc : 2 ≤ zC (zH b) (zF b i) (zn b)) : zR b + 1 ≤ zn b := by
  have h0 := hB.1.1
  have hR0 := hB.R0
  obtain ⟨q, r, q0, q1, r0, r1, ne, hq, hr⟩ := zC_two hc
  have h := hB.2.2.2.1
  have e := z_pigeon (x_up (zH b) q (g0_flo b)) (x_up (zF b) (zR b) (g0_flo b)) (zn b).toNat (zR b + 1).toNat (fun a c a0 ac c1 => by
    have nea : ¬ a = zR b := by omega
    rw [z_upN nea]
    by_cases e : c = zR b
    · rw [e, z_upS]; exact (h.2.2.1 a a0 (by omega)).2.1
    · rw [z_upN e]; exact h.2.1 a c a0 ac (by omega)) (fun k k0 k1 => by
    by_cases e : k = zR b
    · exact ⟨q, q0, by omega, by rw [e, z_upS, z_upS]⟩
    · rw [z_upN e]
      by_cases g : k = i
      · exact ⟨r, r0, by omega, by rw [z_upN (fun z => ne z.symm), g]; exact hr⟩
      · obtain ⟨p, p0, p1, hp⟩ := (h.2.2.1 k k0 (by omega)).2.2.2.2.2
        refine ⟨p, p0, by omega, ?_⟩
        rw [z_upN (fun z => g (h.inj k0 (by omega) i0 i1 (by rw [← hp, z]; exact hq)))]; exact hp)
  omega
def zX (b : BoatS) (Hc Gc : Int → Int) : BoatS := mkB (g0_room b) (g0_opn b) (g0_flo b + 1) (g0_cst b) (g0_mrg b) (g0_stm b) (g0_brk b) (zn b, zK b) (zn b, zW b) (zn b, Hc) (zn b, zO b) (zR b + 1, x_up (zF b) (zR b) (g0_flo b)) (zR b + 1, x_up (zS b) (zR b) 5) (zR b + 1, Gc)
def zSum (H W F G : Int → Int) (n R : Int) : Prop := ∀ k, 0 ≤ k → k < R → G k = xS (fun p => if H p = F k then W p else 0) 0 n.toNat
theorem zSum_mv {H W F G : Int → Int} {n R i t q : Int} (h : zSum H W F G n R) (hinj : ∀ k l, 0 ≤ k → k < R → 0 ≤ l → l < R → F k = F l → k = l) (i0 : 0 ≤ i) (i1 : i < R) (t0 : 0 ≤ t) (t1 : t < R) (it : i ≠ t) (q0 : 0 ≤ q) (q1 : q < n) (hq : H q = F i) : zSum (x_up H q (F t)) W F (x_up (x_up G i (G i + -W q)) t (x_up G i (G i + -W q) t + W q)) n R := by
  intro k k0 k1
  have e1 : xS (fun p => if x_up H q (F t) p = F k then W p else 0) 0 n.toNat = xS (x_up (fun p => if H p = F k then W p else 0) q (if F t = F k then W q else 0)) 0 n.toNat := xS_congr _ _ (fun p _ _ => by
    by_cases z : p = q
    · rw [z, z_upS, z_upS]
    · rw [z_upN z, z_upN z])
  rw [e1, xS_up _ _ q0 (by omega), ← h k k0 k1, hq]
  by_cases c : k = t
  · subst c
    rw [z_upS, z_upN (fun z => it z.symm), if_pos rfl, if_neg (fun z => it (hinj i k i0 i1 k0 k1 z))]; omega
  · rw [z_upN c, if_neg (fun z => c (hinj t k t0 t1 k0 k1 z).symm)]
    by_cases d : k = i
    · subst d; rw [z_upS, if_pos rfl]; omega
    · rw [z_upN d, if_neg (fun z => d (hinj i k i0 i1 k0 k1 z).symm)]; omega
theorem z0_brkL {b : BoatS} (hB : zB b) (hf : g0_flo b < 1000000000) {i s : Int} (i0 : 0 ≤ i) (i1 : i < zR b) (hR : zR b + 1 ≤ zn b) (s0 : 0 ≤ s) (s1 : s ≤ 1000) : ∀ (m fu : Nat) (l t : Int) (Hc Gc : Int → Int), 0 ≤ t → t + (m : Int) = zn b → m < fu → ((zCn (zO b) (zH b) (zF b i) t < s ∧ l = s - zCn (zO b) (zH b) (zF b i) t) ∨ (s ≤ zCn (zO b) (zH b) (zF b i) t ∧ l = 0)) → (∀ j, 0 ≤ j → j < t → Hc (zO b j) = zTg (zO b) (zH b) (zF b i) s (g0_flo b) j) → (∀ j, t ≤ j → j < zn b → Hc (zO b j) = zH b (zO b j)) → zSum Hc (zW b) (x_up (zF b) (zR b) (g0_flo b)) Gc (zn b) (zR b + 1) → ∃ Hc' Gc', f0_breakRun_L38 i (zF b i) (zR b + 1) fu l t (zX b Hc Gc) = some (zX b Hc' Gc') ∧ (∀ j, 0 ≤ j → j < zn b → Hc' (zO b j) = zTg (zO b) (zH b) (zF b i) s (g0_flo b) j) ∧ zSum Hc' (zW b) (x_up (zF b) (zR b) (g0_flo b)) Gc' (zn b) (zR b + 1)
  | 0, 0, _, _, _, _, _, _, h, _, _, _, _ => by omega
  | m + 1, 0, _, _, _, _, _, _, h, _, _, _, _ => by omega
  | 0, fu + 1, l, t, Hc, Gc, t0, tm, _, hl, h1, h2, h3 => by
    have h120 := hB.1.2.1
    refine ⟨Hc, Gc, ?_, fun j j0 j1 => h1 j j0 (by omega), h3⟩
    unfold f0_breakRun_L38
    refine (z_bind (show f2_size 120 (g0_ords (zX b Hc Gc)) = some (zn b) from rfl)).trans ?_
    exact z_ltF ⟨by omega, by omega⟩ ⟨by omega, by omega⟩ (by omega)
  | m + 1, fu + 1, l, t, Hc, Gc, t0, tm, hfu, hl, h1, h2, h3 => by
    have h120 := hB.1.2.1
    have r0 := hB.R0
    have hf0 := hB.2.2.2.1.1.2.1
    have hr := hB.O_rng t0 (by omega)
    have hp := hB.1.2.2 (zO b t) hr.1 hr.2
    have eH : Hc (zO b t) = zH b (zO b t) := h2 t (by omega) (by omega)
    have xF : xin (zF b i) := hB.xF i i0 i1
    have hFi := hB.2.2.2.1.2.2.1 i i0 i1
    have inj : ∀ k l, 0 ≤ k → k < zR b + 1 → 0 ≤ l → l < zR b + 1 → x_up (zF b) (zR b) (g0_flo b) k = x_up (zF b) (zR b) (g0_flo b) l → k = l := fun k l k0 k1 l0 l1 e => by
      by_cases a : k = zR b
      · by_cases c : l = zR b
        · omega
        · rw [a, z_upS, z_upN c] at e
          have := (hB.2.2.2.1.2.2.1 l l0 (by omega)).2.1; omega
      · rw [z_upN a] at e
        by_cases c : l = zR b
        · rw [c, z_upS] at e
          have := (hB.2.2.2.1.2.2.1 k k0 (by omega)).2.1; omega
        · rw [z_upN c] at e
          exact hB.2.2.2.1.inj k0 (by omega) l0 (by omega) e
    have eg : f2_get 120 (g0_homs (zX b Hc Gc)) (zO b t) = some (zH b (zO b t)) := by
      rw [← eH]
      exact zg_get (by omega) hr.1 hr.2
    have eo : f2_get 120 (g0_ords (zX b Hc Gc)) t = some (zO b t) := zg_get (by omega) t0 (by omega)
    have ew : f2_get 120 (g0_weis (zX b Hc Gc)) (zO b t) = some (zW b (zO b t)) := zg_get (by omega) hr.1 hr.2
    have hcs := zCn_s (O := zO b) (H := zH b) (run := zF b i) t0
    have go : ∀ l' Hc' Gc', ((zCn (zO b) (zH b) (zF b i) (t + 1) < s ∧ l' = s - zCn (zO b) (zH b) (zF b i) (t + 1)) ∨ (s ≤ zCn (zO b) (zH b) (zF b i) (t + 1) ∧ l' = 0)) → Hc' (zO b t) = zTg (zO b) (zH b) (zF b i) s (g0_flo b) t → (∀ j, 0 ≤ j → j < zn b → ¬ j = t → Hc' (zO b j) = Hc (zO b j)) → zSum Hc' (zW b) (x_up (zF b) (zR b) (g0_flo b)) Gc' (zn b) (zR b + 1) → _ := fun l' Hc' Gc' a1 a2 a3 a4 => z0_brkL hB hf i0 i1 hR s0 s1 m fu l' (t + 1) Hc' Gc' (by omega) (by omega) (by omega) a1 (fun j j0 j1 => by
        by_cases e : j = t
        · rw [e]; exact a2
        · rw [a3 j j0 (by omega) e]; exact h1 j j0 (by omega)) (fun j j0 j1 => by rw [a3 j (by omega) j1 (by omega)]; exact h2 j (by omega) j1) a4
    unfold f0_breakRun_L38
    by_cases e : zH b (zO b t) = zF b i
    · rw [if_pos e] at hcs
      by_cases g : zCn (zO b) (zH b) (zF b i) t < s
      · obtain ⟨Hc', Gc', q1, q2, q3⟩ := go (l + (-1)) Hc Gc (by omega) (by rw [eH]; unfold zTg; rw [if_neg (by omega)]) (fun _ _ _ _ => rfl) h3
        have cnn := zCn_nn (zO b) (zH b) (zF b i) t
        refine ⟨Hc', Gc', ?_, q2, q3⟩
        rw [← q1]
        refine (z_bind (show f2_size 120 (g0_ords (zX b Hc Gc)) = some (zn b) from rfl)).trans ?_
        refine (z_ltT ⟨by omega, by omega⟩ ⟨by omega, by omega⟩ (by omega)).trans ?_
        refine (z_bind eo).trans ?_
        refine (z_bind eg).trans ?_
        refine (z_eqT ⟨by omega, by omega⟩ e).trans ?_
        exact z_ltT (by decide) ⟨by omega, by omega⟩ (by omega)
      · have hsum := zSum_mv (i := i) (t := zR b) (q := zO b t) h3 inj i0 (by omega) r0 (by omega) (by omega) hr.1 hr.2 (by rw [z_upN (by omega), eH]; exact e)
        rw [z_upS] at hsum
        obtain ⟨Hc', Gc', q1, q2, q3⟩ := go l (x_up Hc (zO b t) (g0_flo b)) _ (by omega) (by rw [z_upS]; unfold zTg; rw [if_pos ⟨e, by omega⟩]) (fun j j0 j1 jt => by
          rw [z_upN (fun z => jt (hB.2.2.1.2.2.2 j t j0 (by omega) t0 (by omega) z))]) hsum
        refine ⟨Hc', Gc', ?_, q2, q3⟩
        rw [← q1]
        refine (z_bind (show f2_size 120 (g0_ords (zX b Hc Gc)) = some (zn b) from rfl)).trans ?_
        refine (z_ltT ⟨by omega, by omega⟩ ⟨by omega, by omega⟩ (by omega)).trans ?_
        refine (z_bind eo).trans ?_
        refine (z_bind eg).trans ?_
        refine (z_eqT ⟨by omega, by omega⟩ e).trans ?_
        refine (z_ltF (by decide) ⟨by omega, by omega⟩ (by omega)).trans ?_
        refine (z_bind ew).trans ?_
        refine (z_bind (show f2_increase 120 (g0_rwts (zX b Hc Gc)) i (-(zW b (zO b t))) = some (zR b + 1, x_up Gc i (Gc i + -(zW b (zO b t)))) from zg_inc (by omega) i0 (by omega))).trans ?_
        unfold zX
        simp only [se0I, se0R, gm0]
        rw [z_bind (z0_tie' (p := zO b t) (k := zR b + 1 - 1) (n := zn b) (R := zR b + 1) (n2 := zn b) (R2 := zR b + 1) (F := x_up (zF b) (zR b) (g0_flo b)) (H := Hc) (W := zW b) (G := x_up Gc i (Gc i + -(zW b (zO b t)))) (by simp only [gm0]) (by simp only [gm0]) (by simp only [gm0]) (by simp only [gm0]) hr.1 hr.2 hr.2 h120 h120 (by omega) (by omega) (by omega) (by omega) (by omega))]
        simp only [se0I, se0R, gm0]
        rw [show zR b + 1 - 1 = zR b by omega, z_upS]
    · rw [if_neg e] at hcs
      obtain ⟨Hc', Gc', q1, q2, q3⟩ := go l Hc Gc (by omega) (by rw [eH]; unfold zTg; rw [if_neg (fun w => e w.1)]) (fun _ _ _ _ => rfl) h3
      refine ⟨Hc', Gc', ?_, q2, q3⟩
      rw [← q1]
      refine (z_bind (show f2_size 120 (g0_ords (zX b Hc Gc)) = some (zn b) from rfl)).trans ?_
      refine (z_ltT ⟨by omega, by omega⟩ ⟨by omega, by omega⟩ (by omega)).trans ?_
      refine (z_bind eo).trans ?_
      refine (z_bind eg).trans ?_
      exact z_eqF ⟨by omega, by omega⟩ xF e
theorem z0_brk {b : BoatS} (hB : zB b) (hf : g0_flo b < 1000000000) {i : Int} (i0 : 0 ≤ i) (i1 : i < zR b) (hc : 2 ≤ zC (zH b) (zF b i) (zn b)) : ∃ Hc Gc, f0_breakRun b i = some (zX b Hc Gc) ∧ (∀ j, 0 ≤ j → j < zn b → Hc (zO b j) = zTg (zO b) (zH b) (zF b i) ((zC (zH b) (zF b i) (zn b) + 1) / 2) (g0_flo b) j) ∧ zSum Hc (zW b) (x_up (zF b) (zR b) (g0_flo b)) Gc (zn b) (zR b + 1) := by
  have hR := hB.room_run i0 i1 hc
  have h0 := hB.1.1
  have h120 := hB.1.2.1
  have r0 := hB.R0
  have cl := zC_le (zH b) (zF b i) h0
  obtain ⟨Hc, Gc, q1, q2, q3⟩ := z0_brkL hB hf i0 i1 hR (s := (zC (zH b) (zF b i) (zn b) + 1) / 2) (by omega) (by omega) (zn b).toNat xFU ((zC (zH b) (zF b i) (zn b) + 1) / 2) 0 (zH b) (x_up (zG b) (zR b) 0) (by omega) (by omega) (by unfold xFU; omega) (Or.inl ⟨by rw [zCn_0]; omega, by rw [zCn_0]; omega⟩) (fun j a c => by omega) (fun _ _ _ => rfl) (fun k k0 k1 => by
    by_cases e : k = zR b
    · rw [e, z_upS, z_upS, xS_congr (g := fun _ => 0) _ _ (fun p p0 p1 => if_neg (by have := hB.H_flo p0 (by omega); omega)), xS_zero]
    · rw [z_upN e, z_upN e]; exact (hB.2.2.2.1.2.2.1 k k0 (by omega)).2.2.2.2.1)
  refine ⟨Hc, Gc, ?_, q2, q3⟩
  rw [← q1]
  unfold f0_breakRun
  rw [z_bind (hB.getF i0 i1), z_bind (z0_countAt hB (h := zF b i) (hB.xF i i0 i1)), z_bind (z_divT (by omega) (by omega) (by decide) (by decide)), z_bind2 (z0_newFloat' hB (by omega))]
  dsimp only
  refine (z_bind (show f2_size 120 (g0_flts (bFlo b)) = some (zR b + 1) from rfl)).trans ?_
  have e : bFlo b = zX b (zH b) (x_up (zG b) (zR b) 0) := by
    unfold zX bFlo
    simp only [se0I, se0R, gm0]
    rw [hB.eH, hB.eW, hB.eO]
  rw [← e]

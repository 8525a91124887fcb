/-! The text: one order. -/
def zKd (kd f s o0 o1 o2 : Int) : Prop := kd = o0 ∧ (kd = 101 ∨ kd = 108 ∨ (kd = 109 ∧ f = o1 ∧ s = o2 ∧ 0 ≤ f ∧ f ≤ 999 ∧ 0 ≤ s ∧ s ≤ 999) ∨ (kd = 112 ∧ f = o1 ∧ s = o2 ∧ 0 ≤ f ∧ f ≤ 999 ∧ 1 ≤ s ∧ s ≤ 50) ∨ (kd = 115 ∧ f = o1 ∧ 1 ≤ f ∧ f ≤ 9))
def zPu (t : TextS) (p k kd a b : Int) : TextS := s3_snds (s3_fsts (s3_knds (zTT t p (-1)) (k + 1, x_up (g3_knds t).2 k kd)) (k + 1, x_up (g3_fsts t).2 k a)) (k + 1, x_up (g3_snds t).2 k b)
def zSz3 (t : TextS) (k : Int) : Prop := (g3_knds t).1 = k ∧ (g3_fsts t).1 = k ∧ (g3_snds t).1 = k
def zOut (t : TextS) (p k : Int) (o : Int → Int) (t' : TextS) (a' w' : Int) (o' : Int → Int) : Prop :=
  zSt (zLL t) (g3_pos t') (g3_err t') a' w' ∧ a' ≤ 400 ∧ g3_byts t' = g3_byts t ∧ (∀ j, j < 3 * k → o' j = o j) ∧ (g3_err t' = -1 → p + 2 ≤ g3_pos t' ∧ zSz3 t' (k + 1) ∧ (∀ i, i < k → (g3_knds t').2 i = (g3_knds t).2 i ∧ (g3_fsts t').2 i = (g3_fsts t).2 i ∧ (g3_snds t').2 i = (g3_snds t).2 i) ∧ zKd ((g3_knds t').2 k) ((g3_fsts t').2 k) ((g3_snds t').2 k) (o' (3 * k)) (o' (3 * k + 1)) (o' (3 * k + 2)))
theorem z3_push {t : TextS} {p e k kd a b : Int} (hz : zSz3 t k) (k0 : 0 ≤ k) (k1 : k < 50) (he : xin e) : (x_eq (g3_err (zTT t p e)) (-1) ((f2_add 50 (g3_knds (zTT t p e)) kd).bind fun r5 => (f2_add 50 (g3_fsts (zTT t p e)) a).bind fun r6 => (f2_add 50 (g3_snds (zTT t p e)) b).bind fun r7 => some (s3_snds (s3_fsts (s3_knds (zTT t p e) r5) r6) r7)) (some (zTT t p e))) = some (if e = -1 then zPu t p k kd a b else zTT t p e) := by
  obtain ⟨h1, h2, h3⟩ := hz
  rw [zTT_ge]
  by_cases g : e = -1
  · have a1 : f2_add 50 (g3_knds (zTT t p e)) kd = some (k + 1, x_up (g3_knds t).2 k kd) := by
      have := z2_add (N := 50) (r := g3_knds t) (v := kd) (by omega) (by show _ < (50 : Int); omega) (by omega) (by decide)
      rw [h1] at this; exact this
    have a2 : f2_add 50 (g3_fsts (zTT t p e)) a = some (k + 1, x_up (g3_fsts t).2 k a) := by
      have := z2_add (N := 50) (r := g3_fsts t) (v := a) (by omega) (by show _ < (50 : Int); omega) (by omega) (by decide)
      rw [h2] at this; exact this
    have a3 : f2_add 50 (g3_snds (zTT t p e)) b = some (k + 1, x_up (g3_snds t).2 k b) := by
      have := z2_add (N := 50) (r := g3_snds t) (v := b) (by omega) (by show _ < (50 : Int); omega) (by omega) (by decide)
      rw [h3] at this; exact this
    rw [z_eqT he g, z_bind a1, z_bind a2, z_bind a3, if_pos g, g]
    rfl
  · rw [z_eqF he (by decide) g, if_neg g]
theorem zs_out {t : TextS} {p k kd a b p' e' a' w' : Int} {o o' : Int → Int} (hs : zSt (zLL t) p' e' a' w') (ha : a' ≤ 400) (ho : ∀ j, j < 3 * k → o' j = o j) (hk : e' = -1 → p + 2 ≤ p' ∧ zKd kd a b (o' (3 * k)) (o' (3 * k + 1)) (o' (3 * k + 2))) : zOut t p k o (if e' = -1 then zPu t p' k kd a b else zTT t p' e') a' w' o' := by
  by_cases g : e' = -1
  · rw [if_pos g]
    obtain ⟨h1, h2⟩ := hk g
    refine ⟨?_, ha, rfl, ho, fun _ => ⟨h1, ⟨rfl, rfl, rfl⟩, fun i hi => ⟨z_upN (by omega), z_upN (by omega), z_upN (by omega)⟩, ?_⟩⟩
    · rw [g] at hs; exact hs
    · show zKd (x_up (g3_knds t).2 k kd k) (x_up (g3_fsts t).2 k a k) (x_up (g3_snds t).2 k b k) _ _ _
      rw [z_upS, z_upS, z_upS]; exact h2
  · rw [if_neg g]
    exact ⟨hs, ha, rfl, ho, fun z => absurd z g⟩
theorem zSt_e {L p e a w : Int} (h : zSt L p e a w) (hL : L ≤ 100) : xin e ∧ (e = -1 ∨ 0 ≤ e) := by
  rcases h with ⟨h1, h2, h3, h4, h5⟩ | ⟨h1, h2, h3, h4⟩
  · exact ⟨⟨by omega, by omega⟩, Or.inl h1⟩
  · exact ⟨⟨by omega, by omega⟩, Or.inr h2⟩
theorem zs_order {t : TextS} {x : ModS} (h : zTx t x) {p k : Int} {o : Int → Int} (p0 : 0 ≤ p) (p1 : p < zLL t) (k0 : 0 ≤ k) (k1 : k < 50) (hz : zSz3 t k) : ∃ t' a' w' o', f3_readOrder (zTT t p (-1)) = some t' ∧ f5_order (zXX x p (-1) o) k = some (zXX x a' w' o') ∧ zOut t p k o t' a' w' o' := by
  have hL : zLL t ≤ 100 := by rw [h.1]; exact h.2.2.1
  have hr := zLk_rng h p0
  have hx : xin (zLk (zBB t) (zLL t) p) := ⟨by omega, by omega⟩
  have s0 : zSt (zLL t) (p + 1) (-1) (p + 1) (-1) := Or.inl ⟨rfl, rfl, rfl, by omega, by omega⟩
  have st0 : ∀ (f : Int → Int) (v : Int), x_st 150 f (3 * k) v = some (x_up f (3 * k) v) := fun f v => z_stT (by omega) (by show _ < (150 : Int); omega)
  have st1 : ∀ (f : Int → Int) (v : Int), x_st 150 f (3 * k + 1) v = some (x_up f (3 * k + 1) v) := fun f v => z_stT (by omega) (by show _ < (150 : Int); omega)
  have st2 : ∀ (f : Int → Int) (v : Int), x_st 150 f (3 * k + 2) v = some (x_up f (3 * k + 2) v) := fun f v => z_stT (by omega) (by show _ < (150 : Int); omega)
  unfold f3_readOrder f5_order
  rw [z_bind (z3_here h p0 (by omega)), z_bind (z5_look h p0 (by omega)), zXX_go, z_bind (st0 _ _), zXX_gp, zTT_gp, zXX_ors, zXX_pos, zTT_pos, zTT_err]
  generalize zLk (zBB t) (zLL t) p = c at hr hx
  by_cases c1 : c = 101
  · obtain ⟨p', e', a', w', q1, q2, q3, q4, q5⟩ := zs_sign h (c := 59) (o := x_up o (3 * k) c) (by decide) (by decide) s0 (by omega)
    have he := zSt_e q3 hL
    rw [z_eqT hx c1, z_eqT hx c1, z_bind q1, z_bind q2, z3_push hz k0 k1 he.1]
    exact ⟨_, a', w', _, rfl, rfl, zs_out q3 (by omega) (fun j hj => z_upN (by omega)) (fun z => ⟨by have := q5 z; omega, ⟨z_upS.symm, Or.inl c1⟩⟩)⟩
  rw [z_eqF hx (by decide) c1, z_eqF hx (by decide) c1]
  by_cases c2 : c = 108
  · obtain ⟨p', e', a', w', q1, q2, q3, q4, q5⟩ := zs_sign h (c := 59) (o := x_up o (3 * k) c) (by decide) (by decide) s0 (by omega)
    have he := zSt_e q3 hL
    rw [z_eqT hx c2, z_eqT hx c2, z_bind q1, z_bind q2, z3_push hz k0 k1 he.1]
    exact ⟨_, a', w', _, rfl, rfl, zs_out q3 (by omega) (fun j hj => z_upN (by omega)) (fun z => ⟨by have := q5 z; omega, ⟨z_upS.symm, Or.inr (Or.inl c2)⟩⟩)⟩
  rw [z_eqF hx (by decide) c2, z_eqF hx (by decide) c2]
  by_cases c3 : c = 109
  · obtain ⟨v, vm, p2, e2, a2, w2, q1, q2, q3, q4, q5⟩ := zs_num h (D := 3) (lo := 0) (hi := 999) (o := x_up o (3 * k) c) (by decide) (by decide) (by decide) (by decide) (by decide) (by decide) s0 (by omega)
    obtain ⟨p3, e3, a3, w3, r1, r2, r3, r4, r5⟩ := zs_sign h (c := 43) (o := x_up (x_up o (3 * k) c) (3 * k + 1) vm) (by decide) (by decide) q3 (by omega)
    obtain ⟨v4, vm4, p4, e4, a4, w4, t1, t2, t3, t4, t5⟩ := zs_num h (D := 3) (lo := 0) (hi := 999) (o := x_up (x_up o (3 * k) c) (3 * k + 1) vm) (by decide) (by decide) (by decide) (by decide) (by decide) (by decide) r3 (by omega)
    obtain ⟨p5, e5, a5, w5, u1, u2, u3, u4, u5⟩ := zs_sign h (c := 59) (o := x_up (x_up (x_up o (3 * k) c) (3 * k + 1) vm) (3 * k + 2) vm4) (by decide) (by decide) t3 (by omega)
    have he := zSt_e u3 hL
    rw [z_eqT hx c3, z_eqT hx c3, z_bind2 q1, z_bind2 q2]
    dsimp only
    rw [z_bind r1, z_bind2 t1]
    dsimp only
    rw [z_bind u1, z3_push hz k0 k1 he.1, zXX_go, z_bind (st1 _ _), zXX_ors, z_bind r2, z_bind2 t2]
    dsimp only
    rw [zXX_go, z_bind (st2 _ _), zXX_ors, z_bind u2]
    refine ⟨_, a5, w5, _, rfl, rfl, zs_out u3 (by omega) (fun j hj => by rw [z_upN (by omega), z_upN (by omega), z_upN (by omega)]) (fun z => ?_)⟩
    have z5 := u5 z
    have z4 := t5 z5.1
    have z3 := r5 z4.1
    have z2 := q5 z3.1
    refine ⟨by omega, ?_, Or.inr (Or.inr (Or.inl ⟨c3, ?_, ?_, by omega, by omega, by omega, by omega⟩))⟩
    · rw [z_upN (by omega), z_upN (by omega), z_upS]
    · rw [z_upN (by omega), z_upS]; exact z2.2.1
    · rw [z_upS]; exact z4.2.1
  rw [z_eqF hx (by decide) c3, z_eqF hx (by decide) c3]
  by_cases c4 : c = 112
  · obtain ⟨v, vm, p2, e2, a2, w2, q1, q2, q3, q4, q5⟩ := zs_num h (D := 3) (lo := 0) (hi := 999) (o := x_up o (3 * k) c) (by decide) (by decide) (by decide) (by decide) (by decide) (by decide) s0 (by omega)
    obtain ⟨p3, e3, a3, w3, r1, r2, r3, r4, r5⟩ := zs_sign h (c := 44) (o := x_up (x_up o (3 * k) c) (3 * k + 1) vm) (by decide) (by decide) q3 (by omega)
    obtain ⟨v4, vm4, p4, e4, a4, w4, t1, t2, t3, t4, t5⟩ := zs_num h (D := 2) (lo := 1) (hi := 50) (o := x_up (x_up o (3 * k) c) (3 * k + 1) vm) (by decide) (by decide) (by decide) (by decide) (by decide) (by decide) r3 (by omega)
    obtain ⟨p5, e5, a5, w5, u1, u2, u3, u4, u5⟩ := zs_sign h (c := 59) (o := x_up (x_up (x_up o (3 * k) c) (3 * k + 1) vm) (3 * k + 2) vm4) (by decide) (by decide) t3 (by omega)
    have he := zSt_e u3 hL
    rw [z_eqT hx c4, z_eqT hx c4, z_bind2 q1, z_bind2 q2]
    dsimp only
    rw [z_bind r1, z_bind2 t1]
    dsimp only
    rw [z_bind u1, z3_push hz k0 k1 he.1, zXX_go, z_bind (st1 _ _), zXX_ors, z_bind r2, z_bind2 t2]
    dsimp only
    rw [zXX_go, z_bind (st2 _ _), zXX_ors, z_bind u2]
    refine ⟨_, a5, w5, _, rfl, rfl, zs_out u3 (by omega) (fun j hj => by rw [z_upN (by omega), z_upN (by omega), z_upN (by omega)]) (fun z => ?_)⟩
    have z5 := u5 z
    have z4 := t5 z5.1
    have z3 := r5 z4.1
    have z2 := q5 z3.1
    refine ⟨by omega, ?_, Or.inr (Or.inr (Or.inr (Or.inl ⟨c4, ?_, ?_, by omega, by omega, by omega, by omega⟩)))⟩
    · rw [z_upN (by omega), z_upN (by omega), z_upS]
    · rw [z_upN (by omega), z_upS]; exact z2.2.1
    · rw [z_upS]; exact z4.2.1
  rw [z_eqF hx (by decide) c4, z_eqF hx (by decide) c4]
  by_cases c5 : c = 115
  · have hd := zLk_rng h (p := p + 1) (by omega)
    have hdx : xin (zLk (zBB t) (zLL t) (p + 1)) := ⟨by omega, by omega⟩
    rw [z_eqT hx c5, z_eqT hx c5, z_bind (z5_look h (by omega) (by omega)), z_bind (z5_in hdx (by decide) (by decide))]
    by_cases g : 49 ≤ zLk (zBB t) (zLL t) (p + 1) ∧ zLk (zBB t) (zLL t) (p + 1) ≤ 57
    · have hlt : p + 1 < zLL t := zLk_in (B := zBB t) (by omega)
      have ef : f3_readForce (zTT t (p + 1) (-1)) = some (zLk (zBB t) (zLL t) (p + 1) - 48, zTT t (p + 2) (-1)) := by
        unfold f3_readForce
        rw [z_bind (z3_here h (by omega) (by omega)), z_ltF hdx (by decide) (by omega), z_ltF (by decide) hdx (by omega), zTT_pos, zTT_gp, show p + 1 + 1 = p + 2 by omega]
      obtain ⟨p', e', a', w', q1, q2, q3, q4, q5⟩ := zs_sign h (p := p + 2) (e := -1) (a := p + 2) (w := -1) (c := 59) (o := x_up (x_up o (3 * k) c) (3 * k + 1) (zLk (zBB t) (zLL t) (p + 1) - 48)) (by decide) (by decide) (Or.inl ⟨rfl, rfl, rfl, by omega, by omega⟩) (by omega)
      have he := zSt_e q3 hL
      rw [z_bind2 ef]
      dsimp only
      rw [z_bind q1, z3_push hz k0 k1 he.1, if_pos g, z_eqF (by decide) (by decide) (by decide), z_bind (z5_look h (by omega) (by omega)), z_bind (st1 _ _), zXX_ors, zXX_pos, show p + 1 + 1 = p + 2 by omega, z_bind q2]
      refine ⟨_, a', w', _, rfl, rfl, zs_out q3 (by omega) (fun j hj => by rw [z_upN (by omega), z_upN (by omega)]) (fun z => ?_)⟩
      have z5 := q5 z
      refine ⟨by omega, ?_, Or.inr (Or.inr (Or.inr (Or.inr ⟨c5, ?_, by omega, by omega⟩)))⟩
      · rw [z_upN (by omega), z_upS]
      · rw [z_upS]
    · have ef : f3_readForce (zTT t (p + 1) (-1)) = some (0, zTT t (p + 1) (p + 1)) := by
        unfold f3_readForce
        rw [z_bind (z3_here h (by omega) (by omega))]
        by_cases d : zLk (zBB t) (zLL t) (p + 1) < 49
        · rw [z_ltT hdx (by decide) d, zTT_err, zTT_gp]
        · rw [z_ltF hdx (by decide) d, z_ltT (by decide) hdx (by omega), zTT_err, zTT_gp]
      obtain ⟨p', e', a', w', q1, q2, q3, q4, q5⟩ := zs_sign h (p := p + 1) (e := p + 1) (a := p + 2) (w := p + 1) (c := 59) (o := x_up (x_up o (3 * k) c) (3 * k + 1) (zLk (zBB t) (zLL t) (p + 1) - 48)) (by decide) (by decide) (Or.inr ⟨rfl, by omega, by omega, by omega, by omega, by omega, by omega⟩) (by omega)
      have he := zSt_e q3 hL
      rw [z_bind2 ef]
      dsimp only
      rw [z_bind q1, z3_push hz k0 k1 he.1, if_neg g, z_eqT (by decide) rfl, z_bind (z5_wrong (by decide)), if_pos rfl, z_bind (z5_look h (by omega) (by omega)), zXX_go, z_bind (st1 _ _), zXX_ors, zXX_pos, zXX_gp, show p + 1 + 1 = p + 2 by omega, z_bind q2]
      exact ⟨_, a', w', _, rfl, rfl, zs_out q3 (by omega) (fun j hj => by rw [z_upN (by omega), z_upN (by omega)]) (fun z => by have := q5 z; omega)⟩
  rw [z_eqF hx (by decide) c5, z_eqF hx (by decide) c5]
  obtain ⟨p', e', a', w', q1, q2, q3, q4, q5⟩ := zs_sign h (p := p) (e := p) (a := p + 1) (w := p) (c := 59) (o := x_up o (3 * k) c) (by decide) (by decide) (Or.inr ⟨rfl, by omega, by omega, by omega, by omega, by omega, by omega⟩) (by omega)
  have he := zSt_e q3 hL
  rw [z_bind q1, z3_push hz k0 k1 he.1, z_bind (z5_wrong (by decide)), if_pos rfl, show p + 1 - 1 = p by omega, z_bind q2]
  exact ⟨_, a', w', _, rfl, rfl, zs_out q3 (by omega) (fun j hj => z_upN (by omega)) (fun z => by have := q5 z; omega)⟩

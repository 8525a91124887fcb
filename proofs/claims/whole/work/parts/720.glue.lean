/-! Both sides whole; how a call's answers are compared. -/
theorem gs4_bo {y : BrS} {v : BoatS} : g4_bo (s4_bo y v) = v ∧ g4_tr (s4_bo y v) = g4_tr y ∧ g4_hi (s4_bo y v) = g4_hi y ∧ g4_tx (s4_bo y v) = g4_tx y := ⟨rfl, rfl, rfl, rfl⟩
theorem gs4_tr {y : BrS} {v : BoatS} : g4_bo (s4_tr y v) = g4_bo y ∧ g4_tr (s4_tr y v) = v ∧ g4_hi (s4_tr y v) = g4_hi y ∧ g4_tx (s4_tr y v) = g4_tx y := ⟨rfl, rfl, rfl, rfl⟩
theorem gs4_hi {y : BrS} {v : HisS} : g4_bo (s4_hi y v) = g4_bo y ∧ g4_tr (s4_hi y v) = g4_tr y ∧ g4_hi (s4_hi y v) = v ∧ g4_tx (s4_hi y v) = g4_tx y := ⟨rfl, rfl, rfl, rfl⟩
theorem gs4_tx {y : BrS} {v : TextS} : g4_bo (s4_tx y v) = g4_bo y ∧ g4_tr (s4_tx y v) = g4_tr y ∧ g4_hi (s4_tx y v) = g4_hi y ∧ g4_tx (s4_tx y v) = v := ⟨rfl, rfl, rfl, rfl⟩
def zTy (r : RowS) (n : Int) (f : Int → Int) : Prop := r.1 = n ∧ 0 ≤ n ∧ n ≤ 100 ∧ ∀ i, 0 ≤ i → i < n → f i = r.2 i ∧ 0 ≤ r.2 i ∧ r.2 i ≤ 127
theorem zTx_of {t : TextS} {x : ModS} (h : zTy (g3_byts t) (g5_typ x) (g5_txt x)) : zTx t x := h
def zGl (y : BrS) (x : ModS) (c : Int) : Prop := zJ (g4_bo y) (g5_now x) c ∧ zHi (g4_hi y) (g5_acts x) (g5_was x) c ∧ zTy (g3_byts (g4_tx y)) (g5_typ x) (g5_txt x)
theorem zGl_le {y : BrS} {x : ModS} {c d : Int} (h : zGl y x c) (hd : c ≤ d) : zGl y x d := ⟨zJ_le h.1 hd, zHi_le h.2.1 hd, h.2.2⟩
theorem zGl_thr {y : BrS} {x : ModS} {c k : Int} (h : zGl y x c) : zGl y (s5_thr x k) c := by
  unfold zGl
  simp only [gs5_thr]
  exact h
theorem zGl_tr {y : BrS} {x : ModS} {c : Int} {t : BoatS} (h : zGl y x c) : zGl (s4_tr y t) x c := by
  unfold zGl
  simp only [gs4_tr]
  exact h
theorem zGl_lef {y : BrS} {x : ModS} {c : Int} {l : Int → Int} (h : zGl y x c) : zGl y (s5_lef x l) c := by
  unfold zGl
  simp only [gs5_lef]
  exact h
theorem zGl_try {y : BrS} {x : ModS} {c l : Int} {a : Int → Int} (h : zGl y x c) : zGl y (s5_lat (s5_abo x a) l) c := by
  unfold zGl
  simp only [gs5_lat, gs5_abo]
  exact h
theorem zGl_put {y : BrS} {x : ModS} {c : Int} {pl nw : Int → Int} (h : zGl y x c) (e : ∀ i, 0 ≤ i → i < 730 → nw i = g5_now x i) : zGl y (s5_now (s5_put x pl) nw) c := by
  unfold zGl
  simp only [gs5_now, gs5_put]
  exact ⟨zJ_now h.1 e, h.2⟩
/-- behind saving -/
def zSv (y : BrS) (x : ModS) (h' : HisS) (x5 : ModS) (c : Int) : Prop := g5_now x5 = g5_now x ∧ g5_typ x5 = g5_typ x ∧ g5_txt x5 = g5_txt x ∧ g5_thr x5 = g5_thr x ∧ g5_ors x5 = g5_ors x ∧ zHi h' (g5_acts x5) (g5_was x5) c
theorem zs_save2 {y : BrS} {x : ModS} {c : Int} (h : zGl y x c) : ∃ h' x5, f1_save (g4_hi y) (g4_bo y) = some h' ∧ f5_save x = some x5 ∧ zSv y x h' x5 c := by
  obtain ⟨h', a, w, s1, s2, s3⟩ := zs_save h.2.1 h.1
  refine ⟨h', _, s1, s2, ?_⟩
  unfold zSv
  simp only [gs5_acts, gs5_was]
  exact ⟨trivial, trivial, trivial, trivial, trivial, s3⟩
theorem zGl_act {y : BrS} {x x5 : ModS} {h' : HisS} {b' : BoatS} {now' : Int → Int} {c d : Int} (h : zGl y x c) (hs : zSv y x h' x5 c) (hJ : zJ b' now' d) (hd : c ≤ d) : zGl (s4_bo (s4_hi y h') b') (s5_now x5 now') d := by
  obtain ⟨s1, s2, s3, s4, s5, s6⟩ := hs
  unfold zGl
  simp only [gs4_bo, gs4_hi, gs5_now]
  refine ⟨hJ, zHi_le s6 hd, ?_⟩
  rw [s2, s3]
  exact h.2.2
theorem zC_ok {F : Option (Int × Int × BrS)} {G : Option (Int × ModS)} {o : Int → Int} {v : Int} {y1 : BrS} {x1 : ModS} {E : Int → Int → BrS → Option (Int × BrS × (Int → Int))} (hF : F = some (0, v, y1)) (hG : G = some (v, x1)) (hv : xin v) (ht : g5_thr x1 = 0) : ((F.bind fun (c, v, y1) => x_eq c 0 (x_ck v <| some (0, y1, x_up o 0 v)) (E c v y1)).bind fun (k, y1, o1) => G.bind fun (v, x1) => (f5_thrown x1).bind fun t => x_eq t k (x_eq k 0 (x_ck v (if o1 0 = v then some (x1, y1, o1) else none)) (some (x1, y1, o1))) none) = some (x1, y1, x_up o 0 v) := by
  subst hF
  subst hG
  have et : f5_thrown x1 = some 0 := congrArg some ht
  rw [z_bind (o := some ((0 : Int), v, y1)) rfl]
  dsimp only
  rw [z_eqT (by decide) rfl, z_ckT hv, z_bind (o := some ((0 : Int), y1, x_up o 0 v)) rfl]
  dsimp only
  rw [z_bind (o := some (v, x1)) rfl]
  dsimp only
  rw [z_bind et, z_eqT (by decide) rfl, z_eqT (by decide) rfl, z_ckT hv, if_pos z_upS]
theorem zC_e1 {F : Option (Int × Int × BrS)} {G : Option (Int × ModS)} {o : Int → Int} {y y1 : BrS} {v w C : Int} {x1 : ModS} {E : Int → Int → BrS → Option (Int × BrS × (Int → Int))} (hF : F = some (C, v, y1)) (hG : G = some (w, x1)) (hC : 1 ≤ C ∧ C ≤ 4) (ht : g5_thr x1 = 1) : ((F.bind fun (c, v, y1) => x_eq c 0 (x_ck v <| some (0, y1, x_up o 0 v)) (x_eq c C (some (1, y, o)) (E c v y1))).bind fun (k, y1, o1) => G.bind fun (v, x1) => (f5_thrown x1).bind fun t => x_eq t k (x_eq k 0 (x_ck v (if o1 0 = v then some (x1, y1, o1) else none)) (some (x1, y1, o1))) none) = some (x1, y, o) := by
  subst hF
  subst hG
  have et : f5_thrown x1 = some 1 := congrArg some ht
  rw [z_bind (o := some (C, v, y1)) rfl]
  dsimp only
  rw [z_eqF ⟨by omega, by omega⟩ (by decide) (by omega), z_eqT ⟨by omega, by omega⟩ rfl, z_bind (o := some ((1 : Int), y, o)) rfl]
  dsimp only
  rw [z_bind (o := some (w, x1)) rfl]
  dsimp only
  rw [z_bind et, z_eqT (by decide) rfl, z_eqF (by decide) (by decide) (by decide)]
theorem zC_e2 {F : Option (Int × Int × BrS)} {G : Option (Int × ModS)} {o : Int → Int} {y y1 : BrS} {v w B C : Int} {x1 : ModS} {E : Int → Int → BrS → Option (Int × BrS × (Int → Int))} (hF : F = some (C, v, y1)) (hG : G = some (w, x1)) (hC : 1 ≤ C ∧ C ≤ 4) (hB : 1 ≤ B ∧ B ≤ 4) (ne : ¬ C = B) (ht : g5_thr x1 = 2) : ((F.bind fun (c, v, y1) => x_eq c 0 (x_ck v <| some (0, y1, x_up o 0 v)) (x_eq c B (some (1, y, o)) (x_eq c C (some (2, y, o)) (E c v y1)))).bind fun (k, y1, o1) => G.bind fun (v, x1) => (f5_thrown x1).bind fun t => x_eq t k (x_eq k 0 (x_ck v (if o1 0 = v then some (x1, y1, o1) else none)) (some (x1, y1, o1))) none) = some (x1, y, o) := by
  subst hF
  subst hG
  have et : f5_thrown x1 = some 2 := congrArg some ht
  rw [z_bind (o := some (C, v, y1)) rfl]
  dsimp only
  rw [z_eqF ⟨by omega, by omega⟩ (by decide) (by omega), z_eqF ⟨by omega, by omega⟩ ⟨by omega, by omega⟩ ne, z_eqT ⟨by omega, by omega⟩ rfl, z_bind (o := some ((2 : Int), y, o)) rfl]
  dsimp only
  rw [z_bind (o := some (w, x1)) rfl]
  dsimp only
  rw [z_bind et, z_eqT (by decide) rfl, z_eqF (by decide) (by decide) (by decide)]
theorem zC_pl {F : Option (Int × BrS)} {G : Option (Int × ModS)} {o : Int → Int} {v : Int} {y1 : BrS} {x1 : ModS} (hF : F = some (v, y1)) (hG : G = some (v, x1)) (hv : xin v) : (F.bind fun (v, y1) => G.bind fun (w, x1) => x_eq v w (some (x1, y1, o)) none) = some (x1, y1, o) := by
  subst hF
  subst hG
  rw [z_bind (o := some (v, y1)) rfl]
  dsimp only
  rw [z_bind (o := some (v, x1)) rfl]
  dsimp only
  rw [z_eqT hv rfl]
theorem zC_pv {F : Option Int} {G : Option (Int × ModS)} {o : Int → Int} {v : Int} {y : BrS} {x1 : ModS} (hF : F = some v) (hG : G = some (v, x1)) (hv : xin v) : (F.bind fun v => G.bind fun (w, x1) => x_eq v w (some (x1, y, o)) none) = some (x1, y, o) := by
  subst hF
  subst hG
  rw [z_bind (o := some v) rfl]
  rw [z_bind (o := some (v, x1)) rfl]
  dsimp only
  rw [z_eqT hv rfl]
theorem zRel_anew {b : BoatS} {room : Int} {now : Int → Int} (h0 : now 0 = room) (h6 : now 6 = -1) (h : ∀ i, 0 ≤ i → i < 730 → ¬ i = 0 → ¬ i = 6 → now i = 0) : zRel (bStart b room) now := by
  refine zRel_mk ⟨h 1 (by decide) (by decide) (by decide) (by decide), fun p p0 p1 => ?_⟩ h0 (h 2 (by decide) (by decide) (by decide) (by decide)) (h 3 (by decide) (by decide) (by decide) (by decide)) (h 4 (by decide) (by decide) (by decide) (by decide)) (h 5 (by decide) (by decide) (by decide) (by decide)) h6 (h 7 (by decide) (by decide) (by decide) (by decide)) (h 8 (by decide) (by decide) (by decide) (by decide)) (fun k k0 k1 => ?_)
  · have p1' : p < 0 := p1
    omega
  · have k1' : k < 0 := k1
    omega
theorem z5_anewL {x : ModS} {room : Int} : ∀ (m fu : Nat) (l : Int) (nl : Int → Int), 0 ≤ l → l + (m : Int) = 730 → m < fu → (∀ i, 0 ≤ i → i < l → nl i = 0) → ∃ nl', f5_anew_L2 room fu l (s5_now x nl) = some (s5_now x nl') ∧ nl' 0 = room ∧ nl' 6 = -1 ∧ ∀ i, 0 ≤ i → i < 730 → ¬ i = 0 → ¬ i = 6 → nl' i = 0
  | 0, 0, _, _, _, _, h, _ => by omega
  | m + 1, 0, _, _, _, _, h, _ => by omega
  | 0, fu + 1, l, nl, l0, lm, _, h => by
    refine ⟨x_up (x_up nl 0 room) 6 (-1), ?_, ?_, ?_, fun i i0 i1 n0 n6 => ?_⟩
    · unfold f5_anew_L2
      rw [z_ltF ⟨by omega, by omega⟩ (by decide) (by omega), z_bind (z_stT (by decide) (by decide)), z_bind (z_stT (by decide) (by decide)), ss5_now, ss5_now]
      rfl
    · rw [z_upN (by decide), z_upS]
    · rw [z_upS]
    · rw [z_upN n6, z_upN n0]; exact h i i0 (by omega)
  | m + 1, fu + 1, l, nl, l0, lm, hf, h => by
    obtain ⟨nl', q1, q2⟩ := z5_anewL (x := x) (room := room) m fu (l + 1) (x_up nl l 0) (by omega) (by omega) (by omega) (fun i i0 i1 => by
      by_cases e : i = l
      · rw [e, z_upS]
      · rw [z_upN e]; exact h i i0 (by omega))
    refine ⟨nl', ?_, q2⟩
    unfold f5_anew_L2
    rw [← q1]
    rw [z_ltT ⟨by omega, by omega⟩ (by decide) (by omega), z_bind (z_stT l0 (by show l < (730 : Int); omega)), ss5_now]
    rfl
theorem z5_anew {x : ModS} {room : Int} (b : BoatS) : ∃ now', f5_anew x room = some (s5_now x now') ∧ zRel (bStart b room) now' := by
  obtain ⟨nl', q1, q2, q3, q4⟩ := z5_anewL (x := x) (room := room) 730 xFU 0 (g5_now x) (by decide) (by decide) (by unfold xFU; omega) (fun i a c => by omega)
  exact ⟨nl', q1, zRel_anew q2 q3 q4⟩
theorem zJ_start {b : BoatS} {room c : Int} {now : Int → Int} (h0 : 1 ≤ room) (h1 : room ≤ 120) (hc : 0 ≤ c) (hR : zRel (bStart b room) now) : zJ (bStart b room) now c := ⟨zB_start h0 h1, hR, by
  unfold zT bStart
  simp only [gm0]
  omega⟩

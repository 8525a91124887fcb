/-! A boat: the place of a parcel, the parcel at a place, the one that is thrown next. -/
theorem zOrd_rank {K O : Int → Int} {n : Int} (h : zOrd K O n) (hn : 0 ≤ n) {P : Int → Prop} [∀ p, Decidable (P p)] {k : Int} (h0 : 0 ≤ k) (h1 : k < n) : xS (fun i => if P (O i) then 1 else 0) 0 k.toNat = xS (fun q => if P q ∧ zl K q (O k) then 1 else 0) 0 n.toNat := by
  rw [← zPerm_sum h.2 (fun q => if P q ∧ zl K q (O k) then 1 else 0)]
  have e : n.toNat = k.toNat + (n - k).toNat := by omega
  rw [e, xS_app]
  have e1 : xS (fun i => if P (O i) then 1 else 0) 0 k.toNat = xS (fun i => if P (O i) ∧ zl K (O i) (O k) then 1 else 0) 0 k.toNat := xS_congr _ _ (fun i a c => by
    have z := h.1 i k a (by omega) h1
    by_cases g : P (O i)
    · rw [if_pos g, if_pos ⟨g, z⟩]
    · rw [if_neg g, if_neg (fun w => g w.1)])
  have e2 : xS (fun i => if P (O i) ∧ zl K (O i) (O k) then 1 else 0) (0 + (k.toNat : Int)) (n - k).toNat = xS (fun _ => 0) (0 + (k.toNat : Int)) (n - k).toNat := xS_congr _ _ (fun i a c => by
    refine if_neg (fun w => ?_)
    by_cases z : i = k
    · rw [z] at w; exact zl_irr w.2
    · exact zl_asym (h.1 k i h0 (by omega) (by omega)) w.2)
  rw [e2, xS_zero, e1]; omega
theorem z0_placeOfL {b : BoatS} (hB : zB b) {p h k : Int} (hh : xin h) (hk0 : 0 ≤ k) (hk1 : k < zn b) (hk : zO b k = p) : ∀ (m fu : Nat) (acc i : Int), 0 ≤ i → i + (m : Int) = k → m < fu → f0_placeOf_L14 b p h fu acc i = some (acc + xS (fun i => if zH b (zO b i) = h then 1 else 0) i m)
  | 0, 0, _, _, _, _, q => by omega
  | m + 1, 0, _, _, _, _, q => by omega
  | 0, fu + 1, acc, i, h0, h1, _ => by
    have hn := hB.1.2.1
    have e : i = k := by omega
    have hr := hB.O_rng h0 (by omega)
    unfold f0_placeOf_L14
    rw [z_bind hB.szO, z_ltT ⟨by omega, by omega⟩ ⟨by omega, by omega⟩ (by omega), z_bind (hB.getO h0 (by omega)), z_eqT ⟨by omega, by omega⟩ (by rw [e]; exact hk)]
    show some acc = some (acc + 0)
    rw [Int.add_zero]
  | m + 1, fu + 1, acc, i, h0, h1, q => by
    have hn := hB.1.2.1
    have hr := hB.O_rng h0 (by omega)
    have hk2 := hB.O_rng hk0 hk1
    have hp := hB.1.2.2 (zO b i) hr.1 hr.2
    have ne : ¬ zO b i = p := fun z => by
      have := hB.2.2.1.2.2.2 i k h0 (by omega) hk0 (by omega) (z.trans hk.symm)
      omega
    unfold f0_placeOf_L14
    rw [z_bind hB.szO, z_ltT ⟨by omega, by omega⟩ ⟨by omega, by omega⟩ (by omega), z_bind (hB.getO h0 (by omega)), z_eqF ⟨by omega, by omega⟩ ⟨by omega, by omega⟩ ne, z_bind (hB.getH hr.1 hr.2)]
    by_cases e : zH b (zO b i) = h
    · rw [z_eqT ⟨by omega, by omega⟩ e, z0_placeOfL hB hh hk0 hk1 hk m fu _ _ (by omega) (by omega) (by omega)]
      show _ = some (acc + ((if zH b (zO b i) = h then 1 else 0) + xS (fun i => if zH b (zO b i) = h then 1 else 0) (i + 1) m))
      rw [if_pos e]
      exact congrArg some (by omega)
    · rw [z_eqF ⟨by omega, by omega⟩ hh e, z0_placeOfL hB hh hk0 hk1 hk m fu _ _ (by omega) (by omega) (by omega)]
      show _ = some (acc + ((if zH b (zO b i) = h then 1 else 0) + xS (fun i => if zH b (zO b i) = h then 1 else 0) (i + 1) m))
      rw [if_neg e]
      exact congrArg some (by omega)
theorem z0_placeOf {b : BoatS} (hB : zB b) {p : Int} (h0 : 0 ≤ p) (h1 : p < zn b) : f0_placeOf b p = some (xS (fun q => if zH b q = zH b p ∧ zl (zK b) q p then 1 else 0) 0 (zn b).toNat) := by
  have hn := hB.1.2.1
  have hp := hB.1.2.2 p h0 h1
  obtain ⟨k, k0, k1, hk⟩ := hB.2.2.1.2.2.1 p h0 (by omega)
  have hr := zOrd_rank hB.2.2.1 hB.1.1 (P := fun q => zH b q = zH b p) k0 (by omega)
  unfold f0_placeOf
  rw [z_bind (hB.getH h0 h1), z0_placeOfL hB ⟨by omega, by omega⟩ k0 (by omega) hk k.toNat xFU 0 0 (by omega) (by omega) (by unfold xFU; omega), Int.zero_add, hr, hk]
theorem z0_parcelAtL {b : BoatS} (hB : zB b) {h : Int} (hh : xin h) : ∀ (m fu : Nat) (left i : Int), 0 ≤ i → 0 ≤ left → left ≤ 1000 → i + (m : Int) = zn b → m < fu → left < xS (fun i => if zH b (zO b i) = h then 1 else 0) i m → ∃ k, i ≤ k ∧ k < zn b ∧ f0_parcelAt_L5 b h fu left i = some (zO b k) ∧ zH b (zO b k) = h ∧ xS (fun i => if zH b (zO b i) = h then 1 else 0) i (k - i).toNat = left
  | 0, _, left, i, _, h9, _, _, _, q => by
    have : left < 0 := q
    omega
  | m + 1, 0, _, _, _, _, _, _, q, _ => by omega
  | m + 1, fu + 1, left, i, h0, h9, h10, h1, q, w => by
    have hn := hB.1.2.1
    have hr := hB.O_rng h0 (by omega)
    have hp := hB.1.2.2 (zO b i) hr.1 hr.2
    unfold f0_parcelAt_L5
    rw [z_bind hB.szO, z_ltT ⟨by omega, by omega⟩ ⟨by omega, by omega⟩ (by omega), z_bind (hB.getO h0 (by omega)), z_bind (hB.getH hr.1 hr.2)]
    have w' : left < (if zH b (zO b i) = h then 1 else 0) + xS (fun i => if zH b (zO b i) = h then 1 else 0) (i + 1) m := w
    by_cases e : zH b (zO b i) = h
    · rw [z_eqT ⟨by omega, by omega⟩ e]
      rw [if_pos e] at w'
      by_cases d : left = 0
      · rw [z_eqT ⟨by omega, by omega⟩ d]
        refine ⟨i, by omega, by omega, rfl, e, ?_⟩
        rw [show (i - i).toNat = 0 by omega, d]; rfl
      · rw [z_eqF ⟨by omega, by omega⟩ (by decide) d]
        obtain ⟨k, k0, k1, k2, k3, k4⟩ := z0_parcelAtL hB hh m fu (left + (-1)) (i + 1) (by omega) (by omega) (by omega) (by omega) (by omega) (by omega)
        refine ⟨k, by omega, k1, k2, k3, ?_⟩
        rw [show (k - i).toNat = (k - (i + 1)).toNat + 1 by omega]
        show (if zH b (zO b i) = h then 1 else 0) + xS (fun i => if zH b (zO b i) = h then 1 else 0) (i + 1) (k - (i + 1)).toNat = left
        rw [if_pos e, k4]; omega
    · rw [z_eqF ⟨by omega, by omega⟩ hh e]
      rw [if_neg e] at w'
      obtain ⟨k, k0, k1, k2, k3, k4⟩ := z0_parcelAtL hB hh m fu left (i + 1) (by omega) (by omega) (by omega) (by omega) (by omega) (by omega)
      refine ⟨k, by omega, k1, k2, k3, ?_⟩
      rw [show (k - i).toNat = (k - (i + 1)).toNat + 1 by omega]
      show (if zH b (zO b i) = h then 1 else 0) + xS (fun i => if zH b (zO b i) = h then 1 else 0) (i + 1) (k - (i + 1)).toNat = left
      rw [if_neg e, k4]; omega
theorem z0_parcelAt {b : BoatS} (hB : zB b) {h k : Int} (hh : xin h) (hk0 : 0 ≤ k) (hk1 : k < zC (zH b) h (zn b)) : ∃ r, f0_parcelAt b h k = some r ∧ 0 ≤ r ∧ r < zn b ∧ zH b r = h ∧ xS (fun q => if zH b q = h ∧ zl (zK b) q r then 1 else 0) 0 (zn b).toNat = k := by
  have hn := hB.1.2.1
  have hn0 := hB.1.1
  have hc := zC_le (zH b) h hn0
  have e : zC (zH b) h (zn b) = xS (fun i => if zH b (zO b i) = h then 1 else 0) 0 (zn b).toNat := (zPerm_sum hB.2.2.1.2 (fun q => if zH b q = h then 1 else 0)).symm
  obtain ⟨j, j0, j1, j2, j3, j4⟩ := z0_parcelAtL hB hh (zn b).toNat xFU k 0 (by omega) hk0 (by omega) (by omega) (by unfold xFU; omega) (by omega)
  have hr := hB.O_rng j0 j1
  have hk := zOrd_rank hB.2.2.1 hn0 (P := fun q => zH b q = h) j0 j1
  refine ⟨zO b j, j2, hr.1, hr.2, j3, ?_⟩
  rw [← hk, ← j4, Int.sub_zero]
theorem z0_nextL {b : BoatS} (hB : zB b) {k : Int} (hk : k = -1 ∨ (0 ≤ k ∧ k < zn b)) : ∀ (m fu : Nat) (least i : Int), 0 ≤ i → i + (m : Int) = zn b → m < fu → (∀ j, 0 ≤ j → j < i → ¬ (zH b (zO b j) = -1 ∧ (k = -1 ∨ zl (zK b) k (zO b j)))) → ((least = -1 ∧ ∀ j, 0 ≤ j → j < i → ¬ zH b (zO b j) = -1) ∨ ∃ t, 0 ≤ t ∧ t < i ∧ zO b t = least ∧ zH b (zO b t) = -1 ∧ ∀ j, 0 ≤ j → j < t → ¬ zH b (zO b j) = -1) → ∃ a c, zMin (fun p => zH b p = -1 ∧ (k = -1 ∨ zl (zK b) k p)) (zl (zK b)) (zn b) a ∧ zMin (fun p => zH b p = -1) (zl (zK b)) (zn b) c ∧ f0_nextOverboard_L25 b k fu least i = some (if a = -1 then c else a)
  | 0, 0, _, _, _, _, q, _, _ => by omega
  | m + 1, 0, _, _, _, _, q, _, _ => by omega
  | 0, fu + 1, least, i, h0, h1, _, hno, hl => by
    have hn := hB.1.2.1
    unfold f0_nextOverboard_L25
    rw [z_bind hB.szO, z_ltF ⟨by omega, by omega⟩ ⟨by omega, by omega⟩ (by omega)]
    refine ⟨-1, least, zOrd_none hB.1.1 hB.2.2.1 (fun j a c => hno j a (by omega)), ?_, by rw [if_pos rfl]⟩
    rcases hl with ⟨h, g⟩ | ⟨t, t0, t1, t2, t3, t4⟩
    · rw [h]; exact zOrd_none hB.1.1 hB.2.2.1 (fun j a c => g j a (by omega))
    · rw [← t2]; exact zOrd_first hB.1.1 hB.2.2.1 t0 (by omega) t3 t4
  | m + 1, fu + 1, least, i, h0, h1, q, hno, hl => by
    have hn := hB.1.2.1
    have hr := hB.O_rng h0 (by omega)
    have hp := hB.1.2.2 (zO b i) hr.1 hr.2
    have hlx : -1 ≤ least ∧ least < zn b := by
      rcases hl with ⟨h, g⟩ | ⟨t, t0, t1, t2, t3, t4⟩
      · have := hB.1.1; omega
      · have := hB.O_rng t0 (by omega : t < zn b); omega
    have found : (zH b (zO b i) = -1 ∧ (k = -1 ∨ zl (zK b) k (zO b i))) → ∃ a c, zMin (fun p => zH b p = -1 ∧ (k = -1 ∨ zl (zK b) k p)) (zl (zK b)) (zn b) a ∧ zMin (fun p => zH b p = -1) (zl (zK b)) (zn b) c ∧ some (zO b i) = some (if a = -1 then c else a) := fun hf => by
      rcases hl with ⟨h, g⟩ | ⟨t, t0, t1, t2, t3, t4⟩
      · exact ⟨zO b i, zO b i, zOrd_first hB.1.1 hB.2.2.1 h0 (by omega) hf hno, zOrd_first hB.1.1 hB.2.2.1 h0 (by omega) hf.1 g, by rw [if_neg (by omega)]⟩
      · exact ⟨zO b i, zO b t, zOrd_first hB.1.1 hB.2.2.1 h0 (by omega) hf hno, zOrd_first hB.1.1 hB.2.2.1 t0 (by omega) t3 t4, by rw [if_neg (by omega)]⟩
    unfold f0_nextOverboard_L25
    rw [z_bind hB.szO, z_ltT ⟨by omega, by omega⟩ ⟨by omega, by omega⟩ (by omega), z_bind (hB.getO h0 (by omega)), z_bind (hB.getH hr.1 hr.2)]
    by_cases e : zH b (zO b i) = -1
    · rw [z_eqT ⟨by omega, by omega⟩ e]
      by_cases c : k = -1
      · rw [z_eqT ⟨by omega, by omega⟩ c]
        exact found ⟨e, Or.inl c⟩
      · have hk' : 0 ≤ k ∧ k < zn b := hk.resolve_left c
        rw [z_eqF ⟨by omega, by omega⟩ (by decide) c, z_bind (z0_isLess hB hk'.1 hk'.2 hr.1 hr.2)]
        by_cases g : zl (zK b) k (zO b i)
        · rw [if_pos g, z_eqF (by decide) (by decide) (by decide)]
          exact found ⟨e, Or.inr g⟩
        · rw [if_neg g, z_eqT (by decide) rfl]
          have hno' : ∀ j, 0 ≤ j → j < i + 1 → ¬ (zH b (zO b j) = -1 ∧ (k = -1 ∨ zl (zK b) k (zO b j))) := fun j a d => by
            by_cases z : j = i
            · rw [z]; exact fun w => w.2.elim c g
            · exact hno j a (by omega)
          by_cases d : least = -1
          · rw [z_eqT ⟨by omega, by omega⟩ d]
            refine z0_nextL hB hk m fu _ (i + 1) (by omega) (by omega) (by omega) hno' (Or.inr ⟨i, h0, by omega, rfl, e, ?_⟩)
            rcases hl with ⟨h, g⟩ | ⟨t, t0, t1, t2, t3, t4⟩
            · exact g
            · have := hB.O_rng t0 (by omega : t < zn b); omega
          · rw [z_eqF ⟨by omega, by omega⟩ (by decide) d]
            refine z0_nextL hB hk m fu _ (i + 1) (by omega) (by omega) (by omega) hno' (Or.inr ?_)
            rcases hl with ⟨h, g⟩ | ⟨t, t0, t1, t2, t3, t4⟩
            · exact absurd h d
            · exact ⟨t, t0, by omega, t2, t3, t4⟩
    · rw [z_eqF ⟨by omega, by omega⟩ (by decide) e]
      refine z0_nextL hB hk m fu _ (i + 1) (by omega) (by omega) (by omega) (fun j a d => ?_) ?_
      · by_cases z : j = i
        · rw [z]; exact fun w => e w.1
        · exact hno j a (by omega)
      · rcases hl with ⟨h, g⟩ | ⟨t, t0, t1, t2, t3, t4⟩
        · refine Or.inl ⟨h, fun j a d => ?_⟩
          by_cases z : j = i
          · rw [z]; exact e
          · exact g j a (by omega)
        · exact Or.inr ⟨t, t0, by omega, t2, t3, t4⟩

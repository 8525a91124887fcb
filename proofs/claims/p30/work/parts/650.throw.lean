/-! One is thrown: the runs behind it. -/
theorem zRun_tie {H W F S G : Int → Int} {n R flo p k : Int} (h : zRun H W F S G n R flo) (p0 : 0 ≤ p) (p1 : p < n) (hp : H p = -1) (k0 : 0 ≤ k) (k1 : k < R) : zRun (x_up H p (F k)) W F S (x_up G k (G k + W p)) n R flo := by
  obtain ⟨h1, h2, h3, h4⟩ := h
  have hFk := h3 k k0 k1
  refine ⟨h1, h2, fun j j0 j1 => ?_, fun q q0 q1 hq => ?_⟩
  · have hj := h3 j j0 j1
    refine ⟨hj.1, hj.2.1, hj.2.2.1, hj.2.2.2.1, ?_, ?_⟩
    · by_cases e : j = k
      · subst e
        rw [z_upS]
        have e1 : xS (fun q => if x_up H p (F j) q = F j then W q else 0) 0 n.toNat = xS (x_up (fun q => if H q = F j then W q else 0) p (W p)) 0 n.toNat := xS_congr _ _ (fun q _ _ => by
          by_cases z : q = p
          · rw [z, z_upS, z_upS, if_pos rfl]
          · rw [z_upN z, z_upN z])
        rw [e1, xS_up _ _ p0 (by omega), hj.2.2.2.2.1, if_neg (by omega)]; omega
      · rw [z_upN e, hj.2.2.2.2.1]
        have ne : ¬ F k = F j := by
          rcases Int.lt_trichotomy j k with z | z | z
          · have := h2 j k j0 z k1; omega
          · exact absurd z e
          · have := h2 k j k0 z j1; omega
        exact xS_congr _ _ (fun q _ _ => by
          by_cases z : q = p
          · rw [z, z_upS, if_neg (by omega), if_neg ne]
          · rw [z_upN z])
    · obtain ⟨q, q0, q1, hq⟩ := hj.2.2.2.2.2
      exact ⟨q, q0, q1, by rw [z_upN (fun z => by rw [z] at hq; omega)]; exact hq⟩
  · by_cases z : q = p
    · rw [z, z_upS]; exact ⟨k, k0, k1, rfl⟩
    · rw [z_upN z] at hq ⊢
      exact h4 q q0 q1 hq
theorem zRun_new {H W F S G : Int → Int} {n R flo p : Int} (h : zRun H W F S G n R flo) (hf : flo < 1000000000) (p0 : 0 ≤ p) (p1 : p < n) (hp : H p = -1) (hfx : ∀ q, 0 ≤ q → q < n → H q < flo) : zRun (x_up H p flo) W (x_up F R flo) (x_up S R 5) (x_up G R (W p)) n (R + 1) (flo + 1) := by
  obtain ⟨h1, h2, h3, h4⟩ := h
  refine ⟨⟨by omega, by omega, by omega⟩, fun i j i0 ij j1 => ?_, fun j j0 j1 => ?_, fun q q0 q1 hq => ?_⟩
  · rw [z_upN (by omega : ¬ i = R)]
    by_cases e : j = R
    · rw [e, z_upS]; exact (h3 i i0 (by omega)).2.1
    · rw [z_upN e]; exact h2 i j i0 ij (by omega)
  · by_cases e : j = R
    · subst e
      rw [z_upS, z_upS, z_upS]
      refine ⟨by omega, by omega, by omega, by omega, ?_, p, p0, p1, z_upS⟩
      rw [xS_point (f := fun q => if x_up H p flo q = flo then W q else 0) (k := p) _ _ p0 (by omega) (fun q qa qb z => ?_)]
      · rw [z_upS, if_pos rfl]
      · have := hfx q qa (by omega)
        rw [z_upN z, if_neg (by omega)]
    · have hj := h3 j j0 (by omega)
      rw [z_upN e, z_upN e, z_upN e]
      refine ⟨hj.1, by omega, hj.2.2.1, hj.2.2.2.1, ?_, ?_⟩
      · rw [hj.2.2.2.2.1]
        exact xS_congr _ _ (fun q _ _ => by
          by_cases z : q = p
          · rw [z, z_upS, if_neg (by omega), if_neg (by omega)]
          · rw [z_upN z])
      · obtain ⟨q, q0, q1, hq⟩ := hj.2.2.2.2.2
        exact ⟨q, q0, q1, by rw [z_upN (fun z => by rw [z] at hq; omega)]; exact hq⟩
  · by_cases z : q = p
    · rw [z, z_upS]; exact ⟨R, by omega, by omega, z_upS⟩
    · rw [z_upN z] at hq ⊢
      obtain ⟨k, k0, k1, hk⟩ := h4 q q0 q1 hq
      exact ⟨k, k0, by omega, by rw [z_upN (by omega)]; exact hk⟩
theorem zB.H_flo {b : BoatS} (h : zB b) {q : Int} (q0 : 0 ≤ q) (q1 : q < zn b) : zH b q < g0_flo b := by
  by_cases e : 0 ≤ zH b q
  · obtain ⟨k, k0, k1, hk⟩ := h.2.2.2.1.2.2.2 q q0 q1 e
    have := (h.2.2.2.1.2.2.1 k k0 k1).2.1
    omega
  · have := h.2.2.2.1.1.2.1; omega
/-- the count of those aboard behind one thrown -/
theorem zC_thrown {H : Int → Int} {n p r : Int} (p0 : 0 ≤ p) (p1 : p < n) (hp : H p = -1) (hr : 0 ≤ r) : zC (x_up H p r) (-1) n = zC H (-1) n - 1 := by
  unfold zC
  have e1 : xS (fun q => if x_up H p r q = -1 then 1 else 0) 0 n.toNat = xS (x_up (fun q => if H q = -1 then 1 else 0) p 0) 0 n.toNat := xS_congr _ _ (fun q _ _ => by
    by_cases z : q = p
    · rw [z, z_upS, z_upS, if_neg (by omega)]
    · rw [z_upN z, z_upN z])
  rw [e1, xS_up _ _ p0 (by omega), if_pos hp]; omega

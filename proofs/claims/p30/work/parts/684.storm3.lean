/-! A storm. -/
def zDc (s : Int) : Int := if s - 1 < 0 then 0 else s - 1
theorem zDc_rng {s : Int} (h0 : 0 ≤ s) (h1 : s ≤ 9) : 0 ≤ zDc s ∧ zDc s ≤ 9 := by unfold zDc; split <;> omega
def zDec (D S : Int → Int) (k R : Int) : Prop := ∀ t, 0 ≤ t → t < R → D t = if t < k then zDc (S t) else S t
theorem zDec_s {D S : Int → Int} {k R : Int} (h : zDec D S k R) : zDec (x_up D k (zDc (S k))) S (k + 1) R := fun t t0 t1 => by
  by_cases e : t = k
  · rw [e, z_upS, if_pos (by omega)]
  · rw [z_upN e, h t t0 t1]
    by_cases g : t < k
    · rw [if_pos g, if_pos (by omega)]
    · rw [if_neg g, if_neg (by omega)]
theorem zDec_rng {u : BoatS} {D : Int → Int} {k : Int} (hB : zB u) (h : zDec D (zS u) k (zR u)) : ∀ t, 0 ≤ t → t < zR u → 0 ≤ D t ∧ D t ≤ 9 := fun t t0 t1 => by
  have hk := hB.2.2.2.1.2.2.1 t t0 t1
  rw [h t t0 t1]
  by_cases g : t < k
  · rw [if_pos g]; exact zDc_rng hk.2.2.1 hk.2.2.2.1
  · rw [if_neg g]; exact ⟨hk.2.2.1, hk.2.2.2.1⟩
/-- the weakening of one float -/
theorem z0_weak {u : BoatS} {D : Int → Int} {k : Int} (hB : zB u) (h : zDec D (zS u) k (zR u)) (k0 : 0 ≤ k) (k1 : k < zR u) {f : RowS → Option (Int × BoatS)} : ((f2_get 120 (g0_strs (s0_strs u (zR u, D))) k).bind fun v10 => (x_max (v10 - 1) 0).bind fun v11 => (f2_set 120 (g0_strs (s0_strs u (zR u, D))) k v11).bind f) = f (zR u, x_up D k (zDc (zS u k))) := by
  have hk := hB.2.2.2.1.2.2.1 k k0 k1
  have hR := hB.R_le
  have h120 := hB.1.2.1
  have eD : D k = zS u k := by rw [h k k0 k1, if_neg (by omega)]
  have e1 : f2_get 120 (g0_strs (s0_strs u (zR u, D))) k = some (zS u k) := by
    rw [← eD]
    exact z2_get (N := 120) (r := (zR u, D)) (by show zR u ≤ (120 : Int); omega) (by show zR u ≤ 100000; omega) k0 k1
  rw [z_bind e1, z_bind (z_max ⟨by omega, by omega⟩ (by decide))]
  exact z_bind (z2_set (N := 120) (r := (zR u, D)) (by show zR u ≤ (120 : Int); omega) (by show zR u ≤ 100000; omega) k0 k1)
theorem ss0_strs {x : BoatS} {v w : RowS} : s0_strs (s0_strs x v) w = s0_strs x w := rfl

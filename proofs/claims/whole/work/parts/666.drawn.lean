/-! Many are loaded, with drawn keys and weights. -/
theorem z_lremT {a b : Int} (h0 : 0 ≤ a) (h1 : a ≤ 9223372036854775807) (h2 : 0 < b) (h3 : b ≤ 9223372036854775807) : x_lrem a b = some (a % b) := by
  unfold x_lrem; rw [if_pos ⟨h0, h1, h2, h3⟩]
theorem z_ldivT {a b : Int} (h0 : 0 ≤ a) (h1 : a ≤ 9223372036854775807) (h2 : 0 < b) (h3 : b ≤ 9223372036854775807) : x_ldiv a b = some (a / b) := by
  unfold x_ldiv; rw [if_pos ⟨h0, h1, h2, h3⟩]
theorem z_divT {a b : Int} (h0 : 0 ≤ a) (h1 : a ≤ 2147483647) (h2 : 0 < b) (h3 : b ≤ 2147483647) : x_div a b = some (a / b) := by
  unfold x_div; rw [if_pos ⟨h0, h1, h2, h3⟩]
theorem z_remT {a b : Int} (h0 : 0 ≤ a) (h1 : a ≤ 2147483647) (h2 : 0 < b) (h3 : b ≤ 2147483647) : x_rem a b = some (a % b) := by
  unfold x_rem; rw [if_pos ⟨h0, h1, h2, h3⟩]
theorem z0_allLoaded {b : BoatS} (hB : zB b) : f0_allLoaded b = some (if zn b < 120 then 0 else 1) := by
  have h0 := hB.1.1
  have h1 := hB.1.2.1
  unfold f0_allLoaded
  rw [z_bind (show f2_size 120 (g0_keys b) = some (zn b) from rfl)]
  by_cases h : zn b < 120
  · rw [z_ltT ⟨by omega, by omega⟩ (by decide) h, if_pos h]
  · rw [z_ltF ⟨by omega, by omega⟩ (by decide) h, if_neg h]
theorem zs_drawnL {p1 p2 n0 : Int} (hp1 : p1 ≤ 60) (hp2 : 1 ≤ p2) (hp3 : p2 ≤ 1000) : ∀ (m fu fu2 : Nat) (l k : Int) (b : BoatS) (x : ModS) (c : Int), zJ b (g5_now x) c → 0 ≤ l → l ≤ 2147483648 → 0 ≤ k → k + (m : Int) = p1 → zn b = n0 + k → m < fu → m < fu2 → c + (m : Int) < 1000000000 → ∃ v b' now', f0_takeDrawn_L14 p1 p2 fu l k b = some (v, b') ∧ f5_loadDrawn_L68 p1 p2 n0 fu2 l k x = some (v, s5_now x now') ∧ zJ b' now' (c + (m : Int)) ∧ 0 ≤ v ∧ v ≤ 60
  | 0, 0, _, _, _, _, _, _, _, _, _, _, _, _, h, _, _ => by omega
  | m + 1, 0, _, _, _, _, _, _, _, _, _, _, _, _, h, _, _ => by omega
  | 0, _ + 1, 0, _, _, _, _, _, _, _, _, _, _, _, _, h, _ => by omega
  | m + 1, _ + 1, 0, _, _, _, _, _, _, _, _, _, _, _, _, h, _ => by omega
  | 0, fu + 1, fu2 + 1, l, k, b, x, c, hJ, l0, l1, k0, km, hn, _, _, hc => by
    have h0 := hJ.1.1.1
    have h1 := hJ.1.1.2.1
    unfold f0_takeDrawn_L14 f5_loadDrawn_L68
    rw [z_ltF ⟨by omega, by omega⟩ ⟨by omega, by omega⟩ (by omega), z_ltF ⟨by omega, by omega⟩ ⟨by omega, by omega⟩ (by omega), z_bind (z5_n hJ.2.1.1)]
    refine ⟨k, b, g5_now x, rfl, ?_, ⟨hJ.1, hJ.2.1, zT_le hJ.2.2 (by omega)⟩, k0, by omega⟩
    rw [show zn b - n0 = k by omega]; rfl
  | m + 1, fu + 1, fu2 + 1, l, k, b, x, c, hJ, l0, l1, k0, km, hn, f1, f2, hc => by
    have h0 := hJ.1.1.1
    have h1 := hJ.1.1.2.1
    unfold f0_takeDrawn_L14 f5_loadDrawn_L68
    rw [z_ltT ⟨by omega, by omega⟩ ⟨by omega, by omega⟩ (by omega), z_ltT ⟨by omega, by omega⟩ ⟨by omega, by omega⟩ (by omega), z_bind (z0_allLoaded hJ.1), z_bind (z5_n hJ.2.1.1)]
    by_cases hq : zn b < 120
    · rw [if_pos hq, z_eqT (by decide) rfl, z_ltT ⟨by omega, by omega⟩ (by decide) hq]
      have q0 : 0 ≤ (l * 1103515245 + 12345) % 2147483648 := by omega
      have q1 : (l * 1103515245 + 12345) % 2147483648 ≤ 2147483647 := by omega
      rw [z_bind (z_lremT (a := l * 1103515245 + 12345) (b := 2147483648) (by omega) (by omega) (by decide) (by decide)), z_bind (z_lremT (a := l * 1103515245 + 12345) (b := 2147483648) (by omega) (by omega) (by decide) (by decide))]
      generalize (l * 1103515245 + 12345) % 2147483648 = y at q0 q1
      rw [z_bind (z_ldivT (a := y) (b := 65536) q0 (by omega) (by decide) (by decide)), z_ckT ⟨by omega, by omega⟩, z_bind (z_lremT (a := y / 65536) (b := p2) (by omega) (by omega) (by omega) (by omega)), z_bind (z_ldivT (a := y) (b := 1024) q0 (by omega) (by decide) (by decide)), z_bind (z_lremT (a := y / 1024) (b := 50) (by omega) (by omega) (by decide) (by decide))]
      rw [z_bind (z_ldivT (a := y) (b := 65536) q0 (by omega) (by decide) (by decide)), z_ckT ⟨by omega, by omega⟩, z_bind (z_lremT (a := y / 65536) (b := p2) (by omega) (by omega) (by omega) (by omega)), z_bind (z_ldivT (a := y) (b := 1024) q0 (by omega) (by decide) (by decide)), z_bind (z_lremT (a := y / 1024) (b := 50) (by omega) (by omega) (by decide) (by decide))]
      have e0 := Int.emod_nonneg (y / 65536) (show p2 ≠ 0 by omega)
      have e1 := Int.emod_lt_of_pos (y / 65536) (show 0 < p2 by omega)
      obtain ⟨v, b1, now1, t1, t2, t3, t4, t5, t6, t7⟩ := zs_take hJ (by omega) (key := y / 65536 % p2) (w := y / 1024 % 50 + 1) hq e0 (by omega) (by omega) (by omega)
      rw [z_bind2 t1, z_bind2 t2]
      dsimp only
      obtain ⟨v', b', now', r1, r2, r3, r4, r5⟩ := zs_drawnL (n0 := n0) hp1 hp2 hp3 m fu fu2 y (k + 1) b1 (s5_now x now1) (c + 1) t3 q0 (by omega) (by omega) (by omega) (by rw [t4]; omega) (by omega) (by omega) (by omega)
      refine ⟨v', b', now', r1, r2, ?_, r4, r5⟩
      rw [show c + ((m + 1 : Nat) : Int) = c + 1 + (m : Int) by omega]; exact r3
    · rw [if_neg hq, z_eqF (by decide) (by decide) (by decide), z_ltF ⟨by omega, by omega⟩ (by decide) hq, z_bind (z5_n hJ.2.1.1)]
      refine ⟨k, b, g5_now x, rfl, ?_, ⟨hJ.1, hJ.2.1, zT_le hJ.2.2 (by omega)⟩, k0, by omega⟩
      rw [show zn b - n0 = k by omega]; rfl
theorem zs_drawn {b : BoatS} {x : ModS} {c seed p1 p2 : Int} (hJ : zJ b (g5_now x) c) (hc : c + 60 < 1000000000) (s0 : 0 ≤ seed) (s1 : seed ≤ 999999) (a0 : 1 ≤ p1) (a1 : p1 ≤ 60) (hp2 : 1 ≤ p2) (hp3 : p2 ≤ 1000) : ∃ v b' now', f0_takeDrawn b seed p1 p2 = some (v, b') ∧ f5_loadDrawn_L68 p1 p2 (zn b) xFU seed 0 x = some (v, s5_now x now') ∧ zJ b' now' (c + 60) ∧ 0 ≤ v ∧ v ≤ 60 := by
  obtain ⟨v, b', now', r1, r2, r3, r4, r5⟩ := zs_drawnL (n0 := zn b) a1 hp2 hp3 p1.toNat xFU xFU seed 0 b x c hJ s0 (by omega) (by omega) (by omega) (by omega) (by unfold xFU; omega) (by unfold xFU; omega) (by omega)
  refine ⟨v, b', now', ?_, r2, ⟨r3.1, r3.2.1, zT_le r3.2.2 (by omega)⟩, r4, r5⟩
  unfold f0_takeDrawn
  rw [z_ltF ⟨by omega, by omega⟩ (by decide) (by omega), z_ckT ⟨by omega, by omega⟩]; exact r1

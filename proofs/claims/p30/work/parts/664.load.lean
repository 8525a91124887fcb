/-! All are thrown; one is loaded. -/
theorem zB_opn {b : BoatS} (hB : zB b) : zB (s0_opn b (-1)) := ⟨hB.1, hB.2.1, hB.2.2.1, hB.2.2.2.1, Or.inl rfl, hB.2.2.2.2.2⟩
/-! where a new parcel comes in the order -/
theorem xS_lt (k m : Nat) (h : k ≤ m) : xS (fun q => if q < (k : Int) then 1 else 0) 0 m = (k : Int) := by
  have e : m = k + (m - k) := by omega
  rw [e, xS_app]
  have e1 : xS (fun q => if q < (k : Int) then 1 else 0) 0 k = xS (fun _ => 1) 0 k := xS_congr _ _ (fun q _ _ => if_pos (by omega))
  have e2 : xS (fun q => if q < (k : Int) then 1 else 0) (0 + (k : Int)) (m - k) = xS (fun _ => 0) (0 + (k : Int)) (m - k) := xS_congr _ _ (fun q _ _ => if_neg (by omega))
  rw [e1, e2, xS_one, xS_zero]; omega
theorem xS_cut {P : Int → Prop} [∀ p, Decidable (P p)] {m : Nat} (hd : ∀ i j, 0 ≤ i → i ≤ j → j < (m : Int) → P j → P i) {j : Int} (j0 : 0 ≤ j) (j1 : j < (m : Int)) : P j ↔ j < xS (fun q => if P q then 1 else 0) 0 m := by
  constructor
  · intro h
    have e := xS_lt (j.toNat + 1) m (by omega)
    have l : xS (fun q => if q < ((j.toNat + 1 : Nat) : Int) then 1 else 0) 0 m ≤ xS (fun q => if P q then 1 else 0) 0 m := xS_le _ _ (fun q q0 q1 => by
      by_cases z : q < ((j.toNat + 1 : Nat) : Int)
      · rw [if_pos z, if_pos (hd q j q0 (by omega) j1 h)]; omega
      · rw [if_neg z]; split <;> omega)
    omega
  · intro h
    refine Classical.byContradiction fun hn => ?_
    have e := xS_lt j.toNat m (by omega)
    have l : xS (fun q => if P q then 1 else 0) 0 m ≤ xS (fun q => if q < (j.toNat : Int) then 1 else 0) 0 m := xS_le _ _ (fun q q0 q1 => by
      by_cases z : P q
      · rw [if_pos z]
        by_cases w : q < (j.toNat : Int)
        · rw [if_pos w]; omega
        · exact absurd (hd j q j0 (by omega) (by omega) z) hn
      · rw [if_neg z]; split <;> omega)
    omega
theorem zOrd_ins {K O : Int → Int} {n : Int} (hn : 0 ≤ n) (h : zOrd K O n) (key : Int) : zOrd (x_up K n key) (zIns O (xS (fun p => if K p ≤ key then 1 else 0) 0 n.toNat) n n) (n + 1) ∧ 0 ≤ xS (fun p => if K p ≤ key then 1 else 0) 0 n.toNat ∧ xS (fun p => if K p ≤ key then 1 else 0) 0 n.toNat ≤ n := by
  have b0 : 0 ≤ xS (fun p => if K p ≤ key then 1 else 0) 0 n.toNat := xS_nonneg _ _ (fun p _ _ => by split <;> omega)
  have b1 : xS (fun p => if K p ≤ key then 1 else 0) 0 n.toNat ≤ n := by
    have := xS_le (f := fun p => if K p ≤ key then 1 else 0) (g := fun _ => 1) n.toNat 0 (fun p _ _ => by split <;> omega)
    rw [xS_one] at this; omega
  have e0 : xS (fun p => if K p ≤ key then 1 else 0) 0 n.toNat = xS (fun i => if K (O i) ≤ key then 1 else 0) 0 n.toNat := (zPerm_sum h.2 (fun p => if K p ≤ key then 1 else 0)).symm
  have cut : ∀ j, 0 ≤ j → j < n → (K (O j) ≤ key ↔ j < xS (fun p => if K p ≤ key then 1 else 0) 0 n.toNat) := fun j j0 j1 => by
    rw [e0]
    refine xS_cut (P := fun i => K (O i) ≤ key) (fun i j a c d e => ?_) j0 (by omega)
    by_cases z : i = j
    · rw [z]; exact e
    · have := h.1 i j a (by omega) (by omega)
      have e' : K (O j) ≤ key := e
      show K (O i) ≤ key
      unfold zl at this; omega
  generalize xS (fun p => if K p ≤ key then 1 else 0) 0 n.toNat = i at b0 b1 cut
  have rng : ∀ j, 0 ≤ j → j < n → 0 ≤ O j ∧ O j < n := fun j j0 j1 => by have := h.2.1 j j0 (by omega); omega
  have st : ∀ a c, 0 ≤ a → a < c → c < n + 1 → zl (x_up K n key) (zIns O i n n a) (zIns O i n n c) := fun a c a0 ac c1 => by
    unfold zIns
    by_cases ea : a = i
    · rw [if_pos ea, if_neg (by omega), if_pos ⟨by omega, by omega⟩]
      have r := rng (c - 1) (by omega) (by omega)
      have k := cut (c - 1) (by omega) (by omega)
      refine Or.inl ?_
      rw [z_upS, z_upN (by omega)]; omega
    · rw [if_neg ea]
      by_cases ec : c = i
      · rw [if_pos ec, if_neg (by omega)]
        have r := rng a (by omega) (by omega)
        have k := cut a (by omega) (by omega)
        unfold zl
        rw [z_upS, z_upN (by omega)]; omega
      · rw [if_neg ec]
        have old : ∀ a' c', 0 ≤ a' → a' < c' → c' < n → zl (x_up K n key) (O a') (O c') := fun a' c' h0 h1 h2 => by
          have r1 := rng a' h0 (by omega)
          have r2 := rng c' (by omega) h2
          have := h.1 a' c' h0 h1 h2
          unfold zl at this ⊢
          rw [z_upN (by omega), z_upN (by omega)]; exact this
        by_cases ga : i < a ∧ a ≤ n
        · rw [if_pos ga, if_pos ⟨by omega, by omega⟩]
          exact old _ _ (by omega) (by omega) (by omega)
        · rw [if_neg ga]
          by_cases gc : i < c ∧ c ≤ n
          · rw [if_pos gc]; exact old _ _ (by omega) (by omega) (by omega)
          · rw [if_neg gc]; exact old _ _ (by omega) (by omega) (by omega)
  refine ⟨⟨st, fun j j0 j1 => ?_, fun p p0 p1 => ?_, fun a c a0 a1 c0 c1 e => ?_⟩, b0, b1⟩
  · unfold zIns
    by_cases ej : j = i
    · rw [if_pos ej]; omega
    · rw [if_neg ej]
      by_cases g : i < j ∧ j ≤ n
      · rw [if_pos g]; have := rng (j - 1) (by omega) (by omega); omega
      · rw [if_neg g]; have := rng j (by omega) (by omega); omega
  · by_cases ep : p = n
    · refine ⟨i, b0, by omega, ?_⟩
      unfold zIns; rw [if_pos rfl, ep]
    · obtain ⟨t, t0, t1, ht⟩ := h.2.2.1 p p0 (by omega)
      by_cases g : t < i
      · refine ⟨t, t0, by omega, ?_⟩
        unfold zIns; rw [if_neg (by omega), if_neg (by omega)]; exact ht
      · refine ⟨t + 1, by omega, by omega, ?_⟩
        unfold zIns; rw [if_neg (by omega), if_pos ⟨by omega, by omega⟩, show t + 1 - 1 = t by omega]; exact ht
  · rcases Int.lt_trichotomy a c with z | z | z
    · have := st a c a0 z (by omega)
      rw [e] at this; exact absurd this zl_irr
    · exact z
    · have := st c a c0 z (by omega)
      rw [e] at this; exact absurd this zl_irr
theorem xS_ext {f : Int → Int} {n : Int} (hn : 0 ≤ n) : xS f 0 (n + 1).toNat = xS f 0 n.toNat + f n := by
  rw [show (n + 1).toNat = n.toNat + 1 by omega, xS_snoc]
  rw [show (0 : Int) + (n.toNat : Int) = n by omega]
theorem zC_ext {H : Int → Int} {n v h : Int} (hn : 0 ≤ n) : zC (x_up H n v) h (n + 1) = zC H h n + (if v = h then 1 else 0) := by
  unfold zC
  rw [xS_ext hn, z_upS]
  rw [xS_congr (f := fun p => if x_up H n v p = h then 1 else 0) (g := fun p => if H p = h then 1 else 0) _ _ (fun p _ _ => by rw [z_upN (by omega)])]
theorem zRun_ext {H W F S G : Int → Int} {n R flo w : Int} (hn : 0 ≤ n) (h : zRun H W F S G n R flo) : zRun (x_up H n (-1)) (x_up W n w) F S G (n + 1) R flo := by
  obtain ⟨h1, h2, h3, h4⟩ := h
  refine ⟨h1, h2, fun k k0 k1 => ?_, fun p p0 p1 hp => ?_⟩
  · have hk := h3 k k0 k1
    refine ⟨hk.1, hk.2.1, hk.2.2.1, hk.2.2.2.1, ?_, ?_⟩
    · rw [xS_ext hn, z_upS, if_neg (by omega), hk.2.2.2.2.1, xS_congr (f := fun p => if x_up H n (-1) p = F k then x_up W n w p else 0) (g := fun p => if H p = F k then W p else 0) _ _ (fun p _ _ => by rw [z_upN (by omega), z_upN (by omega)])]
      omega
    · obtain ⟨q, q0, q1, hq⟩ := hk.2.2.2.2.2
      exact ⟨q, q0, by omega, by rw [z_upN (by omega)]; exact hq⟩
  · by_cases e : p = n
    · rw [e, z_upS] at hp; omega
    · rw [z_upN e] at hp ⊢; exact h4 p p0 (by omega) hp
def bTake (b : BoatS) (key w : Int) : BoatS := s0_homs (s0_weis (s0_keys (s0_ords b (zn b + 1, zIns (zO b) (xS (fun p => if zK b p ≤ key then 1 else 0) 0 (zn b).toNat) (zn b) (zn b))) (zn b + 1, x_up (zK b) (zn b) key)) (zn b + 1, x_up (zW b) (zn b) w)) (zn b + 1, x_up (zH b) (zn b) (-1))
theorem zB_take {b : BoatS} (hB : zB b) {key w : Int} (hn : zn b < 120) (hr : zC (zH b) (-1) (zn b) < g0_room b) (k0 : 0 ≤ key) (k1 : key ≤ 999) (w0 : 1 ≤ w) (w1 : w ≤ 50) : zB (bTake b key w) := by
  have hn0 := hB.1.1
  have hrm := hB.2.2.2.2.2
  refine ⟨⟨by show 0 ≤ zn b + 1; omega, by show zn b + 1 ≤ 120; omega, fun p p0 p1 => ?_⟩, ⟨rfl, rfl, rfl, hB.2.1.2.2.2.1, hB.2.1.2.2.2.2⟩, (zOrd_ins hn0 hB.2.2.1 key).1, zRun_ext hn0 hB.2.2.2.1, hB.2.2.2.2.1, hrm.1, hrm.2.1, ?_⟩
  · show 0 ≤ x_up (zK b) (zn b) key p ∧ x_up (zK b) (zn b) key p ≤ 999 ∧ 1 ≤ x_up (zW b) (zn b) w p ∧ x_up (zW b) (zn b) w p ≤ 50 ∧ -2 ≤ x_up (zH b) (zn b) (-1) p ∧ x_up (zH b) (zn b) (-1) p ≤ 1000000000
    by_cases e : p = zn b
    · rw [e, z_upS, z_upS, z_upS]; omega
    · have p1' : p < zn b + 1 := p1
      rw [z_upN e, z_upN e, z_upN e]; exact hB.1.2.2 p p0 (by omega)
  · show zC (x_up (zH b) (zn b) (-1)) (-1) (zn b + 1) ≤ g0_room b
    rw [zC_ext hn0, if_pos rfl]; omega
theorem zB.xK {b : BoatS} (h : zB b) {p : Int} (p0 : 0 ≤ p) (p1 : p < zn b) : xin (zK b p) := by
  have := h.1.2.2 p p0 p1
  exact ⟨by omega, by omega⟩
theorem z0_ngL {b : BoatS} (hB : zB b) {key : Int} (hk : xin key) : ∀ (m fu : Nat) (acc i : Int), 0 ≤ i → i + (m : Int) = zn b → m < fu → f0_notGreater_L4 b key fu acc i = some (acc + xS (fun p => if zK b p ≤ key then 1 else 0) i m)
  | 0, 0, _, _, _, _, q => by omega
  | m + 1, 0, _, _, _, _, q => by omega
  | 0, fu + 1, acc, i, h0, h1, _ => by
    have hn := hB.1.2.1
    unfold f0_notGreater_L4
    rw [z_bind (show f2_size 120 (g0_keys b) = some (zn b) from rfl), z_ltF ⟨by omega, by omega⟩ ⟨by omega, by omega⟩ (by omega)]
    show some acc = some (acc + 0)
    rw [Int.add_zero]
  | m + 1, fu + 1, acc, i, h0, h1, q => by
    have hn := hB.1.2.1
    unfold f0_notGreater_L4
    rw [z_bind (show f2_size 120 (g0_keys b) = some (zn b) from rfl), z_ltT ⟨by omega, by omega⟩ ⟨by omega, by omega⟩ (by omega), z_bind (hB.getK h0 (by omega))]
    by_cases e : key < zK b i
    · rw [z_ltT hk (hB.xK h0 (by omega)) e, z0_ngL hB hk m fu _ _ (by omega) (by omega) (by omega)]
      show _ = some (acc + ((if zK b i ≤ key then 1 else 0) + xS (fun p => if zK b p ≤ key then 1 else 0) (i + 1) m))
      rw [if_neg (by omega)]
      exact congrArg some (by omega)
    · rw [z_ltF hk (hB.xK h0 (by omega)) e, z0_ngL hB hk m fu _ _ (by omega) (by omega) (by omega)]
      show _ = some (acc + ((if zK b i ≤ key then 1 else 0) + xS (fun p => if zK b p ≤ key then 1 else 0) (i + 1) m))
      rw [if_pos (by omega)]
      exact congrArg some (by omega)
theorem z0_ng {b : BoatS} (hB : zB b) {key : Int} (hk : xin key) : f0_notGreater b key = some (xS (fun p => if zK b p ≤ key then 1 else 0) 0 (zn b).toNat) := by
  have h0 := hB.1.1
  have h1 := hB.1.2.1
  unfold f0_notGreater
  rw [z0_ngL hB hk (zn b).toNat xFU 0 0 (by omega) (by omega) (by unfold xFU; omega), Int.zero_add]
theorem z0_takeIn {b : BoatS} (hB : zB b) (v : Int) {key w : Int} (hn : zn b < 120) (k0 : 0 ≤ key) (k1 : key ≤ 999) : ((f0_notGreater b key).bind fun v3 => (f2_size 120 (g0_keys b)).bind fun v4 => (f2_insert 120 (g0_ords b) v3 v4).bind fun r5 => (f2_add 120 (g0_keys b) key).bind fun r6 => (f2_add 120 (g0_weis b) w).bind fun r7 => (f2_add 120 (g0_homs b) (-1)).bind fun r8 => some (v, s0_homs (s0_weis (s0_keys (s0_ords b r5) r6) r7) r8)) = some (v, bTake b key w) := by
  have hn0 := hB.1.1
  have hi := (zOrd_ins hn0 hB.2.2.1 key).2
  rw [z_bind (z0_ng hB ⟨by omega, by omega⟩), z_bind (show f2_size 120 (g0_keys b) = some (zn b) from rfl), hB.eO, hB.eW, hB.eH]
  rw [z_bind (z2_insert (N := 120) (r := (zn b, zO b)) (by show zn b < (120 : Int); omega) (by show zn b < 1000; omega) (by decide) hi.1 hi.2)]
  rw [z_bind (z2_add (N := 120) (r := g0_keys b) hn0 (by show zn b < (120 : Int); omega) (by show zn b < 1000; omega) (by decide))]
  rw [z_bind (z2_add (N := 120) (r := (zn b, zW b)) hn0 (by show zn b < (120 : Int); omega) (by show zn b < 1000; omega) (by decide))]
  rw [z_bind (z2_add (N := 120) (r := (zn b, zH b)) hn0 (by show zn b < (120 : Int); omega) (by show zn b < 1000; omega) (by decide))]
  rfl

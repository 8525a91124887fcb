/-! The law: every choice of every act keeps both sides the same; its loop ends well. -/
theorem zk_ch {F G H : (Int → Int) → Int → ModS → BrS → (Int → Int) → Option (ModS × BrS × (Int → Int))} {k : Int} (hk : xin k) (hF : zKK F) (hG : zKK G) (e : ∀ xi i x y o, H xi i x y o = x_eq (xi i % 32) k (F xi i x y o) (G xi i x y o)) : zKK H := by
  intro xi i x y o c hx c0 hc hz
  have hm : xin (xi i % 32) := ⟨by omega, by omega⟩
  rw [e]
  by_cases g : xi i % 32 = k
  · rw [z_eqT hm g]; exact hF xi i x y o c hx c0 hc hz
  · rw [z_eqF hm hk g]; exact hG xi i x y o c hx c0 hc hz
theorem zk_27 : zKK fS_27 := by
  intro xi i x y o c hx c0 hc hz
  exact ⟨x, y, o, rfl, zGl_le hz (by omega)⟩
theorem zk_26 : zKK fS_26 := zk_ch (k := 26) (by decide) zk_digest zk_27 (fun _ _ _ _ _ => rfl)
theorem zk_25 : zKK fS_25 := zk_ch (k := 25) (by decide) zk_undo zk_26 (fun _ _ _ _ _ => rfl)
theorem zk_24 : zKK fS_24 := zk_ch (k := 24) (by decide) zk_carryOut zk_25 (fun _ _ _ _ _ => rfl)
theorem zk_23 : zKK fS_23 := zk_ch (k := 23) (by decide) zk_clearText zk_24 (fun _ _ _ _ _ => rfl)
theorem zk_22 : zKK fS_22 := zk_ch (k := 22) (by decide) zk_append zk_23 (fun _ _ _ _ _ => rfl)
theorem zk_21 : zKK fS_21 := zk_ch (k := 21) (by decide) zk_inversions zk_22 (fun _ _ _ _ _ => rfl)
theorem zk_20 : zKK fS_20 := zk_ch (k := 20) (by decide) zk_leastRoom zk_21 (fun _ _ _ _ _ => rfl)
theorem zk_19 : zKK fS_19 := zk_ch (k := 19) (by decide) zk_runsWith zk_20 (fun _ _ _ _ _ => rfl)
theorem zk_18 : zKK fS_18 := zk_ch (k := 18) (by decide) zk_costByNumber zk_19 (fun _ _ _ _ _ => rfl)
theorem zk_17 : zKK fS_17 := zk_ch (k := 17) (by decide) zk_costByWeight zk_18 (fun _ _ _ _ _ => rfl)
theorem zk_16 : zKK fS_16 := zk_ch (k := 16) (by decide) zk_runsIfEmptied zk_17 (fun _ _ _ _ _ => rfl)
theorem zk_15 : zKK fS_15 := zk_ch (k := 15) (by decide) zk_nextThrown zk_16 (fun _ _ _ _ _ => rfl)
theorem zk_14 : zKK fS_14 := zk_ch (k := 14) (by decide) zk_value zk_15 (fun _ _ _ _ _ => rfl)
theorem zk_13 : zKK fS_13 := zk_ch (k := 13) (by decide) zk_runAt zk_14 (fun _ _ _ _ _ => rfl)
theorem zk_12 : zKK fS_12 := zk_ch (k := 12) (by decide) zk_ashore zk_13 (fun _ _ _ _ _ => rfl)
theorem zk_11 : zKK fS_11 := zk_ch (k := 11) (by decide) zk_inRun zk_12 (fun _ _ _ _ _ => rfl)
theorem zk_10 : zKK fS_10 := zk_ch (k := 10) (by decide) zk_run zk_11 (fun _ _ _ _ _ => rfl)
theorem zk_9 : zKK fS_9 := zk_ch (k := 9) (by decide) zk_parcel zk_10 (fun _ _ _ _ _ => rfl)
theorem zk_8 : zKK fS_8 := zk_ch (k := 8) (by decide) zk_land zk_9 (fun _ _ _ _ _ => rfl)
theorem zk_7 : zKK fS_7 := zk_ch (k := 7) (by decide) zk_tighten zk_8 (fun _ _ _ _ _ => rfl)
theorem zk_6 : zKK fS_6 := zk_ch (k := 6) (by decide) zk_storm zk_7 (fun _ _ _ _ _ => rfl)
theorem zk_5 : zKK fS_5 := zk_ch (k := 5) (by decide) zk_mergeLightest zk_6 (fun _ _ _ _ _ => rfl)
theorem zk_4 : zKK fS_4 := zk_ch (k := 4) (by decide) zk_merge zk_5 (fun _ _ _ _ _ => rfl)
theorem zk_3 : zKK fS_3 := zk_ch (k := 3) (by decide) zk_empty zk_4 (fun _ _ _ _ _ => rfl)
theorem zk_2 : zKK fS_2 := zk_ch (k := 2) (by decide) zk_loadDrawn zk_3 (fun _ _ _ _ _ => rfl)
theorem zk_1 : zKK fS_1 := zk_ch (k := 1) (by decide) zk_load zk_2 (fun _ _ _ _ _ => rfl)
theorem zk_0 : zKK fS_0 := zk_ch (k := 0) (by decide) zk_begin zk_1 (fun _ _ _ _ _ => rfl)
theorem zk_S : zKK fS := by
  intro xi i x y o c hx c0 hc hz
  unfold fS
  rw [if_pos ⟨by omega, by omega⟩]
  exact zk_0 xi i x y o c hx c0 hc hz
theorem zk_law {xi : Int → Int} {L : Int} (hL0 : 0 ≤ L) (hL : L ≤ 2048) (hx : ∀ j, xin (xi j)) : ∀ (n : Nat) (i : Int) (x : ModS) (y : BrS) (o : Int → Int) (c : Int), 0 ≤ i → i ≤ 3000 → L < i + 4 * (n : Int) → 0 ≤ c → c + 400000 * (n : Int) < 1000000000 → zGl y x c → fLaw xi L (n + 1) i x y o = some ()
  | 0, i, x, y, o, c, i0, i1, hn, c0, hc, hz => by
    unfold fLaw
    rw [z_ltT ⟨by omega, by omega⟩ ⟨by omega, by omega⟩ (by omega)]
  | n + 1, i, x, y, o, c, i0, i1, hn, c0, hc, hz => by
    unfold fLaw
    by_cases g : L - 4 < i
    · rw [z_ltT ⟨by omega, by omega⟩ ⟨by omega, by omega⟩ g]
    · obtain ⟨x1, y1, o1, e, hz1⟩ := zk_S xi i x y o c hx c0 (by omega) hz
      rw [z_ltF ⟨by omega, by omega⟩ ⟨by omega, by omega⟩ g, e]
      exact zk_law hL0 hL hx n (i + 4) x1 y1 o1 (c + 400000) (by omega) (by omega) (by omega) (by omega) (by omega) hz1
/-- how both begin -/
theorem zGl_0 : zGl i4 i5a 0 := by
  have hB : zB (bStart i0 4) := zB_start (by decide) (by decide)
  have e0 : bStart i0 4 = i0 := rfl
  rw [e0] at hB
  refine ⟨⟨hB, ?_, ?_⟩, ⟨⟨rfl, by decide, by decide, by decide, by decide⟩, fun j j0 j1 => ?_⟩, rfl, by decide, by decide, fun j j0 j1 => ?_⟩
  · have h := zRel_anew (b := i0) (room := 4) (now := x_up (x_up (fun _ => 0) 0 4) 6 (-1)) (by rw [z_upN (by decide), z_upS]) (by rw [z_upS]) (fun k k0 k1 n0 n6 => by rw [z_upN n6, z_upN n0])
    rw [e0] at h
    exact h
  · exact ⟨by decide, ⟨by decide, by decide⟩, ⟨by decide, by decide⟩, ⟨by decide, by decide⟩, ⟨by decide, by decide⟩⟩
  · have j1' : j < 0 := j1
    omega
  · have j1' : j < 0 := j1
    omega
theorem zk_whole (xs : Nat → Int32) {L : Nat} (hL : L ≤ 2048) (o : Int → Int) : fLaw (x_sc xs) (L : Int) 514 0 i5a i4 o = some () := zk_law (by omega) (by omega) (x_sc_in xs) 513 0 i5a i4 o 0 (by decide) (by decide) (by omega) (by decide) (by decide) zGl_0

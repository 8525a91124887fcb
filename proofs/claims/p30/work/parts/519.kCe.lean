set_option maxHeartbeats 8000000 in
set_option maxRecDepth 100000 in
theorem kL_isStormy (l : Launch) (hlS : l.stackTraces = false) (dC : Nat → ClassId) (dI : Nat → Nat → Nat) (cs : Nat → ClassId) (aa : Nat) (ah : Nat) (af : Nat) (a : Nat → Nat) (sz : Nat) (va : Int → Int) (vh : Int → Int) (vf : Int → Int) (y : BrS) (p4 : Int) (res : Int × (Int → Int) × (Int → Int) × (Int → Int) × BrS) (hf : fL_isStormy va vh vf y p4 = some res) : Met l yL_isStormy wsL_isStormy ({ frames := 8, cells := 2, slots := 7, locals := 160 } : Room) (va_Pc [.ref (a 0), .ref aa, .ref ah, .ref af, .int (iI p4)] (xPL (dC, dI) vwCl (([[qcC cs aa 64 va], [qcC cs ah 8 vh], [qcC cs af 64 vf]] ++ w4 cs a y).flatten) (xT cs) sz)) (xQi (dC, dI) vwCl (([[qcC cs aa 64 va], [qcC cs ah 8 vh], [qcC cs af 64 vf]] ++ w4 cs a y).flatten) (([[qcC cs aa 64 res.2.1], [qcC cs ah 8 res.2.2.1], [qcC cs af 64 res.2.2.2.1]] ++ w4 cs a res.2.2.2.2).flatten) sz res.1) 2 7 (va_A (([[qcC cs aa 64 va], [qcC cs ah 8 vh], [qcC cs af 64 vf]] ++ w4 cs a y).flatten) sz) := by
  refine Met.ofW (cc := cL_isStormy) (maxL := 6) (ret := (some .boolean)) (by decide) rfl ?_
  intro p e s m args below meth c s₁ B hml hv
  obtain ⟨rfl, ⟨⟨hsz, hP, hK, hD0⟩, hTh⟩, hN⟩ := hv
  have hx := B.exec
  have hb := B.bytes
  have hr := B.returns
  have hts := atoms_spec (ws := wsL_isStormy) B.pre
  have hown : s.vm.findClass RL = some m.cls := findClass_of_methodNamed B.named
  have hlocks := B.notSynchronized
  subst hsz
  have hD := hD0.self (sz := s.heap.size)
  have hA : ∀ z9 : Nat, s.heap.size ≤ z9 → va_A (([[qcC cs aa 64 va], [qcC cs ah 8 vh], [qcC cs af 64 vf]] ++ w4 cs a y).flatten) s.heap.size z9 := fun z9 h => Or.inr h
  have hS : va_S (va_A (([[qcC cs aa 64 va], [qcC cs ah 8 vh], [qcC cs af 64 vf]] ++ w4 cs a y).flatten) s.heap.size) s.heap s.heap [] := va_S.rf
  have hl := lv_entry [.ref (a 0), .ref aa, .ref ah, .ref af, .int (iI p4)] (n := 6) (Nat.le_of_ble_eq_true rfl)
  rw [lg_entry_eq]
  generalize (lg_sl [.ref (a 0), .ref aa, .ref ah, .ref af, .int (iI p4)] ++ List.replicate (6 - (lg_sl [.ref (a 0), .ref aa, .ref ah, .ref af, .int (iI p4)]).length) Slot.unset).toArray = ls at hl ⊢
  have hl : lv_has ls 6 [(0, .ref (a 0)), (1, .ref aa), (2, .ref ah), (3, .ref af), (4, .int (iI p4))] := hl
  unfold fL_isStormy at hf
  refine xk_iconst hx hb dL_isStormy_0 ?_
  refine va_newa (atype := .int) (ty := .int) (N' := 1) (a0 := (1, .inl (xA (fun _ => 0)))) hx hb (hts (.arrayClass .int) (by decide +kernel)) rfl hK hP (x_addrF hD rfl) hS hA (fun cA => x_zero cA 1) (by decide) (by decide) (Nat.le_of_ble_eq_true rfl) (by show _ ≤ 2; omega) (by show _ ≤ 7; omega) dL_isStormy_1 (fun ao cA H hK1 hP hD hS => ?_)
  obtain rfl := x_kind 0 hK1 (cB := cs 0) rfl (fun C h => by cases h)
  have hP : va_P (dC, dI) vwCl (([[qcC cs aa 64 va], [qcC cs ah 8 vh], [qcC cs af 64 vf], [qcC cs ao 1 (fun _ => 0)]] ++ w4 cs a y).flatten) H := hP.sub (ws' := ([[qcC cs aa 64 va], [qcC cs ah 8 vh], [qcC cs af 64 vf], [qcC cs ao 1 (fun _ => 0)]] ++ w4 cs a y).flatten) [0, 1, 2, 105, 3, 4, 5, 6, 7, 8, 9, 10, 11, 12, 13, 14, 15, 16, 17, 18, 19, 20, 21, 22, 23, 24, 25, 26, 27, 28, 29, 30, 31, 32, 33, 34, 35, 36, 37, 38, 39, 40, 41, 42, 43, 44, 45, 46, 47, 48, 49, 50, 51, 52, 53, 54, 55, 56, 57, 58, 59, 60, 61, 62, 63, 64, 65, 66, 67, 68, 69, 70, 71, 72, 73, 74, 75, 76, 77, 78, 79, 80, 81, 82, 83, 84, 85, 86, 87, 88, 89, 90, 91, 92, 93, 94, 95, 96, 97, 98, 99, 100, 101, 102, 103, 104] rfl
  have hD : va_D (va_A (([[qcC cs aa 64 va], [qcC cs ah 8 vh], [qcC cs af 64 vf]] ++ w4 cs a y).flatten) s.heap.size) (([[qcC cs aa 64 va], [qcC cs ah 8 vh], [qcC cs af 64 vf], [qcC cs ao 1 (fun _ => 0)]] ++ w4 cs a y).flatten) := hD.sub (ws' := ([[qcC cs aa 64 va], [qcC cs ah 8 vh], [qcC cs af 64 vf], [qcC cs ao 1 (fun _ => 0)]] ++ w4 cs a y).flatten) [0, 1, 2, 105, 3, 4, 5, 6, 7, 8, 9, 10, 11, 12, 13, 14, 15, 16, 17, 18, 19, 20, 21, 22, 23, 24, 25, 26, 27, 28, 29, 30, 31, 32, 33, 34, 35, 36, 37, 38, 39, 40, 41, 42, 43, 44, 45, 46, 47, 48, 49, 50, 51, 52, 53, 54, 55, 56, 57, 58, 59, 60, 61, 62, 63, 64, 65, 66, 67, 68, 69, 70, 71, 72, 73, 74, 75, 76, 77, 78, 79, 80, 81, 82, 83, 84, 85, 86, 87, 88, 89, 90, 91, 92, 93, 94, 95, 96, 97, 98, 99, 100, 101, 102, 103, 104] (by decide +kernel) rfl
  refine lv_astore (lv' := [(5, .ref ao), (0, .ref (a 0)), (1, .ref aa), (2, .ref ah), (3, .ref af), (4, .int (iI p4))]) hx hb dL_isStormy_3 hl (by decide) rfl (fun ls hl => ?_)
  refine lv_iload hx hb dL_isStormy_5 (lv_at hl 5 rfl) ?_
  refine xk_iconst hx hb dL_isStormy_7 ?_
  obtain ⟨c1a, c1b, c1t, c1f⟩ := x_ltE hf
  refine xk_icmp_lt (tgt := 32) hx hb c1a c1b dL_isStormy_8 (by decide) (fun c1 => ?_) (fun c1 => ?_)
  · have hf := c1t c1
    refine lv_aload_n hx hb dL_isStormy_32 rfl (lv_at hl 1 rfl) ?_
    refine lv_iload hx hb dL_isStormy_33 (lv_at hl 5 rfl) ?_
    obtain ⟨c2a, c2b, c2t, c2f⟩ := x_ltE hf
    refine xk_if_le (tgt := 50) hx hb c2b dL_isStormy_35 (by decide) (fun c2 => ?_) (fun c2 => ?_)
    · have hf := c2t c2
      refine lv_iload hx hb dL_isStormy_38 (lv_at hl 5 rfl) ?_
      refine xk_bipush hx hb dL_isStormy_40 (by decide) ?_
      obtain ⟨c3a, c3b, c3t, c3f⟩ := x_ltE hf
      refine xk_icmp_ge (tgt := 50) hx hb c3a c3b dL_isStormy_42 (by decide) (fun c3 => ?_) (fun c3 => ?_)
      · have hf := c3t c3
        refine xk_bipush hx hb dL_isStormy_45 (by decide) ?_
        refine lv_goto (tgt := 52) hx hb dL_isStormy_47 (by decide) ?_
        refine lv_aload hx hb dL_isStormy_52 (lv_at hl 0 rfl) ?_
        obtain ⟨⟨v6, g4, y5⟩, ev6, hf⟩ := x_bind hf
        refine xf_sw (As := [.ref (a 0), .int (iI 10), .ref ao]) (rest := []) (wcs := [[qcC cs ao 1 (fun _ => 0)]] ++ w4 cs a y) (w1s := [[qcC cs ao 1 g4]] ++ w4 cs a y5) ⟨hx, hb, hml, hown, hts⟩ (kL_storm l hlS dC dI cs ao a H.size (fun _ => 0) y 10 _ ev6) (vx_cwSW 3 hts gL_isStormy_L_storm rfl rfl rfl cdL_storm ⟨Nat.le_of_ble_eq_true rfl, Nat.le_of_ble_eq_true rfl⟩) hK hP (x_addrF hD rfl) hS hA hTh hN [3, 4, 5, 6, 7, 8, 9, 10, 11, 12, 13] rfl rfl rfl (by decide) rfl rfl hl.1 rfl (Nat.le_of_ble_eq_true rfl) dL_isStormy_54 ⟨by show _ ≤ 2; omega, by show _ ≤ 7; omega⟩ (fun H locs hP hS => ?_)
        have hP : va_P (dC, dI) vwCl (([[qcC cs aa 64 va], [qcC cs ah 8 vh], [qcC cs af 64 vf], [qcC cs ao 1 g4]] ++ w4 cs a y5).flatten) H := hP
        refine xk_iconst hx hb dL_isStormy_57 ?_
        obtain ⟨c7a, c7b, c7t, c7f⟩ := x_eqE hf
        refine xk_icmp_ne (tgt := 65) hx hb c7a c7b dL_isStormy_58 (by decide) (fun c7 => ?_) (fun c7 => ?_)
        · have hf := c7t c7
          refine xk_iconst hx hb dL_isStormy_61 ?_
          refine lv_goto (tgt := 66) hx hb dL_isStormy_62 (by decide) ?_
          obtain rfl := Option.some.inj hf
          refine W.widen (k := 2) (n := 7) (by omega) (by omega) ?_
          have hP : va_P (dC, dI) vwCl (([[qcC cs aa 64 va], [qcC cs ah 8 vh], [qcC cs af 64 vf]] ++ w4 cs a y5).flatten) H := hP.sub (ws' := ([[qcC cs aa 64 va], [qcC cs ah 8 vh], [qcC cs af 64 vf]] ++ w4 cs a y5).flatten) [0, 1, 2, 4, 5, 6, 7, 8, 9, 10, 11, 12, 13, 14, 15, 16, 17, 18, 19, 20, 21, 22, 23, 24, 25, 26, 27, 28, 29, 30, 31, 32, 33, 34, 35, 36, 37, 38, 39, 40, 41, 42, 43, 44, 45, 46, 47, 48, 49, 50, 51, 52, 53, 54, 55, 56, 57, 58, 59, 60, 61, 62, 63, 64, 65, 66, 67, 68, 69, 70, 71, 72, 73, 74, 75, 76, 77, 78, 79, 80, 81, 82, 83, 84, 85, 86, 87, 88, 89, 90, 91, 92, 93, 94, 95, 96, 97, 98, 99, 100, 101, 102, 103, 104, 105] rfl
          exact xe_wz hx hb hr (Or.inr rfl) hlocks hS hP dL_isStormy_66
        · have hf := c7f c7
          refine xk_iconst hx hb dL_isStormy_65 ?_
          obtain rfl := Option.some.inj hf
          refine W.widen (k := 2) (n := 7) (by omega) (by omega) ?_
          have hP : va_P (dC, dI) vwCl (([[qcC cs aa 64 va], [qcC cs ah 8 vh], [qcC cs af 64 vf]] ++ w4 cs a y5).flatten) H := hP.sub (ws' := ([[qcC cs aa 64 va], [qcC cs ah 8 vh], [qcC cs af 64 vf]] ++ w4 cs a y5).flatten) [0, 1, 2, 4, 5, 6, 7, 8, 9, 10, 11, 12, 13, 14, 15, 16, 17, 18, 19, 20, 21, 22, 23, 24, 25, 26, 27, 28, 29, 30, 31, 32, 33, 34, 35, 36, 37, 38, 39, 40, 41, 42, 43, 44, 45, 46, 47, 48, 49, 50, 51, 52, 53, 54, 55, 56, 57, 58, 59, 60, 61, 62, 63, 64, 65, 66, 67, 68, 69, 70, 71, 72, 73, 74, 75, 76, 77, 78, 79, 80, 81, 82, 83, 84, 85, 86, 87, 88, 89, 90, 91, 92, 93, 94, 95, 96, 97, 98, 99, 100, 101, 102, 103, 104, 105] rfl
          exact xe_wz hx hb hr (Or.inl rfl) hlocks hS hP dL_isStormy_66
      · have hf := c3f c3
        refine lv_iload hx hb dL_isStormy_50 (lv_at hl 5 rfl) ?_
        refine lv_aload hx hb dL_isStormy_52 (lv_at hl 0 rfl) ?_
        obtain ⟨⟨v10, g8, y9⟩, ev10, hf⟩ := x_bind hf
        refine xf_sw (As := [.ref (a 0), .int (iI p4), .ref ao]) (rest := []) (wcs := [[qcC cs ao 1 (fun _ => 0)]] ++ w4 cs a y) (w1s := [[qcC cs ao 1 g8]] ++ w4 cs a y9) ⟨hx, hb, hml, hown, hts⟩ (kL_storm l hlS dC dI cs ao a H.size (fun _ => 0) y p4 _ ev10) (vx_cwSW 3 hts gL_isStormy_L_storm rfl rfl rfl cdL_storm ⟨Nat.le_of_ble_eq_true rfl, Nat.le_of_ble_eq_true rfl⟩) hK hP (x_addrF hD rfl) hS hA hTh hN [3, 4, 5, 6, 7, 8, 9, 10, 11, 12, 13] rfl rfl rfl (by decide) rfl rfl hl.1 rfl (Nat.le_of_ble_eq_true rfl) dL_isStormy_54 ⟨by show _ ≤ 2; omega, by show _ ≤ 7; omega⟩ (fun H locs hP hS => ?_)
        have hP : va_P (dC, dI) vwCl (([[qcC cs aa 64 va], [qcC cs ah 8 vh], [qcC cs af 64 vf], [qcC cs ao 1 g8]] ++ w4 cs a y9).flatten) H := hP
        refine xk_iconst hx hb dL_isStormy_57 ?_
        obtain ⟨c11a, c11b, c11t, c11f⟩ := x_eqE hf
        refine xk_icmp_ne (tgt := 65) hx hb c11a c11b dL_isStormy_58 (by decide) (fun c11 => ?_) (fun c11 => ?_)
        · have hf := c11t c11
          refine xk_iconst hx hb dL_isStormy_61 ?_
          refine lv_goto (tgt := 66) hx hb dL_isStormy_62 (by decide) ?_
          obtain rfl := Option.some.inj hf
          refine W.widen (k := 2) (n := 7) (by omega) (by omega) ?_
          have hP : va_P (dC, dI) vwCl (([[qcC cs aa 64 va], [qcC cs ah 8 vh], [qcC cs af 64 vf]] ++ w4 cs a y9).flatten) H := hP.sub (ws' := ([[qcC cs aa 64 va], [qcC cs ah 8 vh], [qcC cs af 64 vf]] ++ w4 cs a y9).flatten) [0, 1, 2, 4, 5, 6, 7, 8, 9, 10, 11, 12, 13, 14, 15, 16, 17, 18, 19, 20, 21, 22, 23, 24, 25, 26, 27, 28, 29, 30, 31, 32, 33, 34, 35, 36, 37, 38, 39, 40, 41, 42, 43, 44, 45, 46, 47, 48, 49, 50, 51, 52, 53, 54, 55, 56, 57, 58, 59, 60, 61, 62, 63, 64, 65, 66, 67, 68, 69, 70, 71, 72, 73, 74, 75, 76, 77, 78, 79, 80, 81, 82, 83, 84, 85, 86, 87, 88, 89, 90, 91, 92, 93, 94, 95, 96, 97, 98, 99, 100, 101, 102, 103, 104, 105] rfl
          exact xe_wz hx hb hr (Or.inr rfl) hlocks hS hP dL_isStormy_66
        · have hf := c11f c11
          refine xk_iconst hx hb dL_isStormy_65 ?_
          obtain rfl := Option.some.inj hf
          refine W.widen (k := 2) (n := 7) (by omega) (by omega) ?_
          have hP : va_P (dC, dI) vwCl (([[qcC cs aa 64 va], [qcC cs ah 8 vh], [qcC cs af 64 vf]] ++ w4 cs a y9).flatten) H := hP.sub (ws' := ([[qcC cs aa 64 va], [qcC cs ah 8 vh], [qcC cs af 64 vf]] ++ w4 cs a y9).flatten) [0, 1, 2, 4, 5, 6, 7, 8, 9, 10, 11, 12, 13, 14, 15, 16, 17, 18, 19, 20, 21, 22, 23, 24, 25, 26, 27, 28, 29, 30, 31, 32, 33, 34, 35, 36, 37, 38, 39, 40, 41, 42, 43, 44, 45, 46, 47, 48, 49, 50, 51, 52, 53, 54, 55, 56, 57, 58, 59, 60, 61, 62, 63, 64, 65, 66, 67, 68, 69, 70, 71, 72, 73, 74, 75, 76, 77, 78, 79, 80, 81, 82, 83, 84, 85, 86, 87, 88, 89, 90, 91, 92, 93, 94, 95, 96, 97, 98, 99, 100, 101, 102, 103, 104, 105] rfl
          exact xe_wz hx hb hr (Or.inl rfl) hlocks hS hP dL_isStormy_66
    · have hf := c2f c2
      refine lv_iload hx hb dL_isStormy_50 (lv_at hl 5 rfl) ?_
      refine lv_aload hx hb dL_isStormy_52 (lv_at hl 0 rfl) ?_
      obtain ⟨⟨v14, g12, y13⟩, ev14, hf⟩ := x_bind hf
      refine xf_sw (As := [.ref (a 0), .int (iI p4), .ref ao]) (rest := []) (wcs := [[qcC cs ao 1 (fun _ => 0)]] ++ w4 cs a y) (w1s := [[qcC cs ao 1 g12]] ++ w4 cs a y13) ⟨hx, hb, hml, hown, hts⟩ (kL_storm l hlS dC dI cs ao a H.size (fun _ => 0) y p4 _ ev14) (vx_cwSW 3 hts gL_isStormy_L_storm rfl rfl rfl cdL_storm ⟨Nat.le_of_ble_eq_true rfl, Nat.le_of_ble_eq_true rfl⟩) hK hP (x_addrF hD rfl) hS hA hTh hN [3, 4, 5, 6, 7, 8, 9, 10, 11, 12, 13] rfl rfl rfl (by decide) rfl rfl hl.1 rfl (Nat.le_of_ble_eq_true rfl) dL_isStormy_54 ⟨by show _ ≤ 2; omega, by show _ ≤ 7; omega⟩ (fun H locs hP hS => ?_)
      have hP : va_P (dC, dI) vwCl (([[qcC cs aa 64 va], [qcC cs ah 8 vh], [qcC cs af 64 vf], [qcC cs ao 1 g12]] ++ w4 cs a y13).flatten) H := hP
      refine xk_iconst hx hb dL_isStormy_57 ?_
      obtain ⟨c15a, c15b, c15t, c15f⟩ := x_eqE hf
      refine xk_icmp_ne (tgt := 65) hx hb c15a c15b dL_isStormy_58 (by decide) (fun c15 => ?_) (fun c15 => ?_)
      · have hf := c15t c15
        refine xk_iconst hx hb dL_isStormy_61 ?_
        refine lv_goto (tgt := 66) hx hb dL_isStormy_62 (by decide) ?_
        obtain rfl := Option.some.inj hf
        refine W.widen (k := 2) (n := 7) (by omega) (by omega) ?_
        have hP : va_P (dC, dI) vwCl (([[qcC cs aa 64 va], [qcC cs ah 8 vh], [qcC cs af 64 vf]] ++ w4 cs a y13).flatten) H := hP.sub (ws' := ([[qcC cs aa 64 va], [qcC cs ah 8 vh], [qcC cs af 64 vf]] ++ w4 cs a y13).flatten) [0, 1, 2, 4, 5, 6, 7, 8, 9, 10, 11, 12, 13, 14, 15, 16, 17, 18, 19, 20, 21, 22, 23, 24, 25, 26, 27, 28, 29, 30, 31, 32, 33, 34, 35, 36, 37, 38, 39, 40, 41, 42, 43, 44, 45, 46, 47, 48, 49, 50, 51, 52, 53, 54, 55, 56, 57, 58, 59, 60, 61, 62, 63, 64, 65, 66, 67, 68, 69, 70, 71, 72, 73, 74, 75, 76, 77, 78, 79, 80, 81, 82, 83, 84, 85, 86, 87, 88, 89, 90, 91, 92, 93, 94, 95, 96, 97, 98, 99, 100, 101, 102, 103, 104, 105] rfl
        exact xe_wz hx hb hr (Or.inr rfl) hlocks hS hP dL_isStormy_66
      · have hf := c15f c15
        refine xk_iconst hx hb dL_isStormy_65 ?_
        obtain rfl := Option.some.inj hf
        refine W.widen (k := 2) (n := 7) (by omega) (by omega) ?_
        have hP : va_P (dC, dI) vwCl (([[qcC cs aa 64 va], [qcC cs ah 8 vh], [qcC cs af 64 vf]] ++ w4 cs a y13).flatten) H := hP.sub (ws' := ([[qcC cs aa 64 va], [qcC cs ah 8 vh], [qcC cs af 64 vf]] ++ w4 cs a y13).flatten) [0, 1, 2, 4, 5, 6, 7, 8, 9, 10, 11, 12, 13, 14, 15, 16, 17, 18, 19, 20, 21, 22, 23, 24, 25, 26, 27, 28, 29, 30, 31, 32, 33, 34, 35, 36, 37, 38, 39, 40, 41, 42, 43, 44, 45, 46, 47, 48, 49, 50, 51, 52, 53, 54, 55, 56, 57, 58, 59, 60, 61, 62, 63, 64, 65, 66, 67, 68, 69, 70, 71, 72, 73, 74, 75, 76, 77, 78, 79, 80, 81, 82, 83, 84, 85, 86, 87, 88, 89, 90, 91, 92, 93, 94, 95, 96, 97, 98, 99, 100, 101, 102, 103, 104, 105] rfl
        exact xe_wz hx hb hr (Or.inl rfl) hlocks hS hP dL_isStormy_66
  · have hf := c1f c1
    refine lv_iload hx hb dL_isStormy_11 (lv_at hl 5 rfl) ?_
    refine xk_bipush hx hb dL_isStormy_13 (by decide) ?_
    obtain ⟨c16a, c16b, c16t, c16f⟩ := x_ltE hf
    refine xk_icmp_gt (tgt := 32) hx hb c16b c16a dL_isStormy_15 (by decide) (fun c16 => ?_) (fun c16 => ?_)
    · have hf := c16t c16
      refine lv_aload_n hx hb dL_isStormy_32 rfl (lv_at hl 1 rfl) ?_
      refine lv_iload hx hb dL_isStormy_33 (lv_at hl 5 rfl) ?_
      obtain ⟨c17a, c17b, c17t, c17f⟩ := x_ltE hf
      refine xk_if_le (tgt := 50) hx hb c17b dL_isStormy_35 (by decide) (fun c17 => ?_) (fun c17 => ?_)
      · have hf := c17t c17
        refine lv_iload hx hb dL_isStormy_38 (lv_at hl 5 rfl) ?_
        refine xk_bipush hx hb dL_isStormy_40 (by decide) ?_
        obtain ⟨c18a, c18b, c18t, c18f⟩ := x_ltE hf
        refine xk_icmp_ge (tgt := 50) hx hb c18a c18b dL_isStormy_42 (by decide) (fun c18 => ?_) (fun c18 => ?_)
        · have hf := c18t c18
          refine xk_bipush hx hb dL_isStormy_45 (by decide) ?_
          refine lv_goto (tgt := 52) hx hb dL_isStormy_47 (by decide) ?_
          refine lv_aload hx hb dL_isStormy_52 (lv_at hl 0 rfl) ?_
          obtain ⟨⟨v21, g19, y20⟩, ev21, hf⟩ := x_bind hf
          refine xf_sw (As := [.ref (a 0), .int (iI 10), .ref ao]) (rest := []) (wcs := [[qcC cs ao 1 (fun _ => 0)]] ++ w4 cs a y) (w1s := [[qcC cs ao 1 g19]] ++ w4 cs a y20) ⟨hx, hb, hml, hown, hts⟩ (kL_storm l hlS dC dI cs ao a H.size (fun _ => 0) y 10 _ ev21) (vx_cwSW 3 hts gL_isStormy_L_storm rfl rfl rfl cdL_storm ⟨Nat.le_of_ble_eq_true rfl, Nat.le_of_ble_eq_true rfl⟩) hK hP (x_addrF hD rfl) hS hA hTh hN [3, 4, 5, 6, 7, 8, 9, 10, 11, 12, 13] rfl rfl rfl (by decide) rfl rfl hl.1 rfl (Nat.le_of_ble_eq_true rfl) dL_isStormy_54 ⟨by show _ ≤ 2; omega, by show _ ≤ 7; omega⟩ (fun H locs hP hS => ?_)
          have hP : va_P (dC, dI) vwCl (([[qcC cs aa 64 va], [qcC cs ah 8 vh], [qcC cs af 64 vf], [qcC cs ao 1 g19]] ++ w4 cs a y20).flatten) H := hP
          refine xk_iconst hx hb dL_isStormy_57 ?_
          obtain ⟨c22a, c22b, c22t, c22f⟩ := x_eqE hf
          refine xk_icmp_ne (tgt := 65) hx hb c22a c22b dL_isStormy_58 (by decide) (fun c22 => ?_) (fun c22 => ?_)
          · have hf := c22t c22
            refine xk_iconst hx hb dL_isStormy_61 ?_
            refine lv_goto (tgt := 66) hx hb dL_isStormy_62 (by decide) ?_
            obtain rfl := Option.some.inj hf
            refine W.widen (k := 2) (n := 7) (by omega) (by omega) ?_
            have hP : va_P (dC, dI) vwCl (([[qcC cs aa 64 va], [qcC cs ah 8 vh], [qcC cs af 64 vf]] ++ w4 cs a y20).flatten) H := hP.sub (ws' := ([[qcC cs aa 64 va], [qcC cs ah 8 vh], [qcC cs af 64 vf]] ++ w4 cs a y20).flatten) [0, 1, 2, 4, 5, 6, 7, 8, 9, 10, 11, 12, 13, 14, 15, 16, 17, 18, 19, 20, 21, 22, 23, 24, 25, 26, 27, 28, 29, 30, 31, 32, 33, 34, 35, 36, 37, 38, 39, 40, 41, 42, 43, 44, 45, 46, 47, 48, 49, 50, 51, 52, 53, 54, 55, 56, 57, 58, 59, 60, 61, 62, 63, 64, 65, 66, 67, 68, 69, 70, 71, 72, 73, 74, 75, 76, 77, 78, 79, 80, 81, 82, 83, 84, 85, 86, 87, 88, 89, 90, 91, 92, 93, 94, 95, 96, 97, 98, 99, 100, 101, 102, 103, 104, 105] rfl
            exact xe_wz hx hb hr (Or.inr rfl) hlocks hS hP dL_isStormy_66
          · have hf := c22f c22
            refine xk_iconst hx hb dL_isStormy_65 ?_
            obtain rfl := Option.some.inj hf
            refine W.widen (k := 2) (n := 7) (by omega) (by omega) ?_
            have hP : va_P (dC, dI) vwCl (([[qcC cs aa 64 va], [qcC cs ah 8 vh], [qcC cs af 64 vf]] ++ w4 cs a y20).flatten) H := hP.sub (ws' := ([[qcC cs aa 64 va], [qcC cs ah 8 vh], [qcC cs af 64 vf]] ++ w4 cs a y20).flatten) [0, 1, 2, 4, 5, 6, 7, 8, 9, 10, 11, 12, 13, 14, 15, 16, 17, 18, 19, 20, 21, 22, 23, 24, 25, 26, 27, 28, 29, 30, 31, 32, 33, 34, 35, 36, 37, 38, 39, 40, 41, 42, 43, 44, 45, 46, 47, 48, 49, 50, 51, 52, 53, 54, 55, 56, 57, 58, 59, 60, 61, 62, 63, 64, 65, 66, 67, 68, 69, 70, 71, 72, 73, 74, 75, 76, 77, 78, 79, 80, 81, 82, 83, 84, 85, 86, 87, 88, 89, 90, 91, 92, 93, 94, 95, 96, 97, 98, 99, 100, 101, 102, 103, 104, 105] rfl
            exact xe_wz hx hb hr (Or.inl rfl) hlocks hS hP dL_isStormy_66
        · have hf := c18f c18
          refine lv_iload hx hb dL_isStormy_50 (lv_at hl 5 rfl) ?_
          refine lv_aload hx hb dL_isStormy_52 (lv_at hl 0 rfl) ?_
          obtain ⟨⟨v25, g23, y24⟩, ev25, hf⟩ := x_bind hf
          refine xf_sw (As := [.ref (a 0), .int (iI p4), .ref ao]) (rest := []) (wcs := [[qcC cs ao 1 (fun _ => 0)]] ++ w4 cs a y) (w1s := [[qcC cs ao 1 g23]] ++ w4 cs a y24) ⟨hx, hb, hml, hown, hts⟩ (kL_storm l hlS dC dI cs ao a H.size (fun _ => 0) y p4 _ ev25) (vx_cwSW 3 hts gL_isStormy_L_storm rfl rfl rfl cdL_storm ⟨Nat.le_of_ble_eq_true rfl, Nat.le_of_ble_eq_true rfl⟩) hK hP (x_addrF hD rfl) hS hA hTh hN [3, 4, 5, 6, 7, 8, 9, 10, 11, 12, 13] rfl rfl rfl (by decide) rfl rfl hl.1 rfl (Nat.le_of_ble_eq_true rfl) dL_isStormy_54 ⟨by show _ ≤ 2; omega, by show _ ≤ 7; omega⟩ (fun H locs hP hS => ?_)
          have hP : va_P (dC, dI) vwCl (([[qcC cs aa 64 va], [qcC cs ah 8 vh], [qcC cs af 64 vf], [qcC cs ao 1 g23]] ++ w4 cs a y24).flatten) H := hP
          refine xk_iconst hx hb dL_isStormy_57 ?_
          obtain ⟨c26a, c26b, c26t, c26f⟩ := x_eqE hf
          refine xk_icmp_ne (tgt := 65) hx hb c26a c26b dL_isStormy_58 (by decide) (fun c26 => ?_) (fun c26 => ?_)
          · have hf := c26t c26
            refine xk_iconst hx hb dL_isStormy_61 ?_
            refine lv_goto (tgt := 66) hx hb dL_isStormy_62 (by decide) ?_
            obtain rfl := Option.some.inj hf
            refine W.widen (k := 2) (n := 7) (by omega) (by omega) ?_
            have hP : va_P (dC, dI) vwCl (([[qcC cs aa 64 va], [qcC cs ah 8 vh], [qcC cs af 64 vf]] ++ w4 cs a y24).flatten) H := hP.sub (ws' := ([[qcC cs aa 64 va], [qcC cs ah 8 vh], [qcC cs af 64 vf]] ++ w4 cs a y24).flatten) [0, 1, 2, 4, 5, 6, 7, 8, 9, 10, 11, 12, 13, 14, 15, 16, 17, 18, 19, 20, 21, 22, 23, 24, 25, 26, 27, 28, 29, 30, 31, 32, 33, 34, 35, 36, 37, 38, 39, 40, 41, 42, 43, 44, 45, 46, 47, 48, 49, 50, 51, 52, 53, 54, 55, 56, 57, 58, 59, 60, 61, 62, 63, 64, 65, 66, 67, 68, 69, 70, 71, 72, 73, 74, 75, 76, 77, 78, 79, 80, 81, 82, 83, 84, 85, 86, 87, 88, 89, 90, 91, 92, 93, 94, 95, 96, 97, 98, 99, 100, 101, 102, 103, 104, 105] rfl
            exact xe_wz hx hb hr (Or.inr rfl) hlocks hS hP dL_isStormy_66
          · have hf := c26f c26
            refine xk_iconst hx hb dL_isStormy_65 ?_
            obtain rfl := Option.some.inj hf
            refine W.widen (k := 2) (n := 7) (by omega) (by omega) ?_
            have hP : va_P (dC, dI) vwCl (([[qcC cs aa 64 va], [qcC cs ah 8 vh], [qcC cs af 64 vf]] ++ w4 cs a y24).flatten) H := hP.sub (ws' := ([[qcC cs aa 64 va], [qcC cs ah 8 vh], [qcC cs af 64 vf]] ++ w4 cs a y24).flatten) [0, 1, 2, 4, 5, 6, 7, 8, 9, 10, 11, 12, 13, 14, 15, 16, 17, 18, 19, 20, 21, 22, 23, 24, 25, 26, 27, 28, 29, 30, 31, 32, 33, 34, 35, 36, 37, 38, 39, 40, 41, 42, 43, 44, 45, 46, 47, 48, 49, 50, 51, 52, 53, 54, 55, 56, 57, 58, 59, 60, 61, 62, 63, 64, 65, 66, 67, 68, 69, 70, 71, 72, 73, 74, 75, 76, 77, 78, 79, 80, 81, 82, 83, 84, 85, 86, 87, 88, 89, 90, 91, 92, 93, 94, 95, 96, 97, 98, 99, 100, 101, 102, 103, 104, 105] rfl
            exact xe_wz hx hb hr (Or.inl rfl) hlocks hS hP dL_isStormy_66
      · have hf := c17f c17
        refine lv_iload hx hb dL_isStormy_50 (lv_at hl 5 rfl) ?_
        refine lv_aload hx hb dL_isStormy_52 (lv_at hl 0 rfl) ?_
        obtain ⟨⟨v29, g27, y28⟩, ev29, hf⟩ := x_bind hf
        refine xf_sw (As := [.ref (a 0), .int (iI p4), .ref ao]) (rest := []) (wcs := [[qcC cs ao 1 (fun _ => 0)]] ++ w4 cs a y) (w1s := [[qcC cs ao 1 g27]] ++ w4 cs a y28) ⟨hx, hb, hml, hown, hts⟩ (kL_storm l hlS dC dI cs ao a H.size (fun _ => 0) y p4 _ ev29) (vx_cwSW 3 hts gL_isStormy_L_storm rfl rfl rfl cdL_storm ⟨Nat.le_of_ble_eq_true rfl, Nat.le_of_ble_eq_true rfl⟩) hK hP (x_addrF hD rfl) hS hA hTh hN [3, 4, 5, 6, 7, 8, 9, 10, 11, 12, 13] rfl rfl rfl (by decide) rfl rfl hl.1 rfl (Nat.le_of_ble_eq_true rfl) dL_isStormy_54 ⟨by show _ ≤ 2; omega, by show _ ≤ 7; omega⟩ (fun H locs hP hS => ?_)
        have hP : va_P (dC, dI) vwCl (([[qcC cs aa 64 va], [qcC cs ah 8 vh], [qcC cs af 64 vf], [qcC cs ao 1 g27]] ++ w4 cs a y28).flatten) H := hP
        refine xk_iconst hx hb dL_isStormy_57 ?_
        obtain ⟨c30a, c30b, c30t, c30f⟩ := x_eqE hf
        refine xk_icmp_ne (tgt := 65) hx hb c30a c30b dL_isStormy_58 (by decide) (fun c30 => ?_) (fun c30 => ?_)
        · have hf := c30t c30
          refine xk_iconst hx hb dL_isStormy_61 ?_
          refine lv_goto (tgt := 66) hx hb dL_isStormy_62 (by decide) ?_
          obtain rfl := Option.some.inj hf
          refine W.widen (k := 2) (n := 7) (by omega) (by omega) ?_
          have hP : va_P (dC, dI) vwCl (([[qcC cs aa 64 va], [qcC cs ah 8 vh], [qcC cs af 64 vf]] ++ w4 cs a y28).flatten) H := hP.sub (ws' := ([[qcC cs aa 64 va], [qcC cs ah 8 vh], [qcC cs af 64 vf]] ++ w4 cs a y28).flatten) [0, 1, 2, 4, 5, 6, 7, 8, 9, 10, 11, 12, 13, 14, 15, 16, 17, 18, 19, 20, 21, 22, 23, 24, 25, 26, 27, 28, 29, 30, 31, 32, 33, 34, 35, 36, 37, 38, 39, 40, 41, 42, 43, 44, 45, 46, 47, 48, 49, 50, 51, 52, 53, 54, 55, 56, 57, 58, 59, 60, 61, 62, 63, 64, 65, 66, 67, 68, 69, 70, 71, 72, 73, 74, 75, 76, 77, 78, 79, 80, 81, 82, 83, 84, 85, 86, 87, 88, 89, 90, 91, 92, 93, 94, 95, 96, 97, 98, 99, 100, 101, 102, 103, 104, 105] rfl
          exact xe_wz hx hb hr (Or.inr rfl) hlocks hS hP dL_isStormy_66
        · have hf := c30f c30
          refine xk_iconst hx hb dL_isStormy_65 ?_
          obtain rfl := Option.some.inj hf
          refine W.widen (k := 2) (n := 7) (by omega) (by omega) ?_
          have hP : va_P (dC, dI) vwCl (([[qcC cs aa 64 va], [qcC cs ah 8 vh], [qcC cs af 64 vf]] ++ w4 cs a y28).flatten) H := hP.sub (ws' := ([[qcC cs aa 64 va], [qcC cs ah 8 vh], [qcC cs af 64 vf]] ++ w4 cs a y28).flatten) [0, 1, 2, 4, 5, 6, 7, 8, 9, 10, 11, 12, 13, 14, 15, 16, 17, 18, 19, 20, 21, 22, 23, 24, 25, 26, 27, 28, 29, 30, 31, 32, 33, 34, 35, 36, 37, 38, 39, 40, 41, 42, 43, 44, 45, 46, 47, 48, 49, 50, 51, 52, 53, 54, 55, 56, 57, 58, 59, 60, 61, 62, 63, 64, 65, 66, 67, 68, 69, 70, 71, 72, 73, 74, 75, 76, 77, 78, 79, 80, 81, 82, 83, 84, 85, 86, 87, 88, 89, 90, 91, 92, 93, 94, 95, 96, 97, 98, 99, 100, 101, 102, 103, 104, 105] rfl
          exact xe_wz hx hb hr (Or.inl rfl) hlocks hS hP dL_isStormy_66
    · have hf := c16f c16
      refine lv_aload_n hx hb dL_isStormy_18 rfl (lv_at hl 3 rfl) ?_
      refine xk_iconst hx hb dL_isStormy_19 ?_
      obtain ⟨v31, ev31, hf⟩ := x_bind hf
      refine xk_iald (f := vh) hx hb hK hP 1 0 ev31 (by decide) rfl rfl dL_isStormy_20 ?_
      refine lv_aload_n hx hb dL_isStormy_21 rfl (lv_at hl 3 rfl) ?_
      refine lv_aload_n hx hb dL_isStormy_22 rfl (lv_at hl 4 rfl) ?_
      obtain ⟨v32, ev32, hf⟩ := x_bind hf
      refine xf_sri (As := [.ref ah, .ref af]) (rest := [.int (iI v31)]) (wcs := ([[qcC cs ah 8 vh], [qcC cs af 64 vf]] : List va_W)) ⟨hx, hb, hml, hown, hts⟩ (kL_runs l dC dI cs ah af vh vf _ ev32) (va_cwS 2 hts gL_isStormy_L_runs rfl rfl rfl cdL_runs ⟨Nat.le_of_ble_eq_true rfl, Nat.le_of_ble_eq_true rfl⟩) hK hP [1, 2] rfl rfl rfl hl.1 rfl (Nat.le_of_ble_eq_true rfl) dL_isStormy_23 ⟨by show _ ≤ 2; omega, by show _ ≤ 7; omega⟩ ?_
      refine xk_iadd hx hb dL_isStormy_26 ?_
      refine xk_bipush hx hb dL_isStormy_27 (by decide) ?_
      obtain ⟨c33a, c33b, c33t, c33f⟩ := x_ltE hf
      refine xk_icmp_le (tgt := 67) hx hb c33b c33a dL_isStormy_29 (by decide) (fun c33 => ?_) (fun c33 => ?_)
      · have hf := c33t c33
        refine lv_aload_n hx hb dL_isStormy_32 rfl (lv_at hl 1 rfl) ?_
        refine lv_iload hx hb dL_isStormy_33 (lv_at hl 5 rfl) ?_
        obtain ⟨c34a, c34b, c34t, c34f⟩ := x_ltE hf
        refine xk_if_le (tgt := 50) hx hb c34b dL_isStormy_35 (by decide) (fun c34 => ?_) (fun c34 => ?_)
        · have hf := c34t c34
          refine lv_iload hx hb dL_isStormy_38 (lv_at hl 5 rfl) ?_
          refine xk_bipush hx hb dL_isStormy_40 (by decide) ?_
          obtain ⟨c35a, c35b, c35t, c35f⟩ := x_ltE hf
          refine xk_icmp_ge (tgt := 50) hx hb c35a c35b dL_isStormy_42 (by decide) (fun c35 => ?_) (fun c35 => ?_)
          · have hf := c35t c35
            refine xk_bipush hx hb dL_isStormy_45 (by decide) ?_
            refine lv_goto (tgt := 52) hx hb dL_isStormy_47 (by decide) ?_
            refine lv_aload hx hb dL_isStormy_52 (lv_at hl 0 rfl) ?_
            obtain ⟨⟨v38, g36, y37⟩, ev38, hf⟩ := x_bind hf
            refine xf_sw (As := [.ref (a 0), .int (iI 10), .ref ao]) (rest := []) (wcs := [[qcC cs ao 1 (fun _ => 0)]] ++ w4 cs a y) (w1s := [[qcC cs ao 1 g36]] ++ w4 cs a y37) ⟨hx, hb, hml, hown, hts⟩ (kL_storm l hlS dC dI cs ao a H.size (fun _ => 0) y 10 _ ev38) (vx_cwSW 3 hts gL_isStormy_L_storm rfl rfl rfl cdL_storm ⟨Nat.le_of_ble_eq_true rfl, Nat.le_of_ble_eq_true rfl⟩) hK hP (x_addrF hD rfl) hS hA hTh hN [3, 4, 5, 6, 7, 8, 9, 10, 11, 12, 13] rfl rfl rfl (by decide) rfl rfl hl.1 rfl (Nat.le_of_ble_eq_true rfl) dL_isStormy_54 ⟨by show _ ≤ 2; omega, by show _ ≤ 7; omega⟩ (fun H locs hP hS => ?_)
            have hP : va_P (dC, dI) vwCl (([[qcC cs aa 64 va], [qcC cs ah 8 vh], [qcC cs af 64 vf], [qcC cs ao 1 g36]] ++ w4 cs a y37).flatten) H := hP
            refine xk_iconst hx hb dL_isStormy_57 ?_
            obtain ⟨c39a, c39b, c39t, c39f⟩ := x_eqE hf
            refine xk_icmp_ne (tgt := 65) hx hb c39a c39b dL_isStormy_58 (by decide) (fun c39 => ?_) (fun c39 => ?_)
            · have hf := c39t c39
              refine xk_iconst hx hb dL_isStormy_61 ?_
              refine lv_goto (tgt := 66) hx hb dL_isStormy_62 (by decide) ?_
              obtain rfl := Option.some.inj hf
              refine W.widen (k := 2) (n := 7) (by omega) (by omega) ?_
              have hP : va_P (dC, dI) vwCl (([[qcC cs aa 64 va], [qcC cs ah 8 vh], [qcC cs af 64 vf]] ++ w4 cs a y37).flatten) H := hP.sub (ws' := ([[qcC cs aa 64 va], [qcC cs ah 8 vh], [qcC cs af 64 vf]] ++ w4 cs a y37).flatten) [0, 1, 2, 4, 5, 6, 7, 8, 9, 10, 11, 12, 13, 14, 15, 16, 17, 18, 19, 20, 21, 22, 23, 24, 25, 26, 27, 28, 29, 30, 31, 32, 33, 34, 35, 36, 37, 38, 39, 40, 41, 42, 43, 44, 45, 46, 47, 48, 49, 50, 51, 52, 53, 54, 55, 56, 57, 58, 59, 60, 61, 62, 63, 64, 65, 66, 67, 68, 69, 70, 71, 72, 73, 74, 75, 76, 77, 78, 79, 80, 81, 82, 83, 84, 85, 86, 87, 88, 89, 90, 91, 92, 93, 94, 95, 96, 97, 98, 99, 100, 101, 102, 103, 104, 105] rfl
              exact xe_wz hx hb hr (Or.inr rfl) hlocks hS hP dL_isStormy_66
            · have hf := c39f c39
              refine xk_iconst hx hb dL_isStormy_65 ?_
              obtain rfl := Option.some.inj hf
              refine W.widen (k := 2) (n := 7) (by omega) (by omega) ?_
              have hP : va_P (dC, dI) vwCl (([[qcC cs aa 64 va], [qcC cs ah 8 vh], [qcC cs af 64 vf]] ++ w4 cs a y37).flatten) H := hP.sub (ws' := ([[qcC cs aa 64 va], [qcC cs ah 8 vh], [qcC cs af 64 vf]] ++ w4 cs a y37).flatten) [0, 1, 2, 4, 5, 6, 7, 8, 9, 10, 11, 12, 13, 14, 15, 16, 17, 18, 19, 20, 21, 22, 23, 24, 25, 26, 27, 28, 29, 30, 31, 32, 33, 34, 35, 36, 37, 38, 39, 40, 41, 42, 43, 44, 45, 46, 47, 48, 49, 50, 51, 52, 53, 54, 55, 56, 57, 58, 59, 60, 61, 62, 63, 64, 65, 66, 67, 68, 69, 70, 71, 72, 73, 74, 75, 76, 77, 78, 79, 80, 81, 82, 83, 84, 85, 86, 87, 88, 89, 90, 91, 92, 93, 94, 95, 96, 97, 98, 99, 100, 101, 102, 103, 104, 105] rfl
              exact xe_wz hx hb hr (Or.inl rfl) hlocks hS hP dL_isStormy_66
          · have hf := c35f c35
            refine lv_iload hx hb dL_isStormy_50 (lv_at hl 5 rfl) ?_
            refine lv_aload hx hb dL_isStormy_52 (lv_at hl 0 rfl) ?_
            obtain ⟨⟨v42, g40, y41⟩, ev42, hf⟩ := x_bind hf
            refine xf_sw (As := [.ref (a 0), .int (iI p4), .ref ao]) (rest := []) (wcs := [[qcC cs ao 1 (fun _ => 0)]] ++ w4 cs a y) (w1s := [[qcC cs ao 1 g40]] ++ w4 cs a y41) ⟨hx, hb, hml, hown, hts⟩ (kL_storm l hlS dC dI cs ao a H.size (fun _ => 0) y p4 _ ev42) (vx_cwSW 3 hts gL_isStormy_L_storm rfl rfl rfl cdL_storm ⟨Nat.le_of_ble_eq_true rfl, Nat.le_of_ble_eq_true rfl⟩) hK hP (x_addrF hD rfl) hS hA hTh hN [3, 4, 5, 6, 7, 8, 9, 10, 11, 12, 13] rfl rfl rfl (by decide) rfl rfl hl.1 rfl (Nat.le_of_ble_eq_true rfl) dL_isStormy_54 ⟨by show _ ≤ 2; omega, by show _ ≤ 7; omega⟩ (fun H locs hP hS => ?_)
            have hP : va_P (dC, dI) vwCl (([[qcC cs aa 64 va], [qcC cs ah 8 vh], [qcC cs af 64 vf], [qcC cs ao 1 g40]] ++ w4 cs a y41).flatten) H := hP
            refine xk_iconst hx hb dL_isStormy_57 ?_
            obtain ⟨c43a, c43b, c43t, c43f⟩ := x_eqE hf
            refine xk_icmp_ne (tgt := 65) hx hb c43a c43b dL_isStormy_58 (by decide) (fun c43 => ?_) (fun c43 => ?_)
            · have hf := c43t c43
              refine xk_iconst hx hb dL_isStormy_61 ?_
              refine lv_goto (tgt := 66) hx hb dL_isStormy_62 (by decide) ?_
              obtain rfl := Option.some.inj hf
              refine W.widen (k := 2) (n := 7) (by omega) (by omega) ?_
              have hP : va_P (dC, dI) vwCl (([[qcC cs aa 64 va], [qcC cs ah 8 vh], [qcC cs af 64 vf]] ++ w4 cs a y41).flatten) H := hP.sub (ws' := ([[qcC cs aa 64 va], [qcC cs ah 8 vh], [qcC cs af 64 vf]] ++ w4 cs a y41).flatten) [0, 1, 2, 4, 5, 6, 7, 8, 9, 10, 11, 12, 13, 14, 15, 16, 17, 18, 19, 20, 21, 22, 23, 24, 25, 26, 27, 28, 29, 30, 31, 32, 33, 34, 35, 36, 37, 38, 39, 40, 41, 42, 43, 44, 45, 46, 47, 48, 49, 50, 51, 52, 53, 54, 55, 56, 57, 58, 59, 60, 61, 62, 63, 64, 65, 66, 67, 68, 69, 70, 71, 72, 73, 74, 75, 76, 77, 78, 79, 80, 81, 82, 83, 84, 85, 86, 87, 88, 89, 90, 91, 92, 93, 94, 95, 96, 97, 98, 99, 100, 101, 102, 103, 104, 105] rfl
              exact xe_wz hx hb hr (Or.inr rfl) hlocks hS hP dL_isStormy_66
            · have hf := c43f c43
              refine xk_iconst hx hb dL_isStormy_65 ?_
              obtain rfl := Option.some.inj hf
              refine W.widen (k := 2) (n := 7) (by omega) (by omega) ?_
              have hP : va_P (dC, dI) vwCl (([[qcC cs aa 64 va], [qcC cs ah 8 vh], [qcC cs af 64 vf]] ++ w4 cs a y41).flatten) H := hP.sub (ws' := ([[qcC cs aa 64 va], [qcC cs ah 8 vh], [qcC cs af 64 vf]] ++ w4 cs a y41).flatten) [0, 1, 2, 4, 5, 6, 7, 8, 9, 10, 11, 12, 13, 14, 15, 16, 17, 18, 19, 20, 21, 22, 23, 24, 25, 26, 27, 28, 29, 30, 31, 32, 33, 34, 35, 36, 37, 38, 39, 40, 41, 42, 43, 44, 45, 46, 47, 48, 49, 50, 51, 52, 53, 54, 55, 56, 57, 58, 59, 60, 61, 62, 63, 64, 65, 66, 67, 68, 69, 70, 71, 72, 73, 74, 75, 76, 77, 78, 79, 80, 81, 82, 83, 84, 85, 86, 87, 88, 89, 90, 91, 92, 93, 94, 95, 96, 97, 98, 99, 100, 101, 102, 103, 104, 105] rfl
              exact xe_wz hx hb hr (Or.inl rfl) hlocks hS hP dL_isStormy_66
        · have hf := c34f c34
          refine lv_iload hx hb dL_isStormy_50 (lv_at hl 5 rfl) ?_
          refine lv_aload hx hb dL_isStormy_52 (lv_at hl 0 rfl) ?_
          obtain ⟨⟨v46, g44, y45⟩, ev46, hf⟩ := x_bind hf
          refine xf_sw (As := [.ref (a 0), .int (iI p4), .ref ao]) (rest := []) (wcs := [[qcC cs ao 1 (fun _ => 0)]] ++ w4 cs a y) (w1s := [[qcC cs ao 1 g44]] ++ w4 cs a y45) ⟨hx, hb, hml, hown, hts⟩ (kL_storm l hlS dC dI cs ao a H.size (fun _ => 0) y p4 _ ev46) (vx_cwSW 3 hts gL_isStormy_L_storm rfl rfl rfl cdL_storm ⟨Nat.le_of_ble_eq_true rfl, Nat.le_of_ble_eq_true rfl⟩) hK hP (x_addrF hD rfl) hS hA hTh hN [3, 4, 5, 6, 7, 8, 9, 10, 11, 12, 13] rfl rfl rfl (by decide) rfl rfl hl.1 rfl (Nat.le_of_ble_eq_true rfl) dL_isStormy_54 ⟨by show _ ≤ 2; omega, by show _ ≤ 7; omega⟩ (fun H locs hP hS => ?_)
          have hP : va_P (dC, dI) vwCl (([[qcC cs aa 64 va], [qcC cs ah 8 vh], [qcC cs af 64 vf], [qcC cs ao 1 g44]] ++ w4 cs a y45).flatten) H := hP
          refine xk_iconst hx hb dL_isStormy_57 ?_
          obtain ⟨c47a, c47b, c47t, c47f⟩ := x_eqE hf
          refine xk_icmp_ne (tgt := 65) hx hb c47a c47b dL_isStormy_58 (by decide) (fun c47 => ?_) (fun c47 => ?_)
          · have hf := c47t c47
            refine xk_iconst hx hb dL_isStormy_61 ?_
            refine lv_goto (tgt := 66) hx hb dL_isStormy_62 (by decide) ?_
            obtain rfl := Option.some.inj hf
            refine W.widen (k := 2) (n := 7) (by omega) (by omega) ?_
            have hP : va_P (dC, dI) vwCl (([[qcC cs aa 64 va], [qcC cs ah 8 vh], [qcC cs af 64 vf]] ++ w4 cs a y45).flatten) H := hP.sub (ws' := ([[qcC cs aa 64 va], [qcC cs ah 8 vh], [qcC cs af 64 vf]] ++ w4 cs a y45).flatten) [0, 1, 2, 4, 5, 6, 7, 8, 9, 10, 11, 12, 13, 14, 15, 16, 17, 18, 19, 20, 21, 22, 23, 24, 25, 26, 27, 28, 29, 30, 31, 32, 33, 34, 35, 36, 37, 38, 39, 40, 41, 42, 43, 44, 45, 46, 47, 48, 49, 50, 51, 52, 53, 54, 55, 56, 57, 58, 59, 60, 61, 62, 63, 64, 65, 66, 67, 68, 69, 70, 71, 72, 73, 74, 75, 76, 77, 78, 79, 80, 81, 82, 83, 84, 85, 86, 87, 88, 89, 90, 91, 92, 93, 94, 95, 96, 97, 98, 99, 100, 101, 102, 103, 104, 105] rfl
            exact xe_wz hx hb hr (Or.inr rfl) hlocks hS hP dL_isStormy_66
          · have hf := c47f c47
            refine xk_iconst hx hb dL_isStormy_65 ?_
            obtain rfl := Option.some.inj hf
            refine W.widen (k := 2) (n := 7) (by omega) (by omega) ?_
            have hP : va_P (dC, dI) vwCl (([[qcC cs aa 64 va], [qcC cs ah 8 vh], [qcC cs af 64 vf]] ++ w4 cs a y45).flatten) H := hP.sub (ws' := ([[qcC cs aa 64 va], [qcC cs ah 8 vh], [qcC cs af 64 vf]] ++ w4 cs a y45).flatten) [0, 1, 2, 4, 5, 6, 7, 8, 9, 10, 11, 12, 13, 14, 15, 16, 17, 18, 19, 20, 21, 22, 23, 24, 25, 26, 27, 28, 29, 30, 31, 32, 33, 34, 35, 36, 37, 38, 39, 40, 41, 42, 43, 44, 45, 46, 47, 48, 49, 50, 51, 52, 53, 54, 55, 56, 57, 58, 59, 60, 61, 62, 63, 64, 65, 66, 67, 68, 69, 70, 71, 72, 73, 74, 75, 76, 77, 78, 79, 80, 81, 82, 83, 84, 85, 86, 87, 88, 89, 90, 91, 92, 93, 94, 95, 96, 97, 98, 99, 100, 101, 102, 103, 104, 105] rfl
            exact xe_wz hx hb hr (Or.inl rfl) hlocks hS hP dL_isStormy_66
      · have hf := c33f c33
        refine lv_aload_n hx hb dL_isStormy_67 rfl (lv_at hl 1 rfl) ?_
        refine lv_iload hx hb dL_isStormy_68 (lv_at hl 5 rfl) ?_
        refine lv_aload hx hb dL_isStormy_70 (lv_at hl 0 rfl) ?_
        obtain ⟨⟨v50, g48, y49⟩, ev50, hf⟩ := x_bind hf
        refine xf_sw (As := [.ref (a 0), .int (iI p4), .ref ao]) (rest := []) (wcs := [[qcC cs ao 1 (fun _ => 0)]] ++ w4 cs a y) (w1s := [[qcC cs ao 1 g48]] ++ w4 cs a y49) ⟨hx, hb, hml, hown, hts⟩ (kL_storm l hlS dC dI cs ao a H.size (fun _ => 0) y p4 _ ev50) (vx_cwSW 3 hts gL_isStormy_L_storm rfl rfl rfl cdL_storm ⟨Nat.le_of_ble_eq_true rfl, Nat.le_of_ble_eq_true rfl⟩) hK hP (x_addrF hD rfl) hS hA hTh hN [3, 4, 5, 6, 7, 8, 9, 10, 11, 12, 13] rfl rfl rfl (by decide) rfl rfl hl.1 rfl (Nat.le_of_ble_eq_true rfl) dL_isStormy_72 ⟨by show _ ≤ 2; omega, by show _ ≤ 7; omega⟩ (fun H locs hP hS => ?_)
        have hP : va_P (dC, dI) vwCl (([[qcC cs aa 64 va], [qcC cs ah 8 vh], [qcC cs af 64 vf], [qcC cs ao 1 g48]] ++ w4 cs a y49).flatten) H := hP
        obtain ⟨c51a, c51b, c51t, c51f⟩ := x_eqE hf
        refine xk_if_ne (tgt := 97) hx hb c51a dL_isStormy_75 (by decide) (fun c51 => ?_) (fun c51 => ?_)
        · have hf := c51t c51
          refine lv_aload hx hb dL_isStormy_78 (lv_at hl 0 rfl) ?_
          refine xk_iconst hx hb dL_isStormy_80 ?_
          obtain ⟨v52, ev52, hf⟩ := x_bind hf
          refine xk_iald (f := g48) hx hb hK hP 3 0 ev52 (by decide) rfl rfl dL_isStormy_81 ?_
          refine lv_aload_n hx hb dL_isStormy_82 rfl (lv_at hl 2 rfl) ?_
          refine lv_aload_n hx hb dL_isStormy_83 rfl (lv_at hl 3 rfl) ?_
          refine lv_aload_n hx hb dL_isStormy_84 rfl (lv_at hl 4 rfl) ?_
          refine lv_iload hx hb dL_isStormy_85 (lv_at hl 5 rfl) ?_
          obtain ⟨⟨v56, g53, g54, g55⟩, ev56, hf⟩ := x_bind hf
          refine xf_swi (As := [.ref aa, .ref ah, .ref af, .int (iI p4)]) (rest := [.int (iI v52)]) (wcs := ([[qcC cs aa 64 va], [qcC cs ah 8 vh], [qcC cs af 64 vf]] : List va_W)) (w1s := ([[qcC cs aa 64 g53], [qcC cs ah 8 g54], [qcC cs af 64 g55]] : List va_W)) ⟨hx, hb, hml, hown, hts⟩ (kL_storms l dC dI cs aa ah af _ va vh vf p4 _ ev56) (va_cwS 4 hts gL_isStormy_L_storms rfl rfl rfl cdL_storms ⟨Nat.le_of_ble_eq_true rfl, Nat.le_of_ble_eq_true rfl⟩) hK hP (x_addrF hD rfl) hS hA [0, 1, 2] rfl rfl rfl (by decide) rfl rfl hl.1 rfl (Nat.le_of_ble_eq_true rfl) dL_isStormy_87 ⟨by show _ ≤ 2; omega, by show _ ≤ 7; omega⟩ (fun H locs hP hS => ?_)
          have hP : va_P (dC, dI) vwCl (([[qcC cs aa 64 g53], [qcC cs ah 8 g54], [qcC cs af 64 g55], [qcC cs ao 1 g48]] ++ w4 cs a y49).flatten) H := hP
          obtain ⟨c57a, c57b, c57t, c57f⟩ := x_eqE hf
          refine xk_icmp_ne (tgt := 97) hx hb c57a c57b dL_isStormy_90 (by decide) (fun c57 => ?_) (fun c57 => ?_)
          · have hf := c57t c57
            refine xk_iconst hx hb dL_isStormy_93 ?_
            refine lv_goto (tgt := 98) hx hb dL_isStormy_94 (by decide) ?_
            obtain rfl := Option.some.inj hf
            refine W.widen (k := 2) (n := 7) (by omega) (by omega) ?_
            have hP : va_P (dC, dI) vwCl (([[qcC cs aa 64 g53], [qcC cs ah 8 g54], [qcC cs af 64 g55]] ++ w4 cs a y49).flatten) H := hP.sub (ws' := ([[qcC cs aa 64 g53], [qcC cs ah 8 g54], [qcC cs af 64 g55]] ++ w4 cs a y49).flatten) [0, 1, 2, 4, 5, 6, 7, 8, 9, 10, 11, 12, 13, 14, 15, 16, 17, 18, 19, 20, 21, 22, 23, 24, 25, 26, 27, 28, 29, 30, 31, 32, 33, 34, 35, 36, 37, 38, 39, 40, 41, 42, 43, 44, 45, 46, 47, 48, 49, 50, 51, 52, 53, 54, 55, 56, 57, 58, 59, 60, 61, 62, 63, 64, 65, 66, 67, 68, 69, 70, 71, 72, 73, 74, 75, 76, 77, 78, 79, 80, 81, 82, 83, 84, 85, 86, 87, 88, 89, 90, 91, 92, 93, 94, 95, 96, 97, 98, 99, 100, 101, 102, 103, 104, 105] rfl
            exact xe_wz hx hb hr (Or.inr rfl) hlocks hS hP dL_isStormy_98
          · have hf := c57f c57
            refine xk_iconst hx hb dL_isStormy_97 ?_
            obtain rfl := Option.some.inj hf
            refine W.widen (k := 2) (n := 7) (by omega) (by omega) ?_
            have hP : va_P (dC, dI) vwCl (([[qcC cs aa 64 g53], [qcC cs ah 8 g54], [qcC cs af 64 g55]] ++ w4 cs a y49).flatten) H := hP.sub (ws' := ([[qcC cs aa 64 g53], [qcC cs ah 8 g54], [qcC cs af 64 g55]] ++ w4 cs a y49).flatten) [0, 1, 2, 4, 5, 6, 7, 8, 9, 10, 11, 12, 13, 14, 15, 16, 17, 18, 19, 20, 21, 22, 23, 24, 25, 26, 27, 28, 29, 30, 31, 32, 33, 34, 35, 36, 37, 38, 39, 40, 41, 42, 43, 44, 45, 46, 47, 48, 49, 50, 51, 52, 53, 54, 55, 56, 57, 58, 59, 60, 61, 62, 63, 64, 65, 66, 67, 68, 69, 70, 71, 72, 73, 74, 75, 76, 77, 78, 79, 80, 81, 82, 83, 84, 85, 86, 87, 88, 89, 90, 91, 92, 93, 94, 95, 96, 97, 98, 99, 100, 101, 102, 103, 104, 105] rfl
            exact xe_wz hx hb hr (Or.inl rfl) hlocks hS hP dL_isStormy_98
        · have hf := c51f c51
          refine xk_iconst hx hb dL_isStormy_97 ?_
          obtain rfl := Option.some.inj hf
          refine W.widen (k := 2) (n := 7) (by omega) (by omega) ?_
          have hP : va_P (dC, dI) vwCl (([[qcC cs aa 64 va], [qcC cs ah 8 vh], [qcC cs af 64 vf]] ++ w4 cs a y49).flatten) H := hP.sub (ws' := ([[qcC cs aa 64 va], [qcC cs ah 8 vh], [qcC cs af 64 vf]] ++ w4 cs a y49).flatten) [0, 1, 2, 4, 5, 6, 7, 8, 9, 10, 11, 12, 13, 14, 15, 16, 17, 18, 19, 20, 21, 22, 23, 24, 25, 26, 27, 28, 29, 30, 31, 32, 33, 34, 35, 36, 37, 38, 39, 40, 41, 42, 43, 44, 45, 46, 47, 48, 49, 50, 51, 52, 53, 54, 55, 56, 57, 58, 59, 60, 61, 62, 63, 64, 65, 66, 67, 68, 69, 70, 71, 72, 73, 74, 75, 76, 77, 78, 79, 80, 81, 82, 83, 84, 85, 86, 87, 88, 89, 90, 91, 92, 93, 94, 95, 96, 97, 98, 99, 100, 101, 102, 103, 104, 105] rfl
          exact xe_wz hx hb hr (Or.inl rfl) hlocks hS hP dL_isStormy_98
theorem cdL_isStormy : yL_isStormy.cls ≠ "java/lang/invoke/MethodHandle" ∧ yL_isStormy.cls ≠ "java/lang/invoke/VarHandle" ∧ (parseMethodDescriptor yL_isStormy.desc).map (fun d => d.parameters.length) = some 5 := by decide +kernel

set_option maxHeartbeats 8000000 in
set_option maxRecDepth 100000 in
theorem kL_isLoaded (l : Launch) (hlS : l.stackTraces = false) (dC : Nat → ClassId) (dI : Nat → Nat → Nat) (cs : Nat → ClassId) (aa : Nat) (ah : Nat) (af : Nat) (a : Nat → Nat) (sz : Nat) (va : Int → Int) (vh : Int → Int) (vf : Int → Int) (y : BrS) (p4 : Int) (res : Int × (Int → Int) × (Int → Int) × (Int → Int) × BrS) (hf : fL_isLoaded va vh vf y p4 = some res) : Met l yL_isLoaded wsL_isLoaded ({ frames := 8, cells := 4, slots := 19, locals := 166 } : Room) (va_Pc [.ref (a 0), .ref aa, .ref ah, .ref af, .int (iI p4)] (xPL (dC, dI) vwCl (([[qcC cs aa 64 va], [qcC cs ah 8 vh], [qcC cs af 64 vf]] ++ w4 cs a y).flatten) (xT cs) sz)) (xQi (dC, dI) vwCl (([[qcC cs aa 64 va], [qcC cs ah 8 vh], [qcC cs af 64 vf]] ++ w4 cs a y).flatten) (([[qcC cs aa 64 res.2.1], [qcC cs ah 8 res.2.2.1], [qcC cs af 64 res.2.2.2.1]] ++ w4 cs a res.2.2.2.2).flatten) sz res.1) 4 19 (va_A (([[qcC cs aa 64 va], [qcC cs ah 8 vh], [qcC cs af 64 vf]] ++ w4 cs a y).flatten) sz) := by
  refine Met.ofW (cc := cL_isLoaded) (maxL := 8) (ret := (some .boolean)) (by decide) rfl ?_
  intro p e s m args below meth c s₁ B hml hv
  obtain ⟨rfl, ⟨⟨hsz, hP, hK, hD0⟩, hTh⟩, hN⟩ := hv
  have hx := B.exec
  have hb := B.bytes
  have hr := B.returns
  have hts := atoms_spec (ws := wsL_isLoaded) B.pre
  have hown : s.vm.findClass RL = some m.cls := findClass_of_methodNamed B.named
  have hlocks := B.notSynchronized
  subst hsz
  have hD := hD0.self (sz := s.heap.size)
  have hA : ∀ z9 : Nat, s.heap.size ≤ z9 → va_A (([[qcC cs aa 64 va], [qcC cs ah 8 vh], [qcC cs af 64 vf]] ++ w4 cs a y).flatten) s.heap.size z9 := fun z9 h => Or.inr h
  have hS : va_S (va_A (([[qcC cs aa 64 va], [qcC cs ah 8 vh], [qcC cs af 64 vf]] ++ w4 cs a y).flatten) s.heap.size) s.heap s.heap [] := va_S.rf
  have hl := lv_entry [.ref (a 0), .ref aa, .ref ah, .ref af, .int (iI p4)] (n := 8) (Nat.le_of_ble_eq_true rfl)
  rw [lg_entry_eq]
  generalize (lg_sl [.ref (a 0), .ref aa, .ref ah, .ref af, .int (iI p4)] ++ List.replicate (8 - (lg_sl [.ref (a 0), .ref aa, .ref ah, .ref af, .int (iI p4)]).length) Slot.unset).toArray = ls at hl ⊢
  have hl : lv_has ls 8 [(0, .ref (a 0)), (1, .ref aa), (2, .ref ah), (3, .ref af), (4, .int (iI p4))] := hl
  unfold fL_isLoaded at hf
  refine xk_iconst hx hb dL_isLoaded_0 ?_
  refine va_newa (atype := .int) (ty := .int) (N' := 1) (a0 := (1, .inl (xA (fun _ => 0)))) hx hb (hts (.arrayClass .int) (by decide +kernel)) rfl hK hP (x_addrF hD rfl) hS hA (fun cA => x_zero cA 1) (by decide) (by decide) (Nat.le_of_ble_eq_true rfl) (by show _ ≤ 4; omega) (by show _ ≤ 19; omega) dL_isLoaded_1 (fun ao cA H hK1 hP hD hS => ?_)
  obtain rfl := x_kind 0 hK1 (cB := cs 0) rfl (fun C h => by cases h)
  have hP : va_P (dC, dI) vwCl (([[qcC cs aa 64 va], [qcC cs ah 8 vh], [qcC cs af 64 vf], [qcC cs ao 1 (fun _ => 0)]] ++ w4 cs a y).flatten) H := hP.sub (ws' := ([[qcC cs aa 64 va], [qcC cs ah 8 vh], [qcC cs af 64 vf], [qcC cs ao 1 (fun _ => 0)]] ++ w4 cs a y).flatten) [0, 1, 2, 105, 3, 4, 5, 6, 7, 8, 9, 10, 11, 12, 13, 14, 15, 16, 17, 18, 19, 20, 21, 22, 23, 24, 25, 26, 27, 28, 29, 30, 31, 32, 33, 34, 35, 36, 37, 38, 39, 40, 41, 42, 43, 44, 45, 46, 47, 48, 49, 50, 51, 52, 53, 54, 55, 56, 57, 58, 59, 60, 61, 62, 63, 64, 65, 66, 67, 68, 69, 70, 71, 72, 73, 74, 75, 76, 77, 78, 79, 80, 81, 82, 83, 84, 85, 86, 87, 88, 89, 90, 91, 92, 93, 94, 95, 96, 97, 98, 99, 100, 101, 102, 103, 104] rfl
  have hD : va_D (va_A (([[qcC cs aa 64 va], [qcC cs ah 8 vh], [qcC cs af 64 vf]] ++ w4 cs a y).flatten) s.heap.size) (([[qcC cs aa 64 va], [qcC cs ah 8 vh], [qcC cs af 64 vf], [qcC cs ao 1 (fun _ => 0)]] ++ w4 cs a y).flatten) := hD.sub (ws' := ([[qcC cs aa 64 va], [qcC cs ah 8 vh], [qcC cs af 64 vf], [qcC cs ao 1 (fun _ => 0)]] ++ w4 cs a y).flatten) [0, 1, 2, 105, 3, 4, 5, 6, 7, 8, 9, 10, 11, 12, 13, 14, 15, 16, 17, 18, 19, 20, 21, 22, 23, 24, 25, 26, 27, 28, 29, 30, 31, 32, 33, 34, 35, 36, 37, 38, 39, 40, 41, 42, 43, 44, 45, 46, 47, 48, 49, 50, 51, 52, 53, 54, 55, 56, 57, 58, 59, 60, 61, 62, 63, 64, 65, 66, 67, 68, 69, 70, 71, 72, 73, 74, 75, 76, 77, 78, 79, 80, 81, 82, 83, 84, 85, 86, 87, 88, 89, 90, 91, 92, 93, 94, 95, 96, 97, 98, 99, 100, 101, 102, 103, 104] (by decide +kernel) rfl
  refine lv_astore (lv' := [(5, .ref ao), (0, .ref (a 0)), (1, .ref aa), (2, .ref ah), (3, .ref af), (4, .int (iI p4))]) hx hb dL_isLoaded_3 hl (by decide) rfl (fun ls hl => ?_)
  refine lv_iload hx hb dL_isLoaded_5 (lv_at hl 5 rfl) ?_
  refine lv_iload hx hb dL_isLoaded_7 (lv_at hl 5 rfl) ?_
  refine xk_bipush hx hb dL_isLoaded_9 (by decide) ?_
  refine xk_ishr hx hb dL_isLoaded_11 ?_
  refine xk_iconst hx hb dL_isLoaded_12 ?_
  obtain ⟨v1, ev1, hf⟩ := x_bind hf
  refine xc_si (As := [.int (iI (x_shr p4 20)), .int (iI 2)]) (rest := [.int (iI p4)]) ⟨hx, hb, hml, hown, hts⟩ (kL_low l (x_shr p4 20) 2 _ ev1) (va_cwS 2 hts gL_isLoaded_L_low rfl rfl rfl cdL_low ⟨Nat.le_of_ble_eq_true rfl, Nat.le_of_ble_eq_true rfl⟩) rfl hl.1 rfl (Nat.le_of_ble_eq_true rfl) dL_isLoaded_13 ⟨by show _ ≤ 4; omega, by show _ ≤ 19; omega⟩ ?_
  obtain ⟨c2a, c2b, c2t, c2f⟩ := x_eqE hf
  refine xk_if_ne (tgt := 24) hx hb c2a dL_isLoaded_16 (by decide) (fun c2 => ?_) (fun c2 => ?_)
  · have hf := c2t c2
    refine xk_bipush hx hb dL_isLoaded_19 (by decide) ?_
    refine lv_goto (tgt := 27) hx hb dL_isLoaded_21 (by decide) ?_
    obtain ⟨v3, ev3, hf⟩ := x_bind hf
    refine xc_si (As := [.int (iI p4), .int (iI 8)]) (rest := []) ⟨hx, hb, hml, hown, hts⟩ (kL_low l p4 8 _ ev3) (va_cwS 2 hts gL_isLoaded_L_low rfl rfl rfl cdL_low ⟨Nat.le_of_ble_eq_true rfl, Nat.le_of_ble_eq_true rfl⟩) rfl hl.1 rfl (Nat.le_of_ble_eq_true rfl) dL_isLoaded_27 ⟨by show _ ≤ 4; omega, by show _ ≤ 19; omega⟩ ?_
    refine lv_istore (lv' := [(6, .int (iI v3)), (5, .ref ao), (0, .ref (a 0)), (1, .ref aa), (2, .ref ah), (3, .ref af), (4, .int (iI p4))]) hx hb dL_isLoaded_30 hl (by decide) rfl (fun ls hl => ?_)
    refine xk_iconst hx hb dL_isLoaded_32 ?_
    refine lv_iload hx hb dL_isLoaded_33 (lv_at hl 6 rfl) ?_
    refine xk_bipush hx hb dL_isLoaded_35 (by decide) ?_
    refine xk_ishr hx hb dL_isLoaded_37 ?_
    refine xk_bipush hx hb dL_isLoaded_38 (by decide) ?_
    obtain ⟨v4, ev4, hf⟩ := x_bind hf
    refine xc_si (As := [.int (iI (x_shr p4 10)), .int (iI 50)]) (rest := [.int (iI 1)]) ⟨hx, hb, hml, hown, hts⟩ (kL_low l (x_shr p4 10) 50 _ ev4) (va_cwS 2 hts gL_isLoaded_L_low rfl rfl rfl cdL_low ⟨Nat.le_of_ble_eq_true rfl, Nat.le_of_ble_eq_true rfl⟩) rfl hl.1 rfl (Nat.le_of_ble_eq_true rfl) dL_isLoaded_40 ⟨by show _ ≤ 4; omega, by show _ ≤ 19; omega⟩ ?_
    refine xk_iadd hx hb dL_isLoaded_43 ?_
    refine lv_istore (lv' := [(7, .int (iI (1 + v4))), (6, .int (iI v3)), (5, .ref ao), (0, .ref (a 0)), (1, .ref aa), (2, .ref ah), (3, .ref af), (4, .int (iI p4))]) hx hb dL_isLoaded_44 hl (by decide) rfl (fun ls hl => ?_)
    refine lv_aload_n hx hb dL_isLoaded_46 rfl (lv_at hl 5 rfl) ?_
    refine xk_iconst hx hb dL_isLoaded_47 ?_
    obtain ⟨v5, ev5, hf⟩ := x_bind hf
    refine xk_iald (f := vh) hx hb hK hP 1 0 ev5 (by decide) rfl rfl dL_isLoaded_48 ?_
    refine xk_bipush hx hb dL_isLoaded_49 (by decide) ?_
    obtain ⟨c6a, c6b, c6t, c6f⟩ := x_ltE hf
    refine xk_icmp_gt (tgt := 62) hx hb c6b c6a dL_isLoaded_51 (by decide) (fun c6 => ?_) (fun c6 => ?_)
    · have hf := c6t c6
      refine lv_aload_n hx hb dL_isLoaded_62 rfl (lv_at hl 3 rfl) ?_
      refine xk_sipush hx hb dL_isLoaded_63 (by decide) ?_
      refine lv_iload hx hb dL_isLoaded_66 (lv_at hl 0 rfl) ?_
      refine lv_aload hx hb dL_isLoaded_68 (lv_at hl 2 rfl) ?_
      obtain ⟨⟨v9, g7, y8⟩, ev9, hf⟩ := x_bind hf
      refine xf_sw (As := [.ref (a 0), .int (iI 1000), .int (iI (1 + v4)), .ref ao]) (rest := []) (wcs := [[qcC cs ao 1 (fun _ => 0)]] ++ w4 cs a y) (w1s := [[qcC cs ao 1 g7]] ++ w4 cs a y8) ⟨hx, hb, hml, hown, hts⟩ (kL_load l hlS dC dI cs ao a H.size (fun _ => 0) y 1000 (1 + v4) _ ev9) (vx_cwSW 4 hts gL_isLoaded_L_load rfl rfl rfl cdL_load ⟨Nat.le_of_ble_eq_true rfl, Nat.le_of_ble_eq_true rfl⟩) hK hP (x_addrF hD rfl) hS hA hTh hN [3, 4, 5, 6, 7, 8, 9, 10, 11, 12, 13] rfl rfl rfl (by decide) rfl rfl hl.1 rfl (Nat.le_of_ble_eq_true rfl) dL_isLoaded_70 ⟨by show _ ≤ 4; omega, by show _ ≤ 19; omega⟩ (fun H locs hP hS => ?_)
      have hP : va_P (dC, dI) vwCl (([[qcC cs aa 64 va], [qcC cs ah 8 vh], [qcC cs af 64 vf], [qcC cs ao 1 g7]] ++ w4 cs a y8).flatten) H := hP
      refine xk_iconst hx hb dL_isLoaded_73 ?_
      obtain ⟨c10a, c10b, c10t, c10f⟩ := x_eqE hf
      refine xk_icmp_ne (tgt := 81) hx hb c10a c10b dL_isLoaded_74 (by decide) (fun c10 => ?_) (fun c10 => ?_)
      · have hf := c10t c10
        refine xk_iconst hx hb dL_isLoaded_77 ?_
        refine lv_goto (tgt := 82) hx hb dL_isLoaded_78 (by decide) ?_
        obtain rfl := Option.some.inj hf
        refine W.widen (k := 4) (n := 19) (by omega) (by omega) ?_
        have hP : va_P (dC, dI) vwCl (([[qcC cs aa 64 va], [qcC cs ah 8 vh], [qcC cs af 64 vf]] ++ w4 cs a y8).flatten) H := hP.sub (ws' := ([[qcC cs aa 64 va], [qcC cs ah 8 vh], [qcC cs af 64 vf]] ++ w4 cs a y8).flatten) [0, 1, 2, 4, 5, 6, 7, 8, 9, 10, 11, 12, 13, 14, 15, 16, 17, 18, 19, 20, 21, 22, 23, 24, 25, 26, 27, 28, 29, 30, 31, 32, 33, 34, 35, 36, 37, 38, 39, 40, 41, 42, 43, 44, 45, 46, 47, 48, 49, 50, 51, 52, 53, 54, 55, 56, 57, 58, 59, 60, 61, 62, 63, 64, 65, 66, 67, 68, 69, 70, 71, 72, 73, 74, 75, 76, 77, 78, 79, 80, 81, 82, 83, 84, 85, 86, 87, 88, 89, 90, 91, 92, 93, 94, 95, 96, 97, 98, 99, 100, 101, 102, 103, 104, 105] rfl
        exact xe_wz hx hb hr (Or.inr rfl) hlocks hS hP dL_isLoaded_82
      · have hf := c10f c10
        refine xk_iconst hx hb dL_isLoaded_81 ?_
        obtain rfl := Option.some.inj hf
        refine W.widen (k := 4) (n := 19) (by omega) (by omega) ?_
        have hP : va_P (dC, dI) vwCl (([[qcC cs aa 64 va], [qcC cs ah 8 vh], [qcC cs af 64 vf]] ++ w4 cs a y8).flatten) H := hP.sub (ws' := ([[qcC cs aa 64 va], [qcC cs ah 8 vh], [qcC cs af 64 vf]] ++ w4 cs a y8).flatten) [0, 1, 2, 4, 5, 6, 7, 8, 9, 10, 11, 12, 13, 14, 15, 16, 17, 18, 19, 20, 21, 22, 23, 24, 25, 26, 27, 28, 29, 30, 31, 32, 33, 34, 35, 36, 37, 38, 39, 40, 41, 42, 43, 44, 45, 46, 47, 48, 49, 50, 51, 52, 53, 54, 55, 56, 57, 58, 59, 60, 61, 62, 63, 64, 65, 66, 67, 68, 69, 70, 71, 72, 73, 74, 75, 76, 77, 78, 79, 80, 81, 82, 83, 84, 85, 86, 87, 88, 89, 90, 91, 92, 93, 94, 95, 96, 97, 98, 99, 100, 101, 102, 103, 104, 105] rfl
        exact xe_wz hx hb hr (Or.inl rfl) hlocks hS hP dL_isLoaded_82
    · have hf := c6f c6
      refine lv_aload_n hx hb dL_isLoaded_54 rfl (lv_at hl 5 rfl) ?_
      refine xk_iconst hx hb dL_isLoaded_55 ?_
      obtain ⟨v11, ev11, hf⟩ := x_bind hf
      refine xk_iald (f := vh) hx hb hK hP 1 0 ev11 (by decide) rfl rfl dL_isLoaded_56 ?_
      refine xk_bipush hx hb dL_isLoaded_57 (by decide) ?_
      obtain ⟨c12a, c12b, c12t, c12f⟩ := x_ltE hf
      refine xk_icmp_le (tgt := 83) hx hb c12b c12a dL_isLoaded_59 (by decide) (fun c12 => ?_) (fun c12 => ?_)
      · have hf := c12t c12
        refine lv_aload_n hx hb dL_isLoaded_62 rfl (lv_at hl 3 rfl) ?_
        refine xk_sipush hx hb dL_isLoaded_63 (by decide) ?_
        refine lv_iload hx hb dL_isLoaded_66 (lv_at hl 0 rfl) ?_
        refine lv_aload hx hb dL_isLoaded_68 (lv_at hl 2 rfl) ?_
        obtain ⟨⟨v15, g13, y14⟩, ev15, hf⟩ := x_bind hf
        refine xf_sw (As := [.ref (a 0), .int (iI 1000), .int (iI (1 + v4)), .ref ao]) (rest := []) (wcs := [[qcC cs ao 1 (fun _ => 0)]] ++ w4 cs a y) (w1s := [[qcC cs ao 1 g13]] ++ w4 cs a y14) ⟨hx, hb, hml, hown, hts⟩ (kL_load l hlS dC dI cs ao a H.size (fun _ => 0) y 1000 (1 + v4) _ ev15) (vx_cwSW 4 hts gL_isLoaded_L_load rfl rfl rfl cdL_load ⟨Nat.le_of_ble_eq_true rfl, Nat.le_of_ble_eq_true rfl⟩) hK hP (x_addrF hD rfl) hS hA hTh hN [3, 4, 5, 6, 7, 8, 9, 10, 11, 12, 13] rfl rfl rfl (by decide) rfl rfl hl.1 rfl (Nat.le_of_ble_eq_true rfl) dL_isLoaded_70 ⟨by show _ ≤ 4; omega, by show _ ≤ 19; omega⟩ (fun H locs hP hS => ?_)
        have hP : va_P (dC, dI) vwCl (([[qcC cs aa 64 va], [qcC cs ah 8 vh], [qcC cs af 64 vf], [qcC cs ao 1 g13]] ++ w4 cs a y14).flatten) H := hP
        refine xk_iconst hx hb dL_isLoaded_73 ?_
        obtain ⟨c16a, c16b, c16t, c16f⟩ := x_eqE hf
        refine xk_icmp_ne (tgt := 81) hx hb c16a c16b dL_isLoaded_74 (by decide) (fun c16 => ?_) (fun c16 => ?_)
        · have hf := c16t c16
          refine xk_iconst hx hb dL_isLoaded_77 ?_
          refine lv_goto (tgt := 82) hx hb dL_isLoaded_78 (by decide) ?_
          obtain rfl := Option.some.inj hf
          refine W.widen (k := 4) (n := 19) (by omega) (by omega) ?_
          have hP : va_P (dC, dI) vwCl (([[qcC cs aa 64 va], [qcC cs ah 8 vh], [qcC cs af 64 vf]] ++ w4 cs a y14).flatten) H := hP.sub (ws' := ([[qcC cs aa 64 va], [qcC cs ah 8 vh], [qcC cs af 64 vf]] ++ w4 cs a y14).flatten) [0, 1, 2, 4, 5, 6, 7, 8, 9, 10, 11, 12, 13, 14, 15, 16, 17, 18, 19, 20, 21, 22, 23, 24, 25, 26, 27, 28, 29, 30, 31, 32, 33, 34, 35, 36, 37, 38, 39, 40, 41, 42, 43, 44, 45, 46, 47, 48, 49, 50, 51, 52, 53, 54, 55, 56, 57, 58, 59, 60, 61, 62, 63, 64, 65, 66, 67, 68, 69, 70, 71, 72, 73, 74, 75, 76, 77, 78, 79, 80, 81, 82, 83, 84, 85, 86, 87, 88, 89, 90, 91, 92, 93, 94, 95, 96, 97, 98, 99, 100, 101, 102, 103, 104, 105] rfl
          exact xe_wz hx hb hr (Or.inr rfl) hlocks hS hP dL_isLoaded_82
        · have hf := c16f c16
          refine xk_iconst hx hb dL_isLoaded_81 ?_
          obtain rfl := Option.some.inj hf
          refine W.widen (k := 4) (n := 19) (by omega) (by omega) ?_
          have hP : va_P (dC, dI) vwCl (([[qcC cs aa 64 va], [qcC cs ah 8 vh], [qcC cs af 64 vf]] ++ w4 cs a y14).flatten) H := hP.sub (ws' := ([[qcC cs aa 64 va], [qcC cs ah 8 vh], [qcC cs af 64 vf]] ++ w4 cs a y14).flatten) [0, 1, 2, 4, 5, 6, 7, 8, 9, 10, 11, 12, 13, 14, 15, 16, 17, 18, 19, 20, 21, 22, 23, 24, 25, 26, 27, 28, 29, 30, 31, 32, 33, 34, 35, 36, 37, 38, 39, 40, 41, 42, 43, 44, 45, 46, 47, 48, 49, 50, 51, 52, 53, 54, 55, 56, 57, 58, 59, 60, 61, 62, 63, 64, 65, 66, 67, 68, 69, 70, 71, 72, 73, 74, 75, 76, 77, 78, 79, 80, 81, 82, 83, 84, 85, 86, 87, 88, 89, 90, 91, 92, 93, 94, 95, 96, 97, 98, 99, 100, 101, 102, 103, 104, 105] rfl
          exact xe_wz hx hb hr (Or.inl rfl) hlocks hS hP dL_isLoaded_82
      · have hf := c12f c12
        refine lv_aload_n hx hb dL_isLoaded_83 rfl (lv_at hl 3 rfl) ?_
        refine lv_iload hx hb dL_isLoaded_84 (lv_at hl 1 rfl) ?_
        refine xk_bipush hx hb dL_isLoaded_86 (by decide) ?_
        refine lv_aload hx hb dL_isLoaded_88 (lv_at hl 2 rfl) ?_
        obtain ⟨⟨v19, g17, y18⟩, ev19, hf⟩ := x_bind hf
        refine xf_sw (As := [.ref (a 0), .int (iI v3), .int (iI 51), .ref ao]) (rest := []) (wcs := [[qcC cs ao 1 (fun _ => 0)]] ++ w4 cs a y) (w1s := [[qcC cs ao 1 g17]] ++ w4 cs a y18) ⟨hx, hb, hml, hown, hts⟩ (kL_load l hlS dC dI cs ao a H.size (fun _ => 0) y v3 51 _ ev19) (vx_cwSW 4 hts gL_isLoaded_L_load rfl rfl rfl cdL_load ⟨Nat.le_of_ble_eq_true rfl, Nat.le_of_ble_eq_true rfl⟩) hK hP (x_addrF hD rfl) hS hA hTh hN [3, 4, 5, 6, 7, 8, 9, 10, 11, 12, 13] rfl rfl rfl (by decide) rfl rfl hl.1 rfl (Nat.le_of_ble_eq_true rfl) dL_isLoaded_90 ⟨by show _ ≤ 4; omega, by show _ ≤ 19; omega⟩ (fun H locs hP hS => ?_)
        have hP : va_P (dC, dI) vwCl (([[qcC cs aa 64 va], [qcC cs ah 8 vh], [qcC cs af 64 vf], [qcC cs ao 1 g17]] ++ w4 cs a y18).flatten) H := hP
        refine xk_iconst hx hb dL_isLoaded_93 ?_
        obtain ⟨c20a, c20b, c20t, c20f⟩ := x_eqE hf
        refine xk_icmp_ne (tgt := 144) hx hb c20a c20b dL_isLoaded_94 (by decide) (fun c20 => ?_) (fun c20 => ?_)
        · have hf := c20t c20
          refine lv_aload_n hx hb dL_isLoaded_97 rfl (lv_at hl 3 rfl) ?_
          refine xk_iconst hx hb dL_isLoaded_98 ?_
          refine lv_iload hx hb dL_isLoaded_99 (lv_at hl 0 rfl) ?_
          refine lv_aload hx hb dL_isLoaded_101 (lv_at hl 2 rfl) ?_
          obtain ⟨⟨v23, g21, y22⟩, ev23, hf⟩ := x_bind hf
          refine xf_sw (As := [.ref (a 0), .int (iI (-1)), .int (iI (1 + v4)), .ref ao]) (rest := []) (wcs := [[qcC cs ao 1 g17]] ++ w4 cs a y18) (w1s := [[qcC cs ao 1 g21]] ++ w4 cs a y22) ⟨hx, hb, hml, hown, hts⟩ (kL_load l hlS dC dI cs ao a H.size g17 y18 (-1) (1 + v4) _ ev23) (vx_cwSW 4 hts gL_isLoaded_L_load rfl rfl rfl cdL_load ⟨Nat.le_of_ble_eq_true rfl, Nat.le_of_ble_eq_true rfl⟩) hK hP (x_addrF hD rfl) hS hA hTh hN [3, 4, 5, 6, 7, 8, 9, 10, 11, 12, 13] rfl rfl rfl (by decide) rfl rfl hl.1 rfl (Nat.le_of_ble_eq_true rfl) dL_isLoaded_103 ⟨by show _ ≤ 4; omega, by show _ ≤ 19; omega⟩ (fun H locs hP hS => ?_)
          have hP : va_P (dC, dI) vwCl (([[qcC cs aa 64 va], [qcC cs ah 8 vh], [qcC cs af 64 vf], [qcC cs ao 1 g21]] ++ w4 cs a y22).flatten) H := hP
          refine xk_iconst hx hb dL_isLoaded_106 ?_
          obtain ⟨c24a, c24b, c24t, c24f⟩ := x_eqE hf
          refine xk_icmp_ne (tgt := 144) hx hb c24a c24b dL_isLoaded_107 (by decide) (fun c24 => ?_) (fun c24 => ?_)
          · have hf := c24t c24
            refine lv_aload_n hx hb dL_isLoaded_110 rfl (lv_at hl 3 rfl) ?_
            refine lv_iload hx hb dL_isLoaded_111 (lv_at hl 1 rfl) ?_
            refine lv_iload hx hb dL_isLoaded_113 (lv_at hl 0 rfl) ?_
            refine lv_aload hx hb dL_isLoaded_115 (lv_at hl 2 rfl) ?_
            obtain ⟨⟨v27, g25, y26⟩, ev27, hf⟩ := x_bind hf
            refine xf_sw (As := [.ref (a 0), .int (iI v3), .int (iI (1 + v4)), .ref ao]) (rest := []) (wcs := [[qcC cs ao 1 g21]] ++ w4 cs a y22) (w1s := [[qcC cs ao 1 g25]] ++ w4 cs a y26) ⟨hx, hb, hml, hown, hts⟩ (kL_load l hlS dC dI cs ao a H.size g21 y22 v3 (1 + v4) _ ev27) (vx_cwSW 4 hts gL_isLoaded_L_load rfl rfl rfl cdL_load ⟨Nat.le_of_ble_eq_true rfl, Nat.le_of_ble_eq_true rfl⟩) hK hP (x_addrF hD rfl) hS hA hTh hN [3, 4, 5, 6, 7, 8, 9, 10, 11, 12, 13] rfl rfl rfl (by decide) rfl rfl hl.1 rfl (Nat.le_of_ble_eq_true rfl) dL_isLoaded_117 ⟨by show _ ≤ 4; omega, by show _ ≤ 19; omega⟩ (fun H locs hP hS => ?_)
            have hP : va_P (dC, dI) vwCl (([[qcC cs aa 64 va], [qcC cs ah 8 vh], [qcC cs af 64 vf], [qcC cs ao 1 g25]] ++ w4 cs a y26).flatten) H := hP
            obtain ⟨c28a, c28b, c28t, c28f⟩ := x_eqE hf
            refine xk_if_ne (tgt := 144) hx hb c28a dL_isLoaded_120 (by decide) (fun c28 => ?_) (fun c28 => ?_)
            · have hf := c28t c28
              refine lv_aload hx hb dL_isLoaded_123 (lv_at hl 2 rfl) ?_
              refine xk_iconst hx hb dL_isLoaded_125 ?_
              obtain ⟨v29, ev29, hf⟩ := x_bind hf
              refine xk_iald (f := g25) hx hb hK hP 3 0 ev29 (by decide) rfl rfl dL_isLoaded_126 ?_
              refine lv_aload_n hx hb dL_isLoaded_127 rfl (lv_at hl 4 rfl) ?_
              refine lv_aload_n hx hb dL_isLoaded_128 rfl (lv_at hl 5 rfl) ?_
              refine lv_aload_n hx hb dL_isLoaded_129 rfl (lv_at hl 6 rfl) ?_
              refine lv_iload hx hb dL_isLoaded_130 (lv_at hl 1 rfl) ?_
              refine lv_iload hx hb dL_isLoaded_132 (lv_at hl 0 rfl) ?_
              obtain ⟨⟨v33, g30, g31, g32⟩, ev33, hf⟩ := x_bind hf
              refine xf_swi (As := [.ref aa, .ref ah, .ref af, .int (iI v3), .int (iI (1 + v4))]) (rest := [.int (iI v29)]) (wcs := ([[qcC cs aa 64 va], [qcC cs ah 8 vh], [qcC cs af 64 vf]] : List va_W)) (w1s := ([[qcC cs aa 64 g30], [qcC cs ah 8 g31], [qcC cs af 64 g32]] : List va_W)) ⟨hx, hb, hml, hown, hts⟩ (kL_loads l dC dI cs aa ah af _ va vh vf v3 (1 + v4) _ ev33) (va_cwS 5 hts gL_isLoaded_L_loads rfl rfl rfl cdL_loads ⟨Nat.le_of_ble_eq_true rfl, Nat.le_of_ble_eq_true rfl⟩) hK hP (x_addrF hD rfl) hS hA [0, 1, 2] rfl rfl rfl (by decide) rfl rfl hl.1 rfl (Nat.le_of_ble_eq_true rfl) dL_isLoaded_134 ⟨by show _ ≤ 4; omega, by show _ ≤ 19; omega⟩ (fun H locs hP hS => ?_)
              have hP : va_P (dC, dI) vwCl (([[qcC cs aa 64 g30], [qcC cs ah 8 g31], [qcC cs af 64 g32], [qcC cs ao 1 g25]] ++ w4 cs a y26).flatten) H := hP
              obtain ⟨c34a, c34b, c34t, c34f⟩ := x_eqE hf
              refine xk_icmp_ne (tgt := 144) hx hb c34a c34b dL_isLoaded_137 (by decide) (fun c34 => ?_) (fun c34 => ?_)
              · have hf := c34t c34
                refine xk_iconst hx hb dL_isLoaded_140 ?_
                refine lv_goto (tgt := 145) hx hb dL_isLoaded_141 (by decide) ?_
                obtain rfl := Option.some.inj hf
                refine W.widen (k := 4) (n := 19) (by omega) (by omega) ?_
                have hP : va_P (dC, dI) vwCl (([[qcC cs aa 64 g30], [qcC cs ah 8 g31], [qcC cs af 64 g32]] ++ w4 cs a y26).flatten) H := hP.sub (ws' := ([[qcC cs aa 64 g30], [qcC cs ah 8 g31], [qcC cs af 64 g32]] ++ w4 cs a y26).flatten) [0, 1, 2, 4, 5, 6, 7, 8, 9, 10, 11, 12, 13, 14, 15, 16, 17, 18, 19, 20, 21, 22, 23, 24, 25, 26, 27, 28, 29, 30, 31, 32, 33, 34, 35, 36, 37, 38, 39, 40, 41, 42, 43, 44, 45, 46, 47, 48, 49, 50, 51, 52, 53, 54, 55, 56, 57, 58, 59, 60, 61, 62, 63, 64, 65, 66, 67, 68, 69, 70, 71, 72, 73, 74, 75, 76, 77, 78, 79, 80, 81, 82, 83, 84, 85, 86, 87, 88, 89, 90, 91, 92, 93, 94, 95, 96, 97, 98, 99, 100, 101, 102, 103, 104, 105] rfl
                exact xe_wz hx hb hr (Or.inr rfl) hlocks hS hP dL_isLoaded_145
              · have hf := c34f c34
                refine xk_iconst hx hb dL_isLoaded_144 ?_
                obtain rfl := Option.some.inj hf
                refine W.widen (k := 4) (n := 19) (by omega) (by omega) ?_
                have hP : va_P (dC, dI) vwCl (([[qcC cs aa 64 g30], [qcC cs ah 8 g31], [qcC cs af 64 g32]] ++ w4 cs a y26).flatten) H := hP.sub (ws' := ([[qcC cs aa 64 g30], [qcC cs ah 8 g31], [qcC cs af 64 g32]] ++ w4 cs a y26).flatten) [0, 1, 2, 4, 5, 6, 7, 8, 9, 10, 11, 12, 13, 14, 15, 16, 17, 18, 19, 20, 21, 22, 23, 24, 25, 26, 27, 28, 29, 30, 31, 32, 33, 34, 35, 36, 37, 38, 39, 40, 41, 42, 43, 44, 45, 46, 47, 48, 49, 50, 51, 52, 53, 54, 55, 56, 57, 58, 59, 60, 61, 62, 63, 64, 65, 66, 67, 68, 69, 70, 71, 72, 73, 74, 75, 76, 77, 78, 79, 80, 81, 82, 83, 84, 85, 86, 87, 88, 89, 90, 91, 92, 93, 94, 95, 96, 97, 98, 99, 100, 101, 102, 103, 104, 105] rfl
                exact xe_wz hx hb hr (Or.inl rfl) hlocks hS hP dL_isLoaded_145
            · have hf := c28f c28
              refine xk_iconst hx hb dL_isLoaded_144 ?_
              obtain rfl := Option.some.inj hf
              refine W.widen (k := 4) (n := 19) (by omega) (by omega) ?_
              have hP : va_P (dC, dI) vwCl (([[qcC cs aa 64 va], [qcC cs ah 8 vh], [qcC cs af 64 vf]] ++ w4 cs a y26).flatten) H := hP.sub (ws' := ([[qcC cs aa 64 va], [qcC cs ah 8 vh], [qcC cs af 64 vf]] ++ w4 cs a y26).flatten) [0, 1, 2, 4, 5, 6, 7, 8, 9, 10, 11, 12, 13, 14, 15, 16, 17, 18, 19, 20, 21, 22, 23, 24, 25, 26, 27, 28, 29, 30, 31, 32, 33, 34, 35, 36, 37, 38, 39, 40, 41, 42, 43, 44, 45, 46, 47, 48, 49, 50, 51, 52, 53, 54, 55, 56, 57, 58, 59, 60, 61, 62, 63, 64, 65, 66, 67, 68, 69, 70, 71, 72, 73, 74, 75, 76, 77, 78, 79, 80, 81, 82, 83, 84, 85, 86, 87, 88, 89, 90, 91, 92, 93, 94, 95, 96, 97, 98, 99, 100, 101, 102, 103, 104, 105] rfl
              exact xe_wz hx hb hr (Or.inl rfl) hlocks hS hP dL_isLoaded_145
          · have hf := c24f c24
            refine xk_iconst hx hb dL_isLoaded_144 ?_
            obtain rfl := Option.some.inj hf
            refine W.widen (k := 4) (n := 19) (by omega) (by omega) ?_
            have hP : va_P (dC, dI) vwCl (([[qcC cs aa 64 va], [qcC cs ah 8 vh], [qcC cs af 64 vf]] ++ w4 cs a y22).flatten) H := hP.sub (ws' := ([[qcC cs aa 64 va], [qcC cs ah 8 vh], [qcC cs af 64 vf]] ++ w4 cs a y22).flatten) [0, 1, 2, 4, 5, 6, 7, 8, 9, 10, 11, 12, 13, 14, 15, 16, 17, 18, 19, 20, 21, 22, 23, 24, 25, 26, 27, 28, 29, 30, 31, 32, 33, 34, 35, 36, 37, 38, 39, 40, 41, 42, 43, 44, 45, 46, 47, 48, 49, 50, 51, 52, 53, 54, 55, 56, 57, 58, 59, 60, 61, 62, 63, 64, 65, 66, 67, 68, 69, 70, 71, 72, 73, 74, 75, 76, 77, 78, 79, 80, 81, 82, 83, 84, 85, 86, 87, 88, 89, 90, 91, 92, 93, 94, 95, 96, 97, 98, 99, 100, 101, 102, 103, 104, 105] rfl
            exact xe_wz hx hb hr (Or.inl rfl) hlocks hS hP dL_isLoaded_145
        · have hf := c20f c20
          refine xk_iconst hx hb dL_isLoaded_144 ?_
          obtain rfl := Option.some.inj hf
          refine W.widen (k := 4) (n := 19) (by omega) (by omega) ?_
          have hP : va_P (dC, dI) vwCl (([[qcC cs aa 64 va], [qcC cs ah 8 vh], [qcC cs af 64 vf]] ++ w4 cs a y18).flatten) H := hP.sub (ws' := ([[qcC cs aa 64 va], [qcC cs ah 8 vh], [qcC cs af 64 vf]] ++ w4 cs a y18).flatten) [0, 1, 2, 4, 5, 6, 7, 8, 9, 10, 11, 12, 13, 14, 15, 16, 17, 18, 19, 20, 21, 22, 23, 24, 25, 26, 27, 28, 29, 30, 31, 32, 33, 34, 35, 36, 37, 38, 39, 40, 41, 42, 43, 44, 45, 46, 47, 48, 49, 50, 51, 52, 53, 54, 55, 56, 57, 58, 59, 60, 61, 62, 63, 64, 65, 66, 67, 68, 69, 70, 71, 72, 73, 74, 75, 76, 77, 78, 79, 80, 81, 82, 83, 84, 85, 86, 87, 88, 89, 90, 91, 92, 93, 94, 95, 96, 97, 98, 99, 100, 101, 102, 103, 104, 105] rfl
          exact xe_wz hx hb hr (Or.inl rfl) hlocks hS hP dL_isLoaded_145
  · have hf := c2f c2
    refine xk_sipush hx hb dL_isLoaded_24 (by decide) ?_
    obtain ⟨v35, ev35, hf⟩ := x_bind hf
    refine xc_si (As := [.int (iI p4), .int (iI 1000)]) (rest := []) ⟨hx, hb, hml, hown, hts⟩ (kL_low l p4 1000 _ ev35) (va_cwS 2 hts gL_isLoaded_L_low rfl rfl rfl cdL_low ⟨Nat.le_of_ble_eq_true rfl, Nat.le_of_ble_eq_true rfl⟩) rfl hl.1 rfl (Nat.le_of_ble_eq_true rfl) dL_isLoaded_27 ⟨by show _ ≤ 4; omega, by show _ ≤ 19; omega⟩ ?_
    refine lv_istore (lv' := [(6, .int (iI v35)), (5, .ref ao), (0, .ref (a 0)), (1, .ref aa), (2, .ref ah), (3, .ref af), (4, .int (iI p4))]) hx hb dL_isLoaded_30 hl (by decide) rfl (fun ls hl => ?_)
    refine xk_iconst hx hb dL_isLoaded_32 ?_
    refine lv_iload hx hb dL_isLoaded_33 (lv_at hl 6 rfl) ?_
    refine xk_bipush hx hb dL_isLoaded_35 (by decide) ?_
    refine xk_ishr hx hb dL_isLoaded_37 ?_
    refine xk_bipush hx hb dL_isLoaded_38 (by decide) ?_
    obtain ⟨v36, ev36, hf⟩ := x_bind hf
    refine xc_si (As := [.int (iI (x_shr p4 10)), .int (iI 50)]) (rest := [.int (iI 1)]) ⟨hx, hb, hml, hown, hts⟩ (kL_low l (x_shr p4 10) 50 _ ev36) (va_cwS 2 hts gL_isLoaded_L_low rfl rfl rfl cdL_low ⟨Nat.le_of_ble_eq_true rfl, Nat.le_of_ble_eq_true rfl⟩) rfl hl.1 rfl (Nat.le_of_ble_eq_true rfl) dL_isLoaded_40 ⟨by show _ ≤ 4; omega, by show _ ≤ 19; omega⟩ ?_
    refine xk_iadd hx hb dL_isLoaded_43 ?_
    refine lv_istore (lv' := [(7, .int (iI (1 + v36))), (6, .int (iI v35)), (5, .ref ao), (0, .ref (a 0)), (1, .ref aa), (2, .ref ah), (3, .ref af), (4, .int (iI p4))]) hx hb dL_isLoaded_44 hl (by decide) rfl (fun ls hl => ?_)
    refine lv_aload_n hx hb dL_isLoaded_46 rfl (lv_at hl 5 rfl) ?_
    refine xk_iconst hx hb dL_isLoaded_47 ?_
    obtain ⟨v37, ev37, hf⟩ := x_bind hf
    refine xk_iald (f := vh) hx hb hK hP 1 0 ev37 (by decide) rfl rfl dL_isLoaded_48 ?_
    refine xk_bipush hx hb dL_isLoaded_49 (by decide) ?_
    obtain ⟨c38a, c38b, c38t, c38f⟩ := x_ltE hf
    refine xk_icmp_gt (tgt := 62) hx hb c38b c38a dL_isLoaded_51 (by decide) (fun c38 => ?_) (fun c38 => ?_)
    · have hf := c38t c38
      refine lv_aload_n hx hb dL_isLoaded_62 rfl (lv_at hl 3 rfl) ?_
      refine xk_sipush hx hb dL_isLoaded_63 (by decide) ?_
      refine lv_iload hx hb dL_isLoaded_66 (lv_at hl 0 rfl) ?_
      refine lv_aload hx hb dL_isLoaded_68 (lv_at hl 2 rfl) ?_
      obtain ⟨⟨v41, g39, y40⟩, ev41, hf⟩ := x_bind hf
      refine xf_sw (As := [.ref (a 0), .int (iI 1000), .int (iI (1 + v36)), .ref ao]) (rest := []) (wcs := [[qcC cs ao 1 (fun _ => 0)]] ++ w4 cs a y) (w1s := [[qcC cs ao 1 g39]] ++ w4 cs a y40) ⟨hx, hb, hml, hown, hts⟩ (kL_load l hlS dC dI cs ao a H.size (fun _ => 0) y 1000 (1 + v36) _ ev41) (vx_cwSW 4 hts gL_isLoaded_L_load rfl rfl rfl cdL_load ⟨Nat.le_of_ble_eq_true rfl, Nat.le_of_ble_eq_true rfl⟩) hK hP (x_addrF hD rfl) hS hA hTh hN [3, 4, 5, 6, 7, 8, 9, 10, 11, 12, 13] rfl rfl rfl (by decide) rfl rfl hl.1 rfl (Nat.le_of_ble_eq_true rfl) dL_isLoaded_70 ⟨by show _ ≤ 4; omega, by show _ ≤ 19; omega⟩ (fun H locs hP hS => ?_)
      have hP : va_P (dC, dI) vwCl (([[qcC cs aa 64 va], [qcC cs ah 8 vh], [qcC cs af 64 vf], [qcC cs ao 1 g39]] ++ w4 cs a y40).flatten) H := hP
      refine xk_iconst hx hb dL_isLoaded_73 ?_
      obtain ⟨c42a, c42b, c42t, c42f⟩ := x_eqE hf
      refine xk_icmp_ne (tgt := 81) hx hb c42a c42b dL_isLoaded_74 (by decide) (fun c42 => ?_) (fun c42 => ?_)
      · have hf := c42t c42
        refine xk_iconst hx hb dL_isLoaded_77 ?_
        refine lv_goto (tgt := 82) hx hb dL_isLoaded_78 (by decide) ?_
        obtain rfl := Option.some.inj hf
        refine W.widen (k := 4) (n := 19) (by omega) (by omega) ?_
        have hP : va_P (dC, dI) vwCl (([[qcC cs aa 64 va], [qcC cs ah 8 vh], [qcC cs af 64 vf]] ++ w4 cs a y40).flatten) H := hP.sub (ws' := ([[qcC cs aa 64 va], [qcC cs ah 8 vh], [qcC cs af 64 vf]] ++ w4 cs a y40).flatten) [0, 1, 2, 4, 5, 6, 7, 8, 9, 10, 11, 12, 13, 14, 15, 16, 17, 18, 19, 20, 21, 22, 23, 24, 25, 26, 27, 28, 29, 30, 31, 32, 33, 34, 35, 36, 37, 38, 39, 40, 41, 42, 43, 44, 45, 46, 47, 48, 49, 50, 51, 52, 53, 54, 55, 56, 57, 58, 59, 60, 61, 62, 63, 64, 65, 66, 67, 68, 69, 70, 71, 72, 73, 74, 75, 76, 77, 78, 79, 80, 81, 82, 83, 84, 85, 86, 87, 88, 89, 90, 91, 92, 93, 94, 95, 96, 97, 98, 99, 100, 101, 102, 103, 104, 105] rfl
        exact xe_wz hx hb hr (Or.inr rfl) hlocks hS hP dL_isLoaded_82
      · have hf := c42f c42
        refine xk_iconst hx hb dL_isLoaded_81 ?_
        obtain rfl := Option.some.inj hf
        refine W.widen (k := 4) (n := 19) (by omega) (by omega) ?_
        have hP : va_P (dC, dI) vwCl (([[qcC cs aa 64 va], [qcC cs ah 8 vh], [qcC cs af 64 vf]] ++ w4 cs a y40).flatten) H := hP.sub (ws' := ([[qcC cs aa 64 va], [qcC cs ah 8 vh], [qcC cs af 64 vf]] ++ w4 cs a y40).flatten) [0, 1, 2, 4, 5, 6, 7, 8, 9, 10, 11, 12, 13, 14, 15, 16, 17, 18, 19, 20, 21, 22, 23, 24, 25, 26, 27, 28, 29, 30, 31, 32, 33, 34, 35, 36, 37, 38, 39, 40, 41, 42, 43, 44, 45, 46, 47, 48, 49, 50, 51, 52, 53, 54, 55, 56, 57, 58, 59, 60, 61, 62, 63, 64, 65, 66, 67, 68, 69, 70, 71, 72, 73, 74, 75, 76, 77, 78, 79, 80, 81, 82, 83, 84, 85, 86, 87, 88, 89, 90, 91, 92, 93, 94, 95, 96, 97, 98, 99, 100, 101, 102, 103, 104, 105] rfl
        exact xe_wz hx hb hr (Or.inl rfl) hlocks hS hP dL_isLoaded_82
    · have hf := c38f c38
      refine lv_aload_n hx hb dL_isLoaded_54 rfl (lv_at hl 5 rfl) ?_
      refine xk_iconst hx hb dL_isLoaded_55 ?_
      obtain ⟨v43, ev43, hf⟩ := x_bind hf
      refine xk_iald (f := vh) hx hb hK hP 1 0 ev43 (by decide) rfl rfl dL_isLoaded_56 ?_
      refine xk_bipush hx hb dL_isLoaded_57 (by decide) ?_
      obtain ⟨c44a, c44b, c44t, c44f⟩ := x_ltE hf
      refine xk_icmp_le (tgt := 83) hx hb c44b c44a dL_isLoaded_59 (by decide) (fun c44 => ?_) (fun c44 => ?_)
      · have hf := c44t c44
        refine lv_aload_n hx hb dL_isLoaded_62 rfl (lv_at hl 3 rfl) ?_
        refine xk_sipush hx hb dL_isLoaded_63 (by decide) ?_
        refine lv_iload hx hb dL_isLoaded_66 (lv_at hl 0 rfl) ?_
        refine lv_aload hx hb dL_isLoaded_68 (lv_at hl 2 rfl) ?_
        obtain ⟨⟨v47, g45, y46⟩, ev47, hf⟩ := x_bind hf
        refine xf_sw (As := [.ref (a 0), .int (iI 1000), .int (iI (1 + v36)), .ref ao]) (rest := []) (wcs := [[qcC cs ao 1 (fun _ => 0)]] ++ w4 cs a y) (w1s := [[qcC cs ao 1 g45]] ++ w4 cs a y46) ⟨hx, hb, hml, hown, hts⟩ (kL_load l hlS dC dI cs ao a H.size (fun _ => 0) y 1000 (1 + v36) _ ev47) (vx_cwSW 4 hts gL_isLoaded_L_load rfl rfl rfl cdL_load ⟨Nat.le_of_ble_eq_true rfl, Nat.le_of_ble_eq_true rfl⟩) hK hP (x_addrF hD rfl) hS hA hTh hN [3, 4, 5, 6, 7, 8, 9, 10, 11, 12, 13] rfl rfl rfl (by decide) rfl rfl hl.1 rfl (Nat.le_of_ble_eq_true rfl) dL_isLoaded_70 ⟨by show _ ≤ 4; omega, by show _ ≤ 19; omega⟩ (fun H locs hP hS => ?_)
        have hP : va_P (dC, dI) vwCl (([[qcC cs aa 64 va], [qcC cs ah 8 vh], [qcC cs af 64 vf], [qcC cs ao 1 g45]] ++ w4 cs a y46).flatten) H := hP
        refine xk_iconst hx hb dL_isLoaded_73 ?_
        obtain ⟨c48a, c48b, c48t, c48f⟩ := x_eqE hf
        refine xk_icmp_ne (tgt := 81) hx hb c48a c48b dL_isLoaded_74 (by decide) (fun c48 => ?_) (fun c48 => ?_)
        · have hf := c48t c48
          refine xk_iconst hx hb dL_isLoaded_77 ?_
          refine lv_goto (tgt := 82) hx hb dL_isLoaded_78 (by decide) ?_
          obtain rfl := Option.some.inj hf
          refine W.widen (k := 4) (n := 19) (by omega) (by omega) ?_
          have hP : va_P (dC, dI) vwCl (([[qcC cs aa 64 va], [qcC cs ah 8 vh], [qcC cs af 64 vf]] ++ w4 cs a y46).flatten) H := hP.sub (ws' := ([[qcC cs aa 64 va], [qcC cs ah 8 vh], [qcC cs af 64 vf]] ++ w4 cs a y46).flatten) [0, 1, 2, 4, 5, 6, 7, 8, 9, 10, 11, 12, 13, 14, 15, 16, 17, 18, 19, 20, 21, 22, 23, 24, 25, 26, 27, 28, 29, 30, 31, 32, 33, 34, 35, 36, 37, 38, 39, 40, 41, 42, 43, 44, 45, 46, 47, 48, 49, 50, 51, 52, 53, 54, 55, 56, 57, 58, 59, 60, 61, 62, 63, 64, 65, 66, 67, 68, 69, 70, 71, 72, 73, 74, 75, 76, 77, 78, 79, 80, 81, 82, 83, 84, 85, 86, 87, 88, 89, 90, 91, 92, 93, 94, 95, 96, 97, 98, 99, 100, 101, 102, 103, 104, 105] rfl
          exact xe_wz hx hb hr (Or.inr rfl) hlocks hS hP dL_isLoaded_82
        · have hf := c48f c48
          refine xk_iconst hx hb dL_isLoaded_81 ?_
          obtain rfl := Option.some.inj hf
          refine W.widen (k := 4) (n := 19) (by omega) (by omega) ?_
          have hP : va_P (dC, dI) vwCl (([[qcC cs aa 64 va], [qcC cs ah 8 vh], [qcC cs af 64 vf]] ++ w4 cs a y46).flatten) H := hP.sub (ws' := ([[qcC cs aa 64 va], [qcC cs ah 8 vh], [qcC cs af 64 vf]] ++ w4 cs a y46).flatten) [0, 1, 2, 4, 5, 6, 7, 8, 9, 10, 11, 12, 13, 14, 15, 16, 17, 18, 19, 20, 21, 22, 23, 24, 25, 26, 27, 28, 29, 30, 31, 32, 33, 34, 35, 36, 37, 38, 39, 40, 41, 42, 43, 44, 45, 46, 47, 48, 49, 50, 51, 52, 53, 54, 55, 56, 57, 58, 59, 60, 61, 62, 63, 64, 65, 66, 67, 68, 69, 70, 71, 72, 73, 74, 75, 76, 77, 78, 79, 80, 81, 82, 83, 84, 85, 86, 87, 88, 89, 90, 91, 92, 93, 94, 95, 96, 97, 98, 99, 100, 101, 102, 103, 104, 105] rfl
          exact xe_wz hx hb hr (Or.inl rfl) hlocks hS hP dL_isLoaded_82
      · have hf := c44f c44
        refine lv_aload_n hx hb dL_isLoaded_83 rfl (lv_at hl 3 rfl) ?_
        refine lv_iload hx hb dL_isLoaded_84 (lv_at hl 1 rfl) ?_
        refine xk_bipush hx hb dL_isLoaded_86 (by decide) ?_
        refine lv_aload hx hb dL_isLoaded_88 (lv_at hl 2 rfl) ?_
        obtain ⟨⟨v51, g49, y50⟩, ev51, hf⟩ := x_bind hf
        refine xf_sw (As := [.ref (a 0), .int (iI v35), .int (iI 51), .ref ao]) (rest := []) (wcs := [[qcC cs ao 1 (fun _ => 0)]] ++ w4 cs a y) (w1s := [[qcC cs ao 1 g49]] ++ w4 cs a y50) ⟨hx, hb, hml, hown, hts⟩ (kL_load l hlS dC dI cs ao a H.size (fun _ => 0) y v35 51 _ ev51) (vx_cwSW 4 hts gL_isLoaded_L_load rfl rfl rfl cdL_load ⟨Nat.le_of_ble_eq_true rfl, Nat.le_of_ble_eq_true rfl⟩) hK hP (x_addrF hD rfl) hS hA hTh hN [3, 4, 5, 6, 7, 8, 9, 10, 11, 12, 13] rfl rfl rfl (by decide) rfl rfl hl.1 rfl (Nat.le_of_ble_eq_true rfl) dL_isLoaded_90 ⟨by show _ ≤ 4; omega, by show _ ≤ 19; omega⟩ (fun H locs hP hS => ?_)
        have hP : va_P (dC, dI) vwCl (([[qcC cs aa 64 va], [qcC cs ah 8 vh], [qcC cs af 64 vf], [qcC cs ao 1 g49]] ++ w4 cs a y50).flatten) H := hP
        refine xk_iconst hx hb dL_isLoaded_93 ?_
        obtain ⟨c52a, c52b, c52t, c52f⟩ := x_eqE hf
        refine xk_icmp_ne (tgt := 144) hx hb c52a c52b dL_isLoaded_94 (by decide) (fun c52 => ?_) (fun c52 => ?_)
        · have hf := c52t c52
          refine lv_aload_n hx hb dL_isLoaded_97 rfl (lv_at hl 3 rfl) ?_
          refine xk_iconst hx hb dL_isLoaded_98 ?_
          refine lv_iload hx hb dL_isLoaded_99 (lv_at hl 0 rfl) ?_
          refine lv_aload hx hb dL_isLoaded_101 (lv_at hl 2 rfl) ?_
          obtain ⟨⟨v55, g53, y54⟩, ev55, hf⟩ := x_bind hf
          refine xf_sw (As := [.ref (a 0), .int (iI (-1)), .int (iI (1 + v36)), .ref ao]) (rest := []) (wcs := [[qcC cs ao 1 g49]] ++ w4 cs a y50) (w1s := [[qcC cs ao 1 g53]] ++ w4 cs a y54) ⟨hx, hb, hml, hown, hts⟩ (kL_load l hlS dC dI cs ao a H.size g49 y50 (-1) (1 + v36) _ ev55) (vx_cwSW 4 hts gL_isLoaded_L_load rfl rfl rfl cdL_load ⟨Nat.le_of_ble_eq_true rfl, Nat.le_of_ble_eq_true rfl⟩) hK hP (x_addrF hD rfl) hS hA hTh hN [3, 4, 5, 6, 7, 8, 9, 10, 11, 12, 13] rfl rfl rfl (by decide) rfl rfl hl.1 rfl (Nat.le_of_ble_eq_true rfl) dL_isLoaded_103 ⟨by show _ ≤ 4; omega, by show _ ≤ 19; omega⟩ (fun H locs hP hS => ?_)
          have hP : va_P (dC, dI) vwCl (([[qcC cs aa 64 va], [qcC cs ah 8 vh], [qcC cs af 64 vf], [qcC cs ao 1 g53]] ++ w4 cs a y54).flatten) H := hP
          refine xk_iconst hx hb dL_isLoaded_106 ?_
          obtain ⟨c56a, c56b, c56t, c56f⟩ := x_eqE hf
          refine xk_icmp_ne (tgt := 144) hx hb c56a c56b dL_isLoaded_107 (by decide) (fun c56 => ?_) (fun c56 => ?_)
          · have hf := c56t c56
            refine lv_aload_n hx hb dL_isLoaded_110 rfl (lv_at hl 3 rfl) ?_
            refine lv_iload hx hb dL_isLoaded_111 (lv_at hl 1 rfl) ?_
            refine lv_iload hx hb dL_isLoaded_113 (lv_at hl 0 rfl) ?_
            refine lv_aload hx hb dL_isLoaded_115 (lv_at hl 2 rfl) ?_
            obtain ⟨⟨v59, g57, y58⟩, ev59, hf⟩ := x_bind hf
            refine xf_sw (As := [.ref (a 0), .int (iI v35), .int (iI (1 + v36)), .ref ao]) (rest := []) (wcs := [[qcC cs ao 1 g53]] ++ w4 cs a y54) (w1s := [[qcC cs ao 1 g57]] ++ w4 cs a y58) ⟨hx, hb, hml, hown, hts⟩ (kL_load l hlS dC dI cs ao a H.size g53 y54 v35 (1 + v36) _ ev59) (vx_cwSW 4 hts gL_isLoaded_L_load rfl rfl rfl cdL_load ⟨Nat.le_of_ble_eq_true rfl, Nat.le_of_ble_eq_true rfl⟩) hK hP (x_addrF hD rfl) hS hA hTh hN [3, 4, 5, 6, 7, 8, 9, 10, 11, 12, 13] rfl rfl rfl (by decide) rfl rfl hl.1 rfl (Nat.le_of_ble_eq_true rfl) dL_isLoaded_117 ⟨by show _ ≤ 4; omega, by show _ ≤ 19; omega⟩ (fun H locs hP hS => ?_)
            have hP : va_P (dC, dI) vwCl (([[qcC cs aa 64 va], [qcC cs ah 8 vh], [qcC cs af 64 vf], [qcC cs ao 1 g57]] ++ w4 cs a y58).flatten) H := hP
            obtain ⟨c60a, c60b, c60t, c60f⟩ := x_eqE hf
            refine xk_if_ne (tgt := 144) hx hb c60a dL_isLoaded_120 (by decide) (fun c60 => ?_) (fun c60 => ?_)
            · have hf := c60t c60
              refine lv_aload hx hb dL_isLoaded_123 (lv_at hl 2 rfl) ?_
              refine xk_iconst hx hb dL_isLoaded_125 ?_
              obtain ⟨v61, ev61, hf⟩ := x_bind hf
              refine xk_iald (f := g57) hx hb hK hP 3 0 ev61 (by decide) rfl rfl dL_isLoaded_126 ?_
              refine lv_aload_n hx hb dL_isLoaded_127 rfl (lv_at hl 4 rfl) ?_
              refine lv_aload_n hx hb dL_isLoaded_128 rfl (lv_at hl 5 rfl) ?_
              refine lv_aload_n hx hb dL_isLoaded_129 rfl (lv_at hl 6 rfl) ?_
              refine lv_iload hx hb dL_isLoaded_130 (lv_at hl 1 rfl) ?_
              refine lv_iload hx hb dL_isLoaded_132 (lv_at hl 0 rfl) ?_
              obtain ⟨⟨v65, g62, g63, g64⟩, ev65, hf⟩ := x_bind hf
              refine xf_swi (As := [.ref aa, .ref ah, .ref af, .int (iI v35), .int (iI (1 + v36))]) (rest := [.int (iI v61)]) (wcs := ([[qcC cs aa 64 va], [qcC cs ah 8 vh], [qcC cs af 64 vf]] : List va_W)) (w1s := ([[qcC cs aa 64 g62], [qcC cs ah 8 g63], [qcC cs af 64 g64]] : List va_W)) ⟨hx, hb, hml, hown, hts⟩ (kL_loads l dC dI cs aa ah af _ va vh vf v35 (1 + v36) _ ev65) (va_cwS 5 hts gL_isLoaded_L_loads rfl rfl rfl cdL_loads ⟨Nat.le_of_ble_eq_true rfl, Nat.le_of_ble_eq_true rfl⟩) hK hP (x_addrF hD rfl) hS hA [0, 1, 2] rfl rfl rfl (by decide) rfl rfl hl.1 rfl (Nat.le_of_ble_eq_true rfl) dL_isLoaded_134 ⟨by show _ ≤ 4; omega, by show _ ≤ 19; omega⟩ (fun H locs hP hS => ?_)
              have hP : va_P (dC, dI) vwCl (([[qcC cs aa 64 g62], [qcC cs ah 8 g63], [qcC cs af 64 g64], [qcC cs ao 1 g57]] ++ w4 cs a y58).flatten) H := hP
              obtain ⟨c66a, c66b, c66t, c66f⟩ := x_eqE hf
              refine xk_icmp_ne (tgt := 144) hx hb c66a c66b dL_isLoaded_137 (by decide) (fun c66 => ?_) (fun c66 => ?_)
              · have hf := c66t c66
                refine xk_iconst hx hb dL_isLoaded_140 ?_
                refine lv_goto (tgt := 145) hx hb dL_isLoaded_141 (by decide) ?_
                obtain rfl := Option.some.inj hf
                refine W.widen (k := 4) (n := 19) (by omega) (by omega) ?_
                have hP : va_P (dC, dI) vwCl (([[qcC cs aa 64 g62], [qcC cs ah 8 g63], [qcC cs af 64 g64]] ++ w4 cs a y58).flatten) H := hP.sub (ws' := ([[qcC cs aa 64 g62], [qcC cs ah 8 g63], [qcC cs af 64 g64]] ++ w4 cs a y58).flatten) [0, 1, 2, 4, 5, 6, 7, 8, 9, 10, 11, 12, 13, 14, 15, 16, 17, 18, 19, 20, 21, 22, 23, 24, 25, 26, 27, 28, 29, 30, 31, 32, 33, 34, 35, 36, 37, 38, 39, 40, 41, 42, 43, 44, 45, 46, 47, 48, 49, 50, 51, 52, 53, 54, 55, 56, 57, 58, 59, 60, 61, 62, 63, 64, 65, 66, 67, 68, 69, 70, 71, 72, 73, 74, 75, 76, 77, 78, 79, 80, 81, 82, 83, 84, 85, 86, 87, 88, 89, 90, 91, 92, 93, 94, 95, 96, 97, 98, 99, 100, 101, 102, 103, 104, 105] rfl
                exact xe_wz hx hb hr (Or.inr rfl) hlocks hS hP dL_isLoaded_145
              · have hf := c66f c66
                refine xk_iconst hx hb dL_isLoaded_144 ?_
                obtain rfl := Option.some.inj hf
                refine W.widen (k := 4) (n := 19) (by omega) (by omega) ?_
                have hP : va_P (dC, dI) vwCl (([[qcC cs aa 64 g62], [qcC cs ah 8 g63], [qcC cs af 64 g64]] ++ w4 cs a y58).flatten) H := hP.sub (ws' := ([[qcC cs aa 64 g62], [qcC cs ah 8 g63], [qcC cs af 64 g64]] ++ w4 cs a y58).flatten) [0, 1, 2, 4, 5, 6, 7, 8, 9, 10, 11, 12, 13, 14, 15, 16, 17, 18, 19, 20, 21, 22, 23, 24, 25, 26, 27, 28, 29, 30, 31, 32, 33, 34, 35, 36, 37, 38, 39, 40, 41, 42, 43, 44, 45, 46, 47, 48, 49, 50, 51, 52, 53, 54, 55, 56, 57, 58, 59, 60, 61, 62, 63, 64, 65, 66, 67, 68, 69, 70, 71, 72, 73, 74, 75, 76, 77, 78, 79, 80, 81, 82, 83, 84, 85, 86, 87, 88, 89, 90, 91, 92, 93, 94, 95, 96, 97, 98, 99, 100, 101, 102, 103, 104, 105] rfl
                exact xe_wz hx hb hr (Or.inl rfl) hlocks hS hP dL_isLoaded_145
            · have hf := c60f c60
              refine xk_iconst hx hb dL_isLoaded_144 ?_
              obtain rfl := Option.some.inj hf
              refine W.widen (k := 4) (n := 19) (by omega) (by omega) ?_
              have hP : va_P (dC, dI) vwCl (([[qcC cs aa 64 va], [qcC cs ah 8 vh], [qcC cs af 64 vf]] ++ w4 cs a y58).flatten) H := hP.sub (ws' := ([[qcC cs aa 64 va], [qcC cs ah 8 vh], [qcC cs af 64 vf]] ++ w4 cs a y58).flatten) [0, 1, 2, 4, 5, 6, 7, 8, 9, 10, 11, 12, 13, 14, 15, 16, 17, 18, 19, 20, 21, 22, 23, 24, 25, 26, 27, 28, 29, 30, 31, 32, 33, 34, 35, 36, 37, 38, 39, 40, 41, 42, 43, 44, 45, 46, 47, 48, 49, 50, 51, 52, 53, 54, 55, 56, 57, 58, 59, 60, 61, 62, 63, 64, 65, 66, 67, 68, 69, 70, 71, 72, 73, 74, 75, 76, 77, 78, 79, 80, 81, 82, 83, 84, 85, 86, 87, 88, 89, 90, 91, 92, 93, 94, 95, 96, 97, 98, 99, 100, 101, 102, 103, 104, 105] rfl
              exact xe_wz hx hb hr (Or.inl rfl) hlocks hS hP dL_isLoaded_145
          · have hf := c56f c56
            refine xk_iconst hx hb dL_isLoaded_144 ?_
            obtain rfl := Option.some.inj hf
            refine W.widen (k := 4) (n := 19) (by omega) (by omega) ?_
            have hP : va_P (dC, dI) vwCl (([[qcC cs aa 64 va], [qcC cs ah 8 vh], [qcC cs af 64 vf]] ++ w4 cs a y54).flatten) H := hP.sub (ws' := ([[qcC cs aa 64 va], [qcC cs ah 8 vh], [qcC cs af 64 vf]] ++ w4 cs a y54).flatten) [0, 1, 2, 4, 5, 6, 7, 8, 9, 10, 11, 12, 13, 14, 15, 16, 17, 18, 19, 20, 21, 22, 23, 24, 25, 26, 27, 28, 29, 30, 31, 32, 33, 34, 35, 36, 37, 38, 39, 40, 41, 42, 43, 44, 45, 46, 47, 48, 49, 50, 51, 52, 53, 54, 55, 56, 57, 58, 59, 60, 61, 62, 63, 64, 65, 66, 67, 68, 69, 70, 71, 72, 73, 74, 75, 76, 77, 78, 79, 80, 81, 82, 83, 84, 85, 86, 87, 88, 89, 90, 91, 92, 93, 94, 95, 96, 97, 98, 99, 100, 101, 102, 103, 104, 105] rfl
            exact xe_wz hx hb hr (Or.inl rfl) hlocks hS hP dL_isLoaded_145
        · have hf := c52f c52
          refine xk_iconst hx hb dL_isLoaded_144 ?_
          obtain rfl := Option.some.inj hf
          refine W.widen (k := 4) (n := 19) (by omega) (by omega) ?_
          have hP : va_P (dC, dI) vwCl (([[qcC cs aa 64 va], [qcC cs ah 8 vh], [qcC cs af 64 vf]] ++ w4 cs a y50).flatten) H := hP.sub (ws' := ([[qcC cs aa 64 va], [qcC cs ah 8 vh], [qcC cs af 64 vf]] ++ w4 cs a y50).flatten) [0, 1, 2, 4, 5, 6, 7, 8, 9, 10, 11, 12, 13, 14, 15, 16, 17, 18, 19, 20, 21, 22, 23, 24, 25, 26, 27, 28, 29, 30, 31, 32, 33, 34, 35, 36, 37, 38, 39, 40, 41, 42, 43, 44, 45, 46, 47, 48, 49, 50, 51, 52, 53, 54, 55, 56, 57, 58, 59, 60, 61, 62, 63, 64, 65, 66, 67, 68, 69, 70, 71, 72, 73, 74, 75, 76, 77, 78, 79, 80, 81, 82, 83, 84, 85, 86, 87, 88, 89, 90, 91, 92, 93, 94, 95, 96, 97, 98, 99, 100, 101, 102, 103, 104, 105] rfl
          exact xe_wz hx hb hr (Or.inl rfl) hlocks hS hP dL_isLoaded_145
theorem cdL_isLoaded : yL_isLoaded.cls ≠ "java/lang/invoke/MethodHandle" ∧ yL_isLoaded.cls ≠ "java/lang/invoke/VarHandle" ∧ (parseMethodDescriptor yL_isLoaded.desc).map (fun d => d.parameters.length) = some 5 := by decide +kernel

set_option maxHeartbeats 8000000 in
set_option maxRecDepth 100000 in
theorem kL_isLanded (l : Launch) (hlS : l.stackTraces = false) (dC : Nat → ClassId) (dI : Nat → Nat → Nat) (cs : Nat → ClassId) (aa : Nat) (ah : Nat) (af : Nat) (a : Nat → Nat) (sz : Nat) (va : Int → Int) (vh : Int → Int) (vf : Int → Int) (y : BrS) (p4 : Int) (res : Int × (Int → Int) × (Int → Int) × (Int → Int) × BrS) (hf : fL_isLanded va vh vf y p4 = some res) : Met l yL_isLanded wsL_isLanded ({ frames := 8, cells := 3, slots := 13, locals := 126 } : Room) (va_Pc [.ref (a 0), .ref aa, .ref ah, .ref af, .int (iI p4)] (xPL (dC, dI) vwCl (([[qcC cs aa 64 va], [qcC cs ah 8 vh], [qcC cs af 64 vf]] ++ w4 cs a y).flatten) (xT cs) sz)) (xQi (dC, dI) vwCl (([[qcC cs aa 64 va], [qcC cs ah 8 vh], [qcC cs af 64 vf]] ++ w4 cs a y).flatten) (([[qcC cs aa 64 res.2.1], [qcC cs ah 8 res.2.2.1], [qcC cs af 64 res.2.2.2.1]] ++ w4 cs a res.2.2.2.2).flatten) sz res.1) 3 13 (va_A (([[qcC cs aa 64 va], [qcC cs ah 8 vh], [qcC cs af 64 vf]] ++ w4 cs a y).flatten) sz) := by
  refine Met.ofW (cc := cL_isLanded) (maxL := 11) (ret := (some .boolean)) (by decide) rfl ?_
  intro p e s m args below meth c s₁ B hml hv
  obtain ⟨rfl, ⟨⟨hsz, hP, hK, hD0⟩, hTh⟩, hN⟩ := hv
  have hx := B.exec
  have hb := B.bytes
  have hr := B.returns
  have hts := atoms_spec (ws := wsL_isLanded) B.pre
  have hown : s.vm.findClass RL = some m.cls := findClass_of_methodNamed B.named
  have hlocks := B.notSynchronized
  subst hsz
  have hD := hD0.self (sz := s.heap.size)
  have hA : ∀ z9 : Nat, s.heap.size ≤ z9 → va_A (([[qcC cs aa 64 va], [qcC cs ah 8 vh], [qcC cs af 64 vf]] ++ w4 cs a y).flatten) s.heap.size z9 := fun z9 h => Or.inr h
  have hS : va_S (va_A (([[qcC cs aa 64 va], [qcC cs ah 8 vh], [qcC cs af 64 vf]] ++ w4 cs a y).flatten) s.heap.size) s.heap s.heap [] := va_S.rf
  have hl := lv_entry [.ref (a 0), .ref aa, .ref ah, .ref af, .int (iI p4)] (n := 11) (Nat.le_of_ble_eq_true rfl)
  rw [lg_entry_eq]
  generalize (lg_sl [.ref (a 0), .ref aa, .ref ah, .ref af, .int (iI p4)] ++ List.replicate (11 - (lg_sl [.ref (a 0), .ref aa, .ref ah, .ref af, .int (iI p4)]).length) Slot.unset).toArray = ls at hl ⊢
  have hl : lv_has ls 11 [(0, .ref (a 0)), (1, .ref aa), (2, .ref ah), (3, .ref af), (4, .int (iI p4))] := hl
  unfold fL_isLanded at hf
  refine xk_iconst hx hb dL_isLanded_0 ?_
  refine va_newa (atype := .int) (ty := .int) (N' := 1) (a0 := (1, .inl (xA (fun _ => 0)))) hx hb (hts (.arrayClass .int) (by decide +kernel)) rfl hK hP (x_addrF hD rfl) hS hA (fun cA => x_zero cA 1) (by decide) (by decide) (Nat.le_of_ble_eq_true rfl) (by show _ ≤ 3; omega) (by show _ ≤ 13; omega) dL_isLanded_1 (fun ao cA H hK1 hP hD hS => ?_)
  obtain rfl := x_kind 0 hK1 (cB := cs 0) rfl (fun C h => by cases h)
  have hP : va_P (dC, dI) vwCl (([[qcC cs aa 64 va], [qcC cs ah 8 vh], [qcC cs af 64 vf], [qcC cs ao 1 (fun _ => 0)]] ++ w4 cs a y).flatten) H := hP.sub (ws' := ([[qcC cs aa 64 va], [qcC cs ah 8 vh], [qcC cs af 64 vf], [qcC cs ao 1 (fun _ => 0)]] ++ w4 cs a y).flatten) [0, 1, 2, 105, 3, 4, 5, 6, 7, 8, 9, 10, 11, 12, 13, 14, 15, 16, 17, 18, 19, 20, 21, 22, 23, 24, 25, 26, 27, 28, 29, 30, 31, 32, 33, 34, 35, 36, 37, 38, 39, 40, 41, 42, 43, 44, 45, 46, 47, 48, 49, 50, 51, 52, 53, 54, 55, 56, 57, 58, 59, 60, 61, 62, 63, 64, 65, 66, 67, 68, 69, 70, 71, 72, 73, 74, 75, 76, 77, 78, 79, 80, 81, 82, 83, 84, 85, 86, 87, 88, 89, 90, 91, 92, 93, 94, 95, 96, 97, 98, 99, 100, 101, 102, 103, 104] rfl
  have hD : va_D (va_A (([[qcC cs aa 64 va], [qcC cs ah 8 vh], [qcC cs af 64 vf]] ++ w4 cs a y).flatten) s.heap.size) (([[qcC cs aa 64 va], [qcC cs ah 8 vh], [qcC cs af 64 vf], [qcC cs ao 1 (fun _ => 0)]] ++ w4 cs a y).flatten) := hD.sub (ws' := ([[qcC cs aa 64 va], [qcC cs ah 8 vh], [qcC cs af 64 vf], [qcC cs ao 1 (fun _ => 0)]] ++ w4 cs a y).flatten) [0, 1, 2, 105, 3, 4, 5, 6, 7, 8, 9, 10, 11, 12, 13, 14, 15, 16, 17, 18, 19, 20, 21, 22, 23, 24, 25, 26, 27, 28, 29, 30, 31, 32, 33, 34, 35, 36, 37, 38, 39, 40, 41, 42, 43, 44, 45, 46, 47, 48, 49, 50, 51, 52, 53, 54, 55, 56, 57, 58, 59, 60, 61, 62, 63, 64, 65, 66, 67, 68, 69, 70, 71, 72, 73, 74, 75, 76, 77, 78, 79, 80, 81, 82, 83, 84, 85, 86, 87, 88, 89, 90, 91, 92, 93, 94, 95, 96, 97, 98, 99, 100, 101, 102, 103, 104] (by decide +kernel) rfl
  refine lv_astore (lv' := [(5, .ref ao), (0, .ref (a 0)), (1, .ref aa), (2, .ref ah), (3, .ref af), (4, .int (iI p4))]) hx hb dL_isLanded_3 hl (by decide) rfl (fun ls hl => ?_)
  refine lv_aload_n hx hb dL_isLanded_5 rfl (lv_at hl 3 rfl) ?_
  refine lv_aload_n hx hb dL_isLanded_6 rfl (lv_at hl 4 rfl) ?_
  obtain ⟨v1, ev1, hf⟩ := x_bind hf
  refine xf_sri (As := [.ref ah, .ref af]) (rest := []) (wcs := ([[qcC cs ah 8 vh], [qcC cs af 64 vf]] : List va_W)) ⟨hx, hb, hml, hown, hts⟩ (kL_runs l dC dI cs ah af vh vf _ ev1) (va_cwS 2 hts gL_isLanded_L_runs rfl rfl rfl cdL_runs ⟨Nat.le_of_ble_eq_true rfl, Nat.le_of_ble_eq_true rfl⟩) hK hP [1, 2] rfl rfl rfl hl.1 rfl (Nat.le_of_ble_eq_true rfl) dL_isLanded_7 ⟨by show _ ≤ 3; omega, by show _ ≤ 13; omega⟩ ?_
  refine lv_istore (lv' := [(6, .int (iI v1)), (5, .ref ao), (0, .ref (a 0)), (1, .ref aa), (2, .ref ah), (3, .ref af), (4, .int (iI p4))]) hx hb dL_isLanded_10 hl (by decide) rfl (fun ls hl => ?_)
  refine lv_iload hx hb dL_isLanded_12 (lv_at hl 0 rfl) ?_
  obtain ⟨c2a, c2b, c2t, c2f⟩ := x_eqE hf
  refine xk_if_ne (tgt := 45) hx hb c2a dL_isLanded_14 (by decide) (fun c2 => ?_) (fun c2 => ?_)
  · have hf := c2t c2
    refine lv_aload_n hx hb dL_isLanded_17 rfl (lv_at hl 2 rfl) ?_
    refine xk_iconst hx hb dL_isLanded_18 ?_
    refine lv_aload hx hb dL_isLanded_19 (lv_at hl 1 rfl) ?_
    obtain ⟨⟨v5, g3, y4⟩, ev5, hf⟩ := x_bind hf
    refine xf_sw (As := [.ref (a 0), .int (iI 0), .ref ao]) (rest := []) (wcs := [[qcC cs ao 1 (fun _ => 0)]] ++ w4 cs a y) (w1s := [[qcC cs ao 1 g3]] ++ w4 cs a y4) ⟨hx, hb, hml, hown, hts⟩ (kL_land l hlS dC dI cs ao a H.size (fun _ => 0) y 0 _ ev5) (vx_cwSW 3 hts gL_isLanded_L_land rfl rfl rfl cdL_land ⟨Nat.le_of_ble_eq_true rfl, Nat.le_of_ble_eq_true rfl⟩) hK hP (x_addrF hD rfl) hS hA hTh hN [3, 4, 5, 6, 7, 8, 9, 10, 11, 12, 13] rfl rfl rfl (by decide) rfl rfl hl.1 rfl (Nat.le_of_ble_eq_true rfl) dL_isLanded_21 ⟨by show _ ≤ 3; omega, by show _ ≤ 13; omega⟩ (fun H locs hP hS => ?_)
    have hP : va_P (dC, dI) vwCl (([[qcC cs aa 64 va], [qcC cs ah 8 vh], [qcC cs af 64 vf], [qcC cs ao 1 g3]] ++ w4 cs a y4).flatten) H := hP
    refine xk_iconst hx hb dL_isLanded_24 ?_
    obtain ⟨c6a, c6b, c6t, c6f⟩ := x_eqE hf
    refine xk_icmp_ne (tgt := 43) hx hb c6a c6b dL_isLanded_25 (by decide) (fun c6 => ?_) (fun c6 => ?_)
    · have hf := c6t c6
      refine lv_aload_n hx hb dL_isLanded_28 rfl (lv_at hl 2 rfl) ?_
      refine xk_iconst hx hb dL_isLanded_29 ?_
      refine lv_aload hx hb dL_isLanded_30 (lv_at hl 1 rfl) ?_
      obtain ⟨⟨v9, g7, y8⟩, ev9, hf⟩ := x_bind hf
      refine xf_sw (As := [.ref (a 0), .int (iI 0), .ref ao]) (rest := []) (wcs := [[qcC cs ao 1 g3]] ++ w4 cs a y4) (w1s := [[qcC cs ao 1 g7]] ++ w4 cs a y8) ⟨hx, hb, hml, hown, hts⟩ (kL_tighten l hlS dC dI cs ao a H.size g3 y4 0 _ ev9) (vx_cwSW 3 hts gL_isLanded_L_tighten rfl rfl rfl cdL_tighten ⟨Nat.le_of_ble_eq_true rfl, Nat.le_of_ble_eq_true rfl⟩) hK hP (x_addrF hD rfl) hS hA hTh hN [3, 4, 5, 6, 7, 8, 9, 10, 11, 12, 13] rfl rfl rfl (by decide) rfl rfl hl.1 rfl (Nat.le_of_ble_eq_true rfl) dL_isLanded_32 ⟨by show _ ≤ 3; omega, by show _ ≤ 13; omega⟩ (fun H locs hP hS => ?_)
      have hP : va_P (dC, dI) vwCl (([[qcC cs aa 64 va], [qcC cs ah 8 vh], [qcC cs af 64 vf], [qcC cs ao 1 g7]] ++ w4 cs a y8).flatten) H := hP
      refine xk_iconst hx hb dL_isLanded_35 ?_
      obtain ⟨c10a, c10b, c10t, c10f⟩ := x_eqE hf
      refine xk_icmp_ne (tgt := 43) hx hb c10a c10b dL_isLanded_36 (by decide) (fun c10 => ?_) (fun c10 => ?_)
      · have hf := c10t c10
        refine xk_iconst hx hb dL_isLanded_39 ?_
        refine lv_goto (tgt := 44) hx hb dL_isLanded_40 (by decide) ?_
        obtain rfl := Option.some.inj hf
        refine W.widen (k := 3) (n := 13) (by omega) (by omega) ?_
        have hP : va_P (dC, dI) vwCl (([[qcC cs aa 64 va], [qcC cs ah 8 vh], [qcC cs af 64 vf]] ++ w4 cs a y8).flatten) H := hP.sub (ws' := ([[qcC cs aa 64 va], [qcC cs ah 8 vh], [qcC cs af 64 vf]] ++ w4 cs a y8).flatten) [0, 1, 2, 4, 5, 6, 7, 8, 9, 10, 11, 12, 13, 14, 15, 16, 17, 18, 19, 20, 21, 22, 23, 24, 25, 26, 27, 28, 29, 30, 31, 32, 33, 34, 35, 36, 37, 38, 39, 40, 41, 42, 43, 44, 45, 46, 47, 48, 49, 50, 51, 52, 53, 54, 55, 56, 57, 58, 59, 60, 61, 62, 63, 64, 65, 66, 67, 68, 69, 70, 71, 72, 73, 74, 75, 76, 77, 78, 79, 80, 81, 82, 83, 84, 85, 86, 87, 88, 89, 90, 91, 92, 93, 94, 95, 96, 97, 98, 99, 100, 101, 102, 103, 104, 105] rfl
        exact xe_wz hx hb hr (Or.inr rfl) hlocks hS hP dL_isLanded_44
      · have hf := c10f c10
        refine xk_iconst hx hb dL_isLanded_43 ?_
        obtain rfl := Option.some.inj hf
        refine W.widen (k := 3) (n := 13) (by omega) (by omega) ?_
        have hP : va_P (dC, dI) vwCl (([[qcC cs aa 64 va], [qcC cs ah 8 vh], [qcC cs af 64 vf]] ++ w4 cs a y8).flatten) H := hP.sub (ws' := ([[qcC cs aa 64 va], [qcC cs ah 8 vh], [qcC cs af 64 vf]] ++ w4 cs a y8).flatten) [0, 1, 2, 4, 5, 6, 7, 8, 9, 10, 11, 12, 13, 14, 15, 16, 17, 18, 19, 20, 21, 22, 23, 24, 25, 26, 27, 28, 29, 30, 31, 32, 33, 34, 35, 36, 37, 38, 39, 40, 41, 42, 43, 44, 45, 46, 47, 48, 49, 50, 51, 52, 53, 54, 55, 56, 57, 58, 59, 60, 61, 62, 63, 64, 65, 66, 67, 68, 69, 70, 71, 72, 73, 74, 75, 76, 77, 78, 79, 80, 81, 82, 83, 84, 85, 86, 87, 88, 89, 90, 91, 92, 93, 94, 95, 96, 97, 98, 99, 100, 101, 102, 103, 104, 105] rfl
        exact xe_wz hx hb hr (Or.inl rfl) hlocks hS hP dL_isLanded_44
    · have hf := c6f c6
      refine xk_iconst hx hb dL_isLanded_43 ?_
      obtain rfl := Option.some.inj hf
      refine W.widen (k := 3) (n := 13) (by omega) (by omega) ?_
      have hP : va_P (dC, dI) vwCl (([[qcC cs aa 64 va], [qcC cs ah 8 vh], [qcC cs af 64 vf]] ++ w4 cs a y4).flatten) H := hP.sub (ws' := ([[qcC cs aa 64 va], [qcC cs ah 8 vh], [qcC cs af 64 vf]] ++ w4 cs a y4).flatten) [0, 1, 2, 4, 5, 6, 7, 8, 9, 10, 11, 12, 13, 14, 15, 16, 17, 18, 19, 20, 21, 22, 23, 24, 25, 26, 27, 28, 29, 30, 31, 32, 33, 34, 35, 36, 37, 38, 39, 40, 41, 42, 43, 44, 45, 46, 47, 48, 49, 50, 51, 52, 53, 54, 55, 56, 57, 58, 59, 60, 61, 62, 63, 64, 65, 66, 67, 68, 69, 70, 71, 72, 73, 74, 75, 76, 77, 78, 79, 80, 81, 82, 83, 84, 85, 86, 87, 88, 89, 90, 91, 92, 93, 94, 95, 96, 97, 98, 99, 100, 101, 102, 103, 104, 105] rfl
      exact xe_wz hx hb hr (Or.inl rfl) hlocks hS hP dL_isLanded_44
  · have hf := c2f c2
    refine lv_aload_n hx hb dL_isLanded_45 rfl (lv_at hl 4 rfl) ?_
    refine lv_aload_n hx hb dL_isLanded_46 rfl (lv_at hl 5 rfl) ?_
    refine lv_iload hx hb dL_isLanded_47 (lv_at hl 6 rfl) ?_
    refine lv_iload hx hb dL_isLanded_49 (lv_at hl 0 rfl) ?_
    obtain ⟨v11, ev11, hf⟩ := x_bind hf
    refine xc_si (As := [.int (iI p4), .int (iI v1)]) (rest := [.ref af, .ref ah]) ⟨hx, hb, hml, hown, hts⟩ (kL_low l p4 v1 _ ev11) (va_cwS 2 hts gL_isLanded_L_low rfl rfl rfl cdL_low ⟨Nat.le_of_ble_eq_true rfl, Nat.le_of_ble_eq_true rfl⟩) rfl hl.1 rfl (Nat.le_of_ble_eq_true rfl) dL_isLanded_51 ⟨by show _ ≤ 3; omega, by show _ ≤ 13; omega⟩ ?_
    obtain ⟨v12, ev12, hf⟩ := x_bind hf
    refine xf_sri (As := [.ref ah, .ref af, .int (iI v11)]) (rest := []) (wcs := ([[qcC cs ah 8 vh], [qcC cs af 64 vf]] : List va_W)) ⟨hx, hb, hml, hown, hts⟩ (kL_runBy l dC dI cs ah af vh vf v11 _ ev12) (va_cwS 3 hts gL_isLanded_L_runBy rfl rfl rfl cdL_runBy ⟨Nat.le_of_ble_eq_true rfl, Nat.le_of_ble_eq_true rfl⟩) hK hP [1, 2] rfl rfl rfl hl.1 rfl (Nat.le_of_ble_eq_true rfl) dL_isLanded_54 ⟨by show _ ≤ 3; omega, by show _ ≤ 13; omega⟩ ?_
    refine lv_istore (lv' := [(7, .int (iI v12)), (6, .int (iI v1)), (5, .ref ao), (0, .ref (a 0)), (1, .ref aa), (2, .ref ah), (3, .ref af), (4, .int (iI p4))]) hx hb dL_isLanded_57 hl (by decide) rfl (fun ls hl => ?_)
    refine lv_iload hx hb dL_isLanded_59 (lv_at hl 7 rfl) ?_
    refine xk_bipush hx hb dL_isLanded_61 (by decide) ?_
    refine xk_ishr hx hb dL_isLanded_63 ?_
    refine xk_iconst hx hb dL_isLanded_64 ?_
    obtain ⟨v13, ev13, hf⟩ := x_bind hf
    refine xc_si (As := [.int (iI (x_shr p4 7)), .int (iI 3)]) (rest := []) ⟨hx, hb, hml, hown, hts⟩ (kL_low l (x_shr p4 7) 3 _ ev13) (va_cwS 2 hts gL_isLanded_L_low rfl rfl rfl cdL_low ⟨Nat.le_of_ble_eq_true rfl, Nat.le_of_ble_eq_true rfl⟩) rfl hl.1 rfl (Nat.le_of_ble_eq_true rfl) dL_isLanded_65 ⟨by show _ ≤ 3; omega, by show _ ≤ 13; omega⟩ ?_
    obtain ⟨c14a, c14b, c14t, c14f⟩ := x_eqE hf
    refine xk_if_ne (tgt := 123) hx hb c14a dL_isLanded_68 (by decide) (fun c14 => ?_) (fun c14 => ?_)
    · have hf := c14t c14
      refine lv_aload_n hx hb dL_isLanded_71 rfl (lv_at hl 6 rfl) ?_
      refine lv_iload hx hb dL_isLanded_72 (lv_at hl 0 rfl) ?_
      refine lv_aload_n hx hb dL_isLanded_74 rfl (lv_at hl 6 rfl) ?_
      refine lv_iload hx hb dL_isLanded_75 (lv_at hl 0 rfl) ?_
      obtain ⟨v15, ev15, hf⟩ := x_bind hf
      refine xk_iald (f := vf) hx hb hK hP 2 0 ev15 (by decide) rfl rfl dL_isLanded_77 ?_
      refine xk_bipush hx hb dL_isLanded_78 (by decide) ?_
      obtain ⟨c16a, c16b, c16t, c16f⟩ := x_ltE hf
      refine xk_icmp_ge (tgt := 92) hx hb c16a c16b dL_isLanded_80 (by decide) (fun c16 => ?_) (fun c16 => ?_)
      · have hf := c16t c16
        refine lv_aload_n hx hb dL_isLanded_83 rfl (lv_at hl 6 rfl) ?_
        refine lv_iload hx hb dL_isLanded_84 (lv_at hl 0 rfl) ?_
        obtain ⟨v17, ev17, hf⟩ := x_bind hf
        refine xk_iald (f := vf) hx hb hK hP 2 0 ev17 (by decide) rfl rfl dL_isLanded_86 ?_
        refine xk_iconst hx hb dL_isLanded_87 ?_
        refine xk_iadd hx hb dL_isLanded_88 ?_
        refine lv_goto (tgt := 94) hx hb dL_isLanded_89 (by decide) ?_
        obtain ⟨g18, eg18, hf⟩ := x_bind hf
        refine xk_iast (f := vf) hx hb hK hP (x_addrF hD rfl) hS 2 0 eg18 (by decide) rfl rfl dL_isLanded_94 (fun H locs hP hS => ?_)
        have hP : va_P (dC, dI) vwCl (([[qcC cs aa 64 va], [qcC cs ah 8 vh], [qcC cs af 64 g18], [qcC cs ao 1 (fun _ => 0)]] ++ w4 cs a y).flatten) H := hP
        refine lv_aload_n hx hb dL_isLanded_95 rfl (lv_at hl 3 rfl) ?_
        refine lv_iload hx hb dL_isLanded_96 (lv_at hl 0 rfl) ?_
        refine lv_aload hx hb dL_isLanded_98 (lv_at hl 2 rfl) ?_
        obtain ⟨⟨v21, g19, y20⟩, ev21, hf⟩ := x_bind hf
        refine xf_sw (As := [.ref (a 0), .int (iI v12), .ref ao]) (rest := []) (wcs := [[qcC cs ao 1 (fun _ => 0)]] ++ w4 cs a y) (w1s := [[qcC cs ao 1 g19]] ++ w4 cs a y20) ⟨hx, hb, hml, hown, hts⟩ (kL_tighten l hlS dC dI cs ao a H.size (fun _ => 0) y v12 _ ev21) (vx_cwSW 3 hts gL_isLanded_L_tighten rfl rfl rfl cdL_tighten ⟨Nat.le_of_ble_eq_true rfl, Nat.le_of_ble_eq_true rfl⟩) hK hP (x_addrF hD rfl) hS hA hTh hN [3, 4, 5, 6, 7, 8, 9, 10, 11, 12, 13] rfl rfl rfl (by decide) rfl rfl hl.1 rfl (Nat.le_of_ble_eq_true rfl) dL_isLanded_100 ⟨by show _ ≤ 3; omega, by show _ ≤ 13; omega⟩ (fun H locs hP hS => ?_)
        have hP : va_P (dC, dI) vwCl (([[qcC cs aa 64 va], [qcC cs ah 8 vh], [qcC cs af 64 g18], [qcC cs ao 1 g19]] ++ w4 cs a y20).flatten) H := hP
        obtain ⟨c22a, c22b, c22t, c22f⟩ := x_eqE hf
        refine xk_if_ne (tgt := 121) hx hb c22a dL_isLanded_103 (by decide) (fun c22 => ?_) (fun c22 => ?_)
        · have hf := c22t c22
          refine lv_aload hx hb dL_isLanded_106 (lv_at hl 2 rfl) ?_
          refine xk_iconst hx hb dL_isLanded_108 ?_
          obtain ⟨v23, ev23, hf⟩ := x_bind hf
          refine xk_iald (f := g19) hx hb hK hP 3 0 ev23 (by decide) rfl rfl dL_isLanded_109 ?_
          refine lv_aload_n hx hb dL_isLanded_110 rfl (lv_at hl 6 rfl) ?_
          refine lv_iload hx hb dL_isLanded_111 (lv_at hl 0 rfl) ?_
          obtain ⟨v24, ev24, hf⟩ := x_bind hf
          refine xk_iald (f := g18) hx hb hK hP 2 0 ev24 (by decide) rfl rfl dL_isLanded_113 ?_
          obtain ⟨c25a, c25b, c25t, c25f⟩ := x_eqE hf
          refine xk_icmp_ne (tgt := 121) hx hb c25a c25b dL_isLanded_114 (by decide) (fun c25 => ?_) (fun c25 => ?_)
          · have hf := c25t c25
            refine xk_iconst hx hb dL_isLanded_117 ?_
            refine lv_goto (tgt := 122) hx hb dL_isLanded_118 (by decide) ?_
            obtain rfl := Option.some.inj hf
            refine W.widen (k := 3) (n := 13) (by omega) (by omega) ?_
            have hP : va_P (dC, dI) vwCl (([[qcC cs aa 64 va], [qcC cs ah 8 vh], [qcC cs af 64 g18]] ++ w4 cs a y20).flatten) H := hP.sub (ws' := ([[qcC cs aa 64 va], [qcC cs ah 8 vh], [qcC cs af 64 g18]] ++ w4 cs a y20).flatten) [0, 1, 2, 4, 5, 6, 7, 8, 9, 10, 11, 12, 13, 14, 15, 16, 17, 18, 19, 20, 21, 22, 23, 24, 25, 26, 27, 28, 29, 30, 31, 32, 33, 34, 35, 36, 37, 38, 39, 40, 41, 42, 43, 44, 45, 46, 47, 48, 49, 50, 51, 52, 53, 54, 55, 56, 57, 58, 59, 60, 61, 62, 63, 64, 65, 66, 67, 68, 69, 70, 71, 72, 73, 74, 75, 76, 77, 78, 79, 80, 81, 82, 83, 84, 85, 86, 87, 88, 89, 90, 91, 92, 93, 94, 95, 96, 97, 98, 99, 100, 101, 102, 103, 104, 105] rfl
            exact xe_wz hx hb hr (Or.inr rfl) hlocks hS hP dL_isLanded_122
          · have hf := c25f c25
            refine xk_iconst hx hb dL_isLanded_121 ?_
            obtain rfl := Option.some.inj hf
            refine W.widen (k := 3) (n := 13) (by omega) (by omega) ?_
            have hP : va_P (dC, dI) vwCl (([[qcC cs aa 64 va], [qcC cs ah 8 vh], [qcC cs af 64 g18]] ++ w4 cs a y20).flatten) H := hP.sub (ws' := ([[qcC cs aa 64 va], [qcC cs ah 8 vh], [qcC cs af 64 g18]] ++ w4 cs a y20).flatten) [0, 1, 2, 4, 5, 6, 7, 8, 9, 10, 11, 12, 13, 14, 15, 16, 17, 18, 19, 20, 21, 22, 23, 24, 25, 26, 27, 28, 29, 30, 31, 32, 33, 34, 35, 36, 37, 38, 39, 40, 41, 42, 43, 44, 45, 46, 47, 48, 49, 50, 51, 52, 53, 54, 55, 56, 57, 58, 59, 60, 61, 62, 63, 64, 65, 66, 67, 68, 69, 70, 71, 72, 73, 74, 75, 76, 77, 78, 79, 80, 81, 82, 83, 84, 85, 86, 87, 88, 89, 90, 91, 92, 93, 94, 95, 96, 97, 98, 99, 100, 101, 102, 103, 104, 105] rfl
            exact xe_wz hx hb hr (Or.inl rfl) hlocks hS hP dL_isLanded_122
        · have hf := c22f c22
          refine xk_iconst hx hb dL_isLanded_121 ?_
          obtain rfl := Option.some.inj hf
          refine W.widen (k := 3) (n := 13) (by omega) (by omega) ?_
          have hP : va_P (dC, dI) vwCl (([[qcC cs aa 64 va], [qcC cs ah 8 vh], [qcC cs af 64 g18]] ++ w4 cs a y20).flatten) H := hP.sub (ws' := ([[qcC cs aa 64 va], [qcC cs ah 8 vh], [qcC cs af 64 g18]] ++ w4 cs a y20).flatten) [0, 1, 2, 4, 5, 6, 7, 8, 9, 10, 11, 12, 13, 14, 15, 16, 17, 18, 19, 20, 21, 22, 23, 24, 25, 26, 27, 28, 29, 30, 31, 32, 33, 34, 35, 36, 37, 38, 39, 40, 41, 42, 43, 44, 45, 46, 47, 48, 49, 50, 51, 52, 53, 54, 55, 56, 57, 58, 59, 60, 61, 62, 63, 64, 65, 66, 67, 68, 69, 70, 71, 72, 73, 74, 75, 76, 77, 78, 79, 80, 81, 82, 83, 84, 85, 86, 87, 88, 89, 90, 91, 92, 93, 94, 95, 96, 97, 98, 99, 100, 101, 102, 103, 104, 105] rfl
          exact xe_wz hx hb hr (Or.inl rfl) hlocks hS hP dL_isLanded_122
      · have hf := c16f c16
        refine xk_bipush hx hb dL_isLanded_92 (by decide) ?_
        obtain ⟨g26, eg26, hf⟩ := x_bind hf
        refine xk_iast (f := vf) hx hb hK hP (x_addrF hD rfl) hS 2 0 eg26 (by decide) rfl rfl dL_isLanded_94 (fun H locs hP hS => ?_)
        have hP : va_P (dC, dI) vwCl (([[qcC cs aa 64 va], [qcC cs ah 8 vh], [qcC cs af 64 g26], [qcC cs ao 1 (fun _ => 0)]] ++ w4 cs a y).flatten) H := hP
        refine lv_aload_n hx hb dL_isLanded_95 rfl (lv_at hl 3 rfl) ?_
        refine lv_iload hx hb dL_isLanded_96 (lv_at hl 0 rfl) ?_
        refine lv_aload hx hb dL_isLanded_98 (lv_at hl 2 rfl) ?_
        obtain ⟨⟨v29, g27, y28⟩, ev29, hf⟩ := x_bind hf
        refine xf_sw (As := [.ref (a 0), .int (iI v12), .ref ao]) (rest := []) (wcs := [[qcC cs ao 1 (fun _ => 0)]] ++ w4 cs a y) (w1s := [[qcC cs ao 1 g27]] ++ w4 cs a y28) ⟨hx, hb, hml, hown, hts⟩ (kL_tighten l hlS dC dI cs ao a H.size (fun _ => 0) y v12 _ ev29) (vx_cwSW 3 hts gL_isLanded_L_tighten rfl rfl rfl cdL_tighten ⟨Nat.le_of_ble_eq_true rfl, Nat.le_of_ble_eq_true rfl⟩) hK hP (x_addrF hD rfl) hS hA hTh hN [3, 4, 5, 6, 7, 8, 9, 10, 11, 12, 13] rfl rfl rfl (by decide) rfl rfl hl.1 rfl (Nat.le_of_ble_eq_true rfl) dL_isLanded_100 ⟨by show _ ≤ 3; omega, by show _ ≤ 13; omega⟩ (fun H locs hP hS => ?_)
        have hP : va_P (dC, dI) vwCl (([[qcC cs aa 64 va], [qcC cs ah 8 vh], [qcC cs af 64 g26], [qcC cs ao 1 g27]] ++ w4 cs a y28).flatten) H := hP
        obtain ⟨c30a, c30b, c30t, c30f⟩ := x_eqE hf
        refine xk_if_ne (tgt := 121) hx hb c30a dL_isLanded_103 (by decide) (fun c30 => ?_) (fun c30 => ?_)
        · have hf := c30t c30
          refine lv_aload hx hb dL_isLanded_106 (lv_at hl 2 rfl) ?_
          refine xk_iconst hx hb dL_isLanded_108 ?_
          obtain ⟨v31, ev31, hf⟩ := x_bind hf
          refine xk_iald (f := g27) hx hb hK hP 3 0 ev31 (by decide) rfl rfl dL_isLanded_109 ?_
          refine lv_aload_n hx hb dL_isLanded_110 rfl (lv_at hl 6 rfl) ?_
          refine lv_iload hx hb dL_isLanded_111 (lv_at hl 0 rfl) ?_
          obtain ⟨v32, ev32, hf⟩ := x_bind hf
          refine xk_iald (f := g26) hx hb hK hP 2 0 ev32 (by decide) rfl rfl dL_isLanded_113 ?_
          obtain ⟨c33a, c33b, c33t, c33f⟩ := x_eqE hf
          refine xk_icmp_ne (tgt := 121) hx hb c33a c33b dL_isLanded_114 (by decide) (fun c33 => ?_) (fun c33 => ?_)
          · have hf := c33t c33
            refine xk_iconst hx hb dL_isLanded_117 ?_
            refine lv_goto (tgt := 122) hx hb dL_isLanded_118 (by decide) ?_
            obtain rfl := Option.some.inj hf
            refine W.widen (k := 3) (n := 13) (by omega) (by omega) ?_
            have hP : va_P (dC, dI) vwCl (([[qcC cs aa 64 va], [qcC cs ah 8 vh], [qcC cs af 64 g26]] ++ w4 cs a y28).flatten) H := hP.sub (ws' := ([[qcC cs aa 64 va], [qcC cs ah 8 vh], [qcC cs af 64 g26]] ++ w4 cs a y28).flatten) [0, 1, 2, 4, 5, 6, 7, 8, 9, 10, 11, 12, 13, 14, 15, 16, 17, 18, 19, 20, 21, 22, 23, 24, 25, 26, 27, 28, 29, 30, 31, 32, 33, 34, 35, 36, 37, 38, 39, 40, 41, 42, 43, 44, 45, 46, 47, 48, 49, 50, 51, 52, 53, 54, 55, 56, 57, 58, 59, 60, 61, 62, 63, 64, 65, 66, 67, 68, 69, 70, 71, 72, 73, 74, 75, 76, 77, 78, 79, 80, 81, 82, 83, 84, 85, 86, 87, 88, 89, 90, 91, 92, 93, 94, 95, 96, 97, 98, 99, 100, 101, 102, 103, 104, 105] rfl
            exact xe_wz hx hb hr (Or.inr rfl) hlocks hS hP dL_isLanded_122
          · have hf := c33f c33
            refine xk_iconst hx hb dL_isLanded_121 ?_
            obtain rfl := Option.some.inj hf
            refine W.widen (k := 3) (n := 13) (by omega) (by omega) ?_
            have hP : va_P (dC, dI) vwCl (([[qcC cs aa 64 va], [qcC cs ah 8 vh], [qcC cs af 64 g26]] ++ w4 cs a y28).flatten) H := hP.sub (ws' := ([[qcC cs aa 64 va], [qcC cs ah 8 vh], [qcC cs af 64 g26]] ++ w4 cs a y28).flatten) [0, 1, 2, 4, 5, 6, 7, 8, 9, 10, 11, 12, 13, 14, 15, 16, 17, 18, 19, 20, 21, 22, 23, 24, 25, 26, 27, 28, 29, 30, 31, 32, 33, 34, 35, 36, 37, 38, 39, 40, 41, 42, 43, 44, 45, 46, 47, 48, 49, 50, 51, 52, 53, 54, 55, 56, 57, 58, 59, 60, 61, 62, 63, 64, 65, 66, 67, 68, 69, 70, 71, 72, 73, 74, 75, 76, 77, 78, 79, 80, 81, 82, 83, 84, 85, 86, 87, 88, 89, 90, 91, 92, 93, 94, 95, 96, 97, 98, 99, 100, 101, 102, 103, 104, 105] rfl
            exact xe_wz hx hb hr (Or.inl rfl) hlocks hS hP dL_isLanded_122
        · have hf := c30f c30
          refine xk_iconst hx hb dL_isLanded_121 ?_
          obtain rfl := Option.some.inj hf
          refine W.widen (k := 3) (n := 13) (by omega) (by omega) ?_
          have hP : va_P (dC, dI) vwCl (([[qcC cs aa 64 va], [qcC cs ah 8 vh], [qcC cs af 64 g26]] ++ w4 cs a y28).flatten) H := hP.sub (ws' := ([[qcC cs aa 64 va], [qcC cs ah 8 vh], [qcC cs af 64 g26]] ++ w4 cs a y28).flatten) [0, 1, 2, 4, 5, 6, 7, 8, 9, 10, 11, 12, 13, 14, 15, 16, 17, 18, 19, 20, 21, 22, 23, 24, 25, 26, 27, 28, 29, 30, 31, 32, 33, 34, 35, 36, 37, 38, 39, 40, 41, 42, 43, 44, 45, 46, 47, 48, 49, 50, 51, 52, 53, 54, 55, 56, 57, 58, 59, 60, 61, 62, 63, 64, 65, 66, 67, 68, 69, 70, 71, 72, 73, 74, 75, 76, 77, 78, 79, 80, 81, 82, 83, 84, 85, 86, 87, 88, 89, 90, 91, 92, 93, 94, 95, 96, 97, 98, 99, 100, 101, 102, 103, 104, 105] rfl
          exact xe_wz hx hb hr (Or.inl rfl) hlocks hS hP dL_isLanded_122
    · have hf := c14f c14
      refine lv_aload_n hx hb dL_isLanded_123 rfl (lv_at hl 4 rfl) ?_
      refine lv_aload_n hx hb dL_isLanded_124 rfl (lv_at hl 5 rfl) ?_
      refine xk_iconst hx hb dL_isLanded_125 ?_
      refine xk_iconst hx hb dL_isLanded_126 ?_
      obtain ⟨v34, ev34, hf⟩ := x_bind hf
      refine xf_sri (As := [.ref aa, .ref ah, .int (iI 2), .int (iI (-1))]) (rest := []) (wcs := ([[qcC cs aa 64 va], [qcC cs ah 8 vh]] : List va_W)) ⟨hx, hb, hml, hown, hts⟩ (kL_many l dC dI cs aa ah va vh 2 (-1) _ ev34) (va_cwS 4 hts gL_isLanded_L_many rfl rfl rfl cdL_many ⟨Nat.le_of_ble_eq_true rfl, Nat.le_of_ble_eq_true rfl⟩) hK hP [0, 1] rfl rfl rfl hl.1 rfl (Nat.le_of_ble_eq_true rfl) dL_isLanded_127 ⟨by show _ ≤ 3; omega, by show _ ≤ 13; omega⟩ ?_
      refine lv_istore (lv' := [(8, .int (iI v34)), (7, .int (iI v12)), (6, .int (iI v1)), (5, .ref ao), (0, .ref (a 0)), (1, .ref aa), (2, .ref ah), (3, .ref af), (4, .int (iI p4))]) hx hb dL_isLanded_130 hl (by decide) rfl (fun ls hl => ?_)
      refine lv_iload hx hb dL_isLanded_132 (lv_at hl 0 rfl) ?_
      obtain ⟨c35a, c35b, c35t, c35f⟩ := x_ltE hf
      refine xk_if_le (tgt := 182) hx hb c35b dL_isLanded_134 (by decide) (fun c35 => ?_) (fun c35 => ?_)
      · have hf := c35t c35
        refine lv_aload_n hx hb dL_isLanded_137 rfl (lv_at hl 5 rfl) ?_
        refine lv_aload_n hx hb dL_isLanded_138 rfl (lv_at hl 5 rfl) ?_
        refine lv_aload_n hx hb dL_isLanded_139 rfl (lv_at hl 6 rfl) ?_
        refine xk_iconst hx hb dL_isLanded_140 ?_
        refine xk_iconst hx hb dL_isLanded_141 ?_
        refine lv_iload hx hb dL_isLanded_142 (lv_at hl 0 rfl) ?_
        refine xk_iconst hx hb dL_isLanded_144 ?_
        refine xk_isub hx hb dL_isLanded_145 ?_
        obtain ⟨v36, ev36, hf⟩ := x_bind hf
        refine xf_sri (As := [.ref aa, .ref ah, .int (iI 2), .int (iI (-1)), .int (iI (v34 - 1))]) (rest := [.ref aa]) (wcs := ([[qcC cs aa 64 va], [qcC cs ah 8 vh]] : List va_W)) ⟨hx, hb, hml, hown, hts⟩ (kL_ranked l dC dI cs aa ah va vh 2 (-1) (v34 - 1) _ ev36) (va_cwS 5 hts gL_isLanded_L_ranked rfl rfl rfl cdL_ranked ⟨Nat.le_of_ble_eq_true rfl, Nat.le_of_ble_eq_true rfl⟩) hK hP [0, 1] rfl rfl rfl hl.1 rfl (Nat.le_of_ble_eq_true rfl) dL_isLanded_146 ⟨by show _ ≤ 3; omega, by show _ ≤ 13; omega⟩ ?_
        refine lv_aload_n hx hb dL_isLanded_149 rfl (lv_at hl 5 rfl) ?_
        refine lv_aload_n hx hb dL_isLanded_150 rfl (lv_at hl 6 rfl) ?_
        refine xk_iconst hx hb dL_isLanded_151 ?_
        refine lv_iload hx hb dL_isLanded_152 (lv_at hl 1 rfl) ?_
        refine xk_iconst hx hb dL_isLanded_154 ?_
        obtain ⟨v37, ev37, hf⟩ := x_bind hf
        refine xf_sri (As := [.ref aa, .ref ah, .int (iI 1), .int (iI v12), .int (iI 0)]) (rest := [.int (iI v36), .ref aa]) (wcs := ([[qcC cs aa 64 va], [qcC cs ah 8 vh]] : List va_W)) ⟨hx, hb, hml, hown, hts⟩ (kL_ranked l dC dI cs aa ah va vh 1 v12 0 _ ev37) (va_cwS 5 hts gL_isLanded_L_ranked rfl rfl rfl cdL_ranked ⟨Nat.le_of_ble_eq_true rfl, Nat.le_of_ble_eq_true rfl⟩) hK hP [0, 1] rfl rfl rfl hl.1 rfl (Nat.le_of_ble_eq_true rfl) dL_isLanded_155 ⟨by show _ ≤ 3; omega, by show _ ≤ 13; omega⟩ ?_
        obtain ⟨v38, ev38, hf⟩ := x_bind hf
        refine xf_sri (As := [.ref aa, .int (iI v36), .int (iI v37)]) (rest := []) (wcs := ([[qcC cs aa 64 va]] : List va_W)) ⟨hx, hb, hml, hown, hts⟩ (kL_isLess l dC dI cs aa va v36 v37 _ ev38) (va_cwS 3 hts gL_isLanded_L_isLess rfl rfl rfl cdL_isLess ⟨Nat.le_of_ble_eq_true rfl, Nat.le_of_ble_eq_true rfl⟩) hK hP [0] rfl rfl rfl hl.1 rfl (Nat.le_of_ble_eq_true rfl) dL_isLanded_158 ⟨by show _ ≤ 3; omega, by show _ ≤ 13; omega⟩ ?_
        obtain ⟨c39a, c39b, c39t, c39f⟩ := x_eqE hf
        refine xk_if_ne (tgt := 182) hx hb c39a dL_isLanded_161 (by decide) (fun c39 => ?_) (fun c39 => ?_)
        · have hf := c39t c39
          refine lv_aload_n hx hb dL_isLanded_164 rfl (lv_at hl 4 rfl) ?_
          refine lv_iload hx hb dL_isLanded_165 (lv_at hl 1 rfl) ?_
          refine lv_aload hx hb dL_isLanded_167 (lv_at hl 3 rfl) ?_
          obtain ⟨⟨v42, g40, y41⟩, ev42, hf⟩ := x_bind hf
          refine xf_sw (As := [.ref (a 0), .int (iI v12), .ref ao]) (rest := []) (wcs := [[qcC cs ao 1 (fun _ => 0)]] ++ w4 cs a y) (w1s := [[qcC cs ao 1 g40]] ++ w4 cs a y41) ⟨hx, hb, hml, hown, hts⟩ (kL_land l hlS dC dI cs ao a H.size (fun _ => 0) y v12 _ ev42) (vx_cwSW 3 hts gL_isLanded_L_land rfl rfl rfl cdL_land ⟨Nat.le_of_ble_eq_true rfl, Nat.le_of_ble_eq_true rfl⟩) hK hP (x_addrF hD rfl) hS hA hTh hN [3, 4, 5, 6, 7, 8, 9, 10, 11, 12, 13] rfl rfl rfl (by decide) rfl rfl hl.1 rfl (Nat.le_of_ble_eq_true rfl) dL_isLanded_169 ⟨by show _ ≤ 3; omega, by show _ ≤ 13; omega⟩ (fun H locs hP hS => ?_)
          have hP : va_P (dC, dI) vwCl (([[qcC cs aa 64 va], [qcC cs ah 8 vh], [qcC cs af 64 vf], [qcC cs ao 1 g40]] ++ w4 cs a y41).flatten) H := hP
          refine xk_iconst hx hb dL_isLanded_172 ?_
          obtain ⟨c43a, c43b, c43t, c43f⟩ := x_eqE hf
          refine xk_icmp_ne (tgt := 180) hx hb c43a c43b dL_isLanded_173 (by decide) (fun c43 => ?_) (fun c43 => ?_)
          · have hf := c43t c43
            refine xk_iconst hx hb dL_isLanded_176 ?_
            refine lv_goto (tgt := 181) hx hb dL_isLanded_177 (by decide) ?_
            obtain rfl := Option.some.inj hf
            refine W.widen (k := 3) (n := 13) (by omega) (by omega) ?_
            have hP : va_P (dC, dI) vwCl (([[qcC cs aa 64 va], [qcC cs ah 8 vh], [qcC cs af 64 vf]] ++ w4 cs a y41).flatten) H := hP.sub (ws' := ([[qcC cs aa 64 va], [qcC cs ah 8 vh], [qcC cs af 64 vf]] ++ w4 cs a y41).flatten) [0, 1, 2, 4, 5, 6, 7, 8, 9, 10, 11, 12, 13, 14, 15, 16, 17, 18, 19, 20, 21, 22, 23, 24, 25, 26, 27, 28, 29, 30, 31, 32, 33, 34, 35, 36, 37, 38, 39, 40, 41, 42, 43, 44, 45, 46, 47, 48, 49, 50, 51, 52, 53, 54, 55, 56, 57, 58, 59, 60, 61, 62, 63, 64, 65, 66, 67, 68, 69, 70, 71, 72, 73, 74, 75, 76, 77, 78, 79, 80, 81, 82, 83, 84, 85, 86, 87, 88, 89, 90, 91, 92, 93, 94, 95, 96, 97, 98, 99, 100, 101, 102, 103, 104, 105] rfl
            exact xe_wz hx hb hr (Or.inr rfl) hlocks hS hP dL_isLanded_181
          · have hf := c43f c43
            refine xk_iconst hx hb dL_isLanded_180 ?_
            obtain rfl := Option.some.inj hf
            refine W.widen (k := 3) (n := 13) (by omega) (by omega) ?_
            have hP : va_P (dC, dI) vwCl (([[qcC cs aa 64 va], [qcC cs ah 8 vh], [qcC cs af 64 vf]] ++ w4 cs a y41).flatten) H := hP.sub (ws' := ([[qcC cs aa 64 va], [qcC cs ah 8 vh], [qcC cs af 64 vf]] ++ w4 cs a y41).flatten) [0, 1, 2, 4, 5, 6, 7, 8, 9, 10, 11, 12, 13, 14, 15, 16, 17, 18, 19, 20, 21, 22, 23, 24, 25, 26, 27, 28, 29, 30, 31, 32, 33, 34, 35, 36, 37, 38, 39, 40, 41, 42, 43, 44, 45, 46, 47, 48, 49, 50, 51, 52, 53, 54, 55, 56, 57, 58, 59, 60, 61, 62, 63, 64, 65, 66, 67, 68, 69, 70, 71, 72, 73, 74, 75, 76, 77, 78, 79, 80, 81, 82, 83, 84, 85, 86, 87, 88, 89, 90, 91, 92, 93, 94, 95, 96, 97, 98, 99, 100, 101, 102, 103, 104, 105] rfl
            exact xe_wz hx hb hr (Or.inl rfl) hlocks hS hP dL_isLanded_181
        · have hf := c39f c39
          refine lv_aload_n hx hb dL_isLanded_182 rfl (lv_at hl 5 rfl) ?_
          refine lv_aload_n hx hb dL_isLanded_183 rfl (lv_at hl 6 rfl) ?_
          refine xk_iconst hx hb dL_isLanded_184 ?_
          refine lv_iload hx hb dL_isLanded_185 (lv_at hl 1 rfl) ?_
          obtain ⟨v44, ev44, hf⟩ := x_bind hf
          refine xf_sri (As := [.ref aa, .ref ah, .int (iI 1), .int (iI v12)]) (rest := []) (wcs := ([[qcC cs aa 64 va], [qcC cs ah 8 vh]] : List va_W)) ⟨hx, hb, hml, hown, hts⟩ (kL_many l dC dI cs aa ah va vh 1 v12 _ ev44) (va_cwS 4 hts gL_isLanded_L_many rfl rfl rfl cdL_many ⟨Nat.le_of_ble_eq_true rfl, Nat.le_of_ble_eq_true rfl⟩) hK hP [0, 1] rfl rfl rfl hl.1 rfl (Nat.le_of_ble_eq_true rfl) dL_isLanded_187 ⟨by show _ ≤ 3; omega, by show _ ≤ 13; omega⟩ ?_
          refine lv_istore (lv' := [(9, .int (iI v44)), (8, .int (iI v34)), (7, .int (iI v12)), (6, .int (iI v1)), (5, .ref ao), (0, .ref (a 0)), (1, .ref aa), (2, .ref ah), (3, .ref af), (4, .int (iI p4))]) hx hb dL_isLanded_190 hl (by decide) rfl (fun ls hl => ?_)
          refine xk_iconst hx hb dL_isLanded_192 ?_
          refine lv_istore (lv' := [(10, .int (iI 0)), (9, .int (iI v44)), (8, .int (iI v34)), (7, .int (iI v12)), (6, .int (iI v1)), (5, .ref ao), (0, .ref (a 0)), (1, .ref aa), (2, .ref ah), (3, .ref af), (4, .int (iI p4))]) hx hb dL_isLanded_193 hl (by decide) rfl (fun ls hl => ?_)
          have hL195 : ∀ (k9 : Int) (n301 : Nat) (l10 : Int) (g296 : Int → Int) (g297 : Int → Int) (g298 : Int → Int) (g299 : Int → Int) (y300 : BrS), fL_isLanded_L195 v12 v34 k9 n301 l10 g296 g297 g298 g299 y300 = some res → ∀ (cells slots : Nat), cells + n301 * 0 + 2 ≤ 3 ∧ slots + n301 * 0 + 12 ≤ 13 → ∀ (H : Heap) (locs : List Loc), va_P (dC, dI) vwCl (([[qcC cs aa 64 g296], [qcC cs ah 8 g297], [qcC cs af 64 g298], [qcC cs ao 1 g299]] ++ w4 cs a y300).flatten) H → va_S (va_A (([[qcC cs aa 64 va], [qcC cs ah 8 vh], [qcC cs af 64 vf]] ++ w4 cs a y).flatten) s.heap.size) s.heap H locs → ∀ (ls : Array Slot), lv_has ls 11 [(0, .ref (a 0)), (1, .ref aa), (2, .ref ah), (3, .ref af), (5, .ref ao), (7, .int (iI v12)), (8, .int (iI v34)), (9, .int (iI k9)), (10, .int (iI l10))] → W p l e (headSpec wsL_isLanded ({ frames := 8, cells := 3, slots := 13, locals := 126 } : Room)).room s m ([.ref (a 0), .ref aa, .ref ah, .ref af, .int (iI p4)] : List Value).toArray below meth c H locs cells slots (MQ below (xQi (dC, dI) vwCl (([[qcC cs aa 64 va], [qcC cs ah 8 vh], [qcC cs af 64 vf]] ++ w4 cs a y).flatten) (([[qcC cs aa 64 res.2.1], [qcC cs ah 8 res.2.2.1], [qcC cs af 64 res.2.2.2.1]] ++ w4 cs a res.2.2.2.2).flatten) s.heap.size res.1) ([.ref (a 0), .ref aa, .ref ah, .ref af, .int (iI p4)] : List Value).toArray s 3 13 (va_A (([[qcC cs aa 64 va], [qcC cs ah 8 vh], [qcC cs af 64 vf]] ++ w4 cs a y).flatten) s.heap.size)) (F0 m 195 ls []) := by
            intro k9 n301
            induction n301 with
            | zero => intro l10 g296 g297 g298 g299 y300 hf; have hf : (none : Option (Int × (Int → Int) × (Int → Int) × (Int → Int) × BrS)) = some res := hf; cases hf
            | succ n301 ih195 =>
              intro l10 g296 g297 g298 g299 y300 hf cells slots hcb H locs hP hS ls hl
              rw [fL_isLanded_L195] at hf
              refine lv_iload hx hb dL_isLanded_195 (lv_at hl 8 rfl) ?_
              refine lv_aload_n hx hb dL_isLanded_197 rfl (lv_at hl 2 rfl) ?_
              refine xk_iconst hx hb dL_isLanded_198 ?_
              obtain ⟨v302, ev302, hf⟩ := x_bind hf
              refine xk_iald (f := g297) hx hb hK hP 1 0 ev302 (by decide) rfl rfl dL_isLanded_199 ?_
              obtain ⟨c303a, c303b, c303t, c303f⟩ := x_ltE hf
              refine xk_icmp_ge (tgt := 238) hx hb c303a c303b dL_isLanded_200 (by decide) (fun c303 => ?_) (fun c303 => ?_)
              · have hf := c303t c303
                refine lv_aload_n hx hb dL_isLanded_203 rfl (lv_at hl 1 rfl) ?_
                refine lv_iload hx hb dL_isLanded_204 (lv_at hl 8 rfl) ?_
                obtain ⟨v304, ev304, hf⟩ := x_bind hf
                refine xf_sri (As := [.ref aa, .int (iI l10)]) (rest := []) (wcs := ([[qcC cs aa 64 g296]] : List va_W)) ⟨hx, hb, hml, hown, hts⟩ (kL_where l dC dI cs aa g296 l10 _ ev304) (va_cwS 2 hts gL_isLanded_L_where rfl rfl rfl cdL_where ⟨Nat.le_of_ble_eq_true rfl, Nat.le_of_ble_eq_true rfl⟩) hK hP [0] rfl rfl rfl hl.1 rfl (Nat.le_of_ble_eq_true rfl) dL_isLanded_206 ⟨by show _ ≤ 3; omega, by show _ ≤ 13; omega⟩ ?_
                refine xk_iconst hx hb dL_isLanded_209 ?_
                obtain ⟨c305a, c305b, c305t, c305f⟩ := x_eqE hf
                refine xk_icmp_ne (tgt := 232) hx hb c305a c305b dL_isLanded_210 (by decide) (fun c305 => ?_) (fun c305 => ?_)
                · have hf := c305t c305
                  refine lv_aload_n hx hb dL_isLanded_213 rfl (lv_at hl 1 rfl) ?_
                  refine lv_iload hx hb dL_isLanded_214 (lv_at hl 8 rfl) ?_
                  obtain ⟨v306, ev306, hf⟩ := x_bind hf
                  refine xf_sri (As := [.ref aa, .int (iI l10)]) (rest := []) (wcs := ([[qcC cs aa 64 g296]] : List va_W)) ⟨hx, hb, hml, hown, hts⟩ (kL_run l dC dI cs aa g296 l10 _ ev306) (va_cwS 2 hts gL_isLanded_L_run rfl rfl rfl cdL_run ⟨Nat.le_of_ble_eq_true rfl, Nat.le_of_ble_eq_true rfl⟩) hK hP [0] rfl rfl rfl hl.1 rfl (Nat.le_of_ble_eq_true rfl) dL_isLanded_216 ⟨by show _ ≤ 3; omega, by show _ ≤ 13; omega⟩ ?_
                  refine lv_iload hx hb dL_isLanded_219 (lv_at hl 5 rfl) ?_
                  obtain ⟨c307a, c307b, c307t, c307f⟩ := x_eqE hf
                  refine xk_icmp_ne (tgt := 232) hx hb c307a c307b dL_isLanded_221 (by decide) (fun c307 => ?_) (fun c307 => ?_)
                  · have hf := c307t c307
                    refine lv_aload_n hx hb dL_isLanded_224 rfl (lv_at hl 1 rfl) ?_
                    refine lv_iload hx hb dL_isLanded_225 (lv_at hl 8 rfl) ?_
                    refine xk_iconst hx hb dL_isLanded_227 ?_
                    refine xk_iconst hx hb dL_isLanded_228 ?_
                    obtain ⟨g308, eg308, hf⟩ := x_bind hf
                    refine xf_swv (As := [.ref aa, .int (iI l10), .int (iI 2), .int (iI (-1))]) (rest := []) (wcs := ([[qcC cs aa 64 g296]] : List va_W)) (w1s := ([[qcC cs aa 64 g308]] : List va_W)) ⟨hx, hb, hml, hown, hts⟩ (kL_goes l dC dI cs aa _ g296 l10 2 (-1) _ eg308) (va_cwS 4 hts gL_isLanded_L_goes rfl rfl rfl cdL_goes ⟨Nat.le_of_ble_eq_true rfl, Nat.le_of_ble_eq_true rfl⟩) hK hP (x_addrF hD rfl) hS hA [0] rfl rfl rfl (by decide) rfl rfl hl.1 rfl (Nat.le_of_ble_eq_true rfl) dL_isLanded_229 ⟨by show _ ≤ 3; omega, by show _ ≤ 13; omega⟩ (fun H locs hP hS => ?_)
                    have hP : va_P (dC, dI) vwCl (([[qcC cs aa 64 g308], [qcC cs ah 8 g297], [qcC cs af 64 g298], [qcC cs ao 1 g299]] ++ w4 cs a y300).flatten) H := hP
                    refine xk_iinc (lv' := [(10, .int (iI (l10 + 1))), (0, .ref (a 0)), (1, .ref aa), (2, .ref ah), (3, .ref af), (5, .ref ao), (7, .int (iI v12)), (8, .int (iI v34)), (9, .int (iI k9))]) hx hb dL_isLanded_232 hl (k := 8) rfl (by decide) rfl (fun ls hl => ?_)
                    refine lv_goto (tgt := 195) hx hb dL_isLanded_235 (by decide) ?_
                    exact ih195 (l10 + 1) g308 g297 g298 g299 y300 hf _ _ ⟨by omega, by omega⟩ _ _ hP hS ls (lv_sub hl [1, 2, 3, 4, 5, 6, 7, 8, 0] rfl)
                  · have hf := c307f c307
                    refine xk_iinc (lv' := [(10, .int (iI (l10 + 1))), (0, .ref (a 0)), (1, .ref aa), (2, .ref ah), (3, .ref af), (5, .ref ao), (7, .int (iI v12)), (8, .int (iI v34)), (9, .int (iI k9))]) hx hb dL_isLanded_232 hl (k := 8) rfl (by decide) rfl (fun ls hl => ?_)
                    refine lv_goto (tgt := 195) hx hb dL_isLanded_235 (by decide) ?_
                    exact ih195 (l10 + 1) g296 g297 g298 g299 y300 hf _ _ ⟨by omega, by omega⟩ _ _ hP hS ls (lv_sub hl [1, 2, 3, 4, 5, 6, 7, 8, 0] rfl)
                · have hf := c305f c305
                  refine xk_iinc (lv' := [(10, .int (iI (l10 + 1))), (0, .ref (a 0)), (1, .ref aa), (2, .ref ah), (3, .ref af), (5, .ref ao), (7, .int (iI v12)), (8, .int (iI v34)), (9, .int (iI k9))]) hx hb dL_isLanded_232 hl (k := 8) rfl (by decide) rfl (fun ls hl => ?_)
                  refine lv_goto (tgt := 195) hx hb dL_isLanded_235 (by decide) ?_
                  exact ih195 (l10 + 1) g296 g297 g298 g299 y300 hf _ _ ⟨by omega, by omega⟩ _ _ hP hS ls (lv_sub hl [1, 2, 3, 4, 5, 6, 7, 8, 0] rfl)
              · have hf := c303f c303
                refine lv_aload_n hx hb dL_isLanded_238 rfl (lv_at hl 3 rfl) ?_
                refine lv_iload hx hb dL_isLanded_239 (lv_at hl 5 rfl) ?_
                refine xk_iconst hx hb dL_isLanded_241 ?_
                obtain ⟨g309, eg309, hf⟩ := x_bind hf
                refine xk_iast (f := g298) hx hb hK hP (x_addrF hD rfl) hS 2 0 eg309 (by decide) rfl rfl dL_isLanded_242 (fun H locs hP hS => ?_)
                have hP : va_P (dC, dI) vwCl (([[qcC cs aa 64 g296], [qcC cs ah 8 g297], [qcC cs af 64 g309], [qcC cs ao 1 g299]] ++ w4 cs a y300).flatten) H := hP
                refine lv_aload_n hx hb dL_isLanded_243 rfl (lv_at hl 2 rfl) ?_
                refine xk_iconst hx hb dL_isLanded_244 ?_
                refine lv_aload_n hx hb dL_isLanded_245 rfl (lv_at hl 2 rfl) ?_
                refine xk_iconst hx hb dL_isLanded_246 ?_
                obtain ⟨v310, ev310, hf⟩ := x_bind hf
                refine xk_iald (f := g297) hx hb hK hP 1 0 ev310 (by decide) rfl rfl dL_isLanded_247 ?_
                refine lv_iload hx hb dL_isLanded_248 (lv_at hl 5 rfl) ?_
                obtain ⟨c311a, c311b, c311t, c311f⟩ := x_eqE hf
                refine xk_icmp_ne (tgt := 257) hx hb c311a c311b dL_isLanded_250 (by decide) (fun c311 => ?_) (fun c311 => ?_)
                · have hf := c311t c311
                  refine xk_iconst hx hb dL_isLanded_253 ?_
                  refine lv_goto (tgt := 260) hx hb dL_isLanded_254 (by decide) ?_
                  obtain ⟨g312, eg312, hf⟩ := x_bind hf
                  refine xk_iast (f := g297) hx hb hK hP (x_addrF hD rfl) hS 1 0 eg312 (by decide) rfl rfl dL_isLanded_260 (fun H locs hP hS => ?_)
                  have hP : va_P (dC, dI) vwCl (([[qcC cs aa 64 g296], [qcC cs ah 8 g312], [qcC cs af 64 g309], [qcC cs ao 1 g299]] ++ w4 cs a y300).flatten) H := hP
                  refine lv_aload_n hx hb dL_isLanded_261 rfl (lv_at hl 0 rfl) ?_
                  refine lv_iload hx hb dL_isLanded_262 (lv_at hl 5 rfl) ?_
                  refine lv_aload hx hb dL_isLanded_264 (lv_at hl 4 rfl) ?_
                  obtain ⟨⟨v315, g313, y314⟩, ev315, hf⟩ := x_bind hf
                  refine xf_sw (As := [.ref (a 0), .int (iI v12), .ref ao]) (rest := []) (wcs := [[qcC cs ao 1 g299]] ++ w4 cs a y300) (w1s := [[qcC cs ao 1 g313]] ++ w4 cs a y314) ⟨hx, hb, hml, hown, hts⟩ (kL_land l hlS dC dI cs ao a H.size g299 y300 v12 _ ev315) (vx_cwSW 3 hts gL_isLanded_L_land rfl rfl rfl cdL_land ⟨Nat.le_of_ble_eq_true rfl, Nat.le_of_ble_eq_true rfl⟩) hK hP (x_addrF hD rfl) hS hA hTh hN [3, 4, 5, 6, 7, 8, 9, 10, 11, 12, 13] rfl rfl rfl (by decide) rfl rfl hl.1 rfl (Nat.le_of_ble_eq_true rfl) dL_isLanded_266 ⟨by show _ ≤ 3; omega, by show _ ≤ 13; omega⟩ (fun H locs hP hS => ?_)
                  have hP : va_P (dC, dI) vwCl (([[qcC cs aa 64 g296], [qcC cs ah 8 g312], [qcC cs af 64 g309], [qcC cs ao 1 g313]] ++ w4 cs a y314).flatten) H := hP
                  obtain ⟨c316a, c316b, c316t, c316f⟩ := x_eqE hf
                  refine xk_if_ne (tgt := 300) hx hb c316a dL_isLanded_269 (by decide) (fun c316 => ?_) (fun c316 => ?_)
                  · have hf := c316t c316
                    refine lv_aload hx hb dL_isLanded_272 (lv_at hl 4 rfl) ?_
                    refine xk_iconst hx hb dL_isLanded_274 ?_
                    obtain ⟨v317, ev317, hf⟩ := x_bind hf
                    refine xk_iald (f := g313) hx hb hK hP 3 0 ev317 (by decide) rfl rfl dL_isLanded_275 ?_
                    refine lv_iload hx hb dL_isLanded_276 (lv_at hl 6 rfl) ?_
                    refine lv_iload hx hb dL_isLanded_278 (lv_at hl 7 rfl) ?_
                    refine xk_iadd hx hb dL_isLanded_280 ?_
                    obtain ⟨c318a, c318b, c318t, c318f⟩ := x_eqE hf
                    refine xk_icmp_ne (tgt := 300) hx hb c318a c318b dL_isLanded_281 (by decide) (fun c318 => ?_) (fun c318 => ?_)
                    · have hf := c318t c318
                      refine lv_aload_n hx hb dL_isLanded_284 rfl (lv_at hl 0 rfl) ?_
                      refine lv_iload hx hb dL_isLanded_285 (lv_at hl 5 rfl) ?_
                      refine lv_aload hx hb dL_isLanded_287 (lv_at hl 4 rfl) ?_
                      obtain ⟨⟨v321, g319, y320⟩, ev321, hf⟩ := x_bind hf
                      refine xf_sw (As := [.ref (a 0), .int (iI v12), .ref ao]) (rest := []) (wcs := [[qcC cs ao 1 g313]] ++ w4 cs a y314) (w1s := [[qcC cs ao 1 g319]] ++ w4 cs a y320) ⟨hx, hb, hml, hown, hts⟩ (kL_land l hlS dC dI cs ao a H.size g313 y314 v12 _ ev321) (vx_cwSW 3 hts gL_isLanded_L_land rfl rfl rfl cdL_land ⟨Nat.le_of_ble_eq_true rfl, Nat.le_of_ble_eq_true rfl⟩) hK hP (x_addrF hD rfl) hS hA hTh hN [3, 4, 5, 6, 7, 8, 9, 10, 11, 12, 13] rfl rfl rfl (by decide) rfl rfl hl.1 rfl (Nat.le_of_ble_eq_true rfl) dL_isLanded_289 ⟨by show _ ≤ 3; omega, by show _ ≤ 13; omega⟩ (fun H locs hP hS => ?_)
                      have hP : va_P (dC, dI) vwCl (([[qcC cs aa 64 g296], [qcC cs ah 8 g312], [qcC cs af 64 g309], [qcC cs ao 1 g319]] ++ w4 cs a y320).flatten) H := hP
                      refine xk_iconst hx hb dL_isLanded_292 ?_
                      obtain ⟨c322a, c322b, c322t, c322f⟩ := x_eqE hf
                      refine xk_icmp_ne (tgt := 300) hx hb c322a c322b dL_isLanded_293 (by decide) (fun c322 => ?_) (fun c322 => ?_)
                      · have hf := c322t c322
                        refine xk_iconst hx hb dL_isLanded_296 ?_
                        refine lv_goto (tgt := 301) hx hb dL_isLanded_297 (by decide) ?_
                        obtain rfl := Option.some.inj hf
                        refine W.widen (k := 3) (n := 13) (by omega) (by omega) ?_
                        have hP : va_P (dC, dI) vwCl (([[qcC cs aa 64 g296], [qcC cs ah 8 g312], [qcC cs af 64 g309]] ++ w4 cs a y320).flatten) H := hP.sub (ws' := ([[qcC cs aa 64 g296], [qcC cs ah 8 g312], [qcC cs af 64 g309]] ++ w4 cs a y320).flatten) [0, 1, 2, 4, 5, 6, 7, 8, 9, 10, 11, 12, 13, 14, 15, 16, 17, 18, 19, 20, 21, 22, 23, 24, 25, 26, 27, 28, 29, 30, 31, 32, 33, 34, 35, 36, 37, 38, 39, 40, 41, 42, 43, 44, 45, 46, 47, 48, 49, 50, 51, 52, 53, 54, 55, 56, 57, 58, 59, 60, 61, 62, 63, 64, 65, 66, 67, 68, 69, 70, 71, 72, 73, 74, 75, 76, 77, 78, 79, 80, 81, 82, 83, 84, 85, 86, 87, 88, 89, 90, 91, 92, 93, 94, 95, 96, 97, 98, 99, 100, 101, 102, 103, 104, 105] rfl
                        exact xe_wz hx hb hr (Or.inr rfl) hlocks hS hP dL_isLanded_301
                      · have hf := c322f c322
                        refine xk_iconst hx hb dL_isLanded_300 ?_
                        obtain rfl := Option.some.inj hf
                        refine W.widen (k := 3) (n := 13) (by omega) (by omega) ?_
                        have hP : va_P (dC, dI) vwCl (([[qcC cs aa 64 g296], [qcC cs ah 8 g312], [qcC cs af 64 g309]] ++ w4 cs a y320).flatten) H := hP.sub (ws' := ([[qcC cs aa 64 g296], [qcC cs ah 8 g312], [qcC cs af 64 g309]] ++ w4 cs a y320).flatten) [0, 1, 2, 4, 5, 6, 7, 8, 9, 10, 11, 12, 13, 14, 15, 16, 17, 18, 19, 20, 21, 22, 23, 24, 25, 26, 27, 28, 29, 30, 31, 32, 33, 34, 35, 36, 37, 38, 39, 40, 41, 42, 43, 44, 45, 46, 47, 48, 49, 50, 51, 52, 53, 54, 55, 56, 57, 58, 59, 60, 61, 62, 63, 64, 65, 66, 67, 68, 69, 70, 71, 72, 73, 74, 75, 76, 77, 78, 79, 80, 81, 82, 83, 84, 85, 86, 87, 88, 89, 90, 91, 92, 93, 94, 95, 96, 97, 98, 99, 100, 101, 102, 103, 104, 105] rfl
                        exact xe_wz hx hb hr (Or.inl rfl) hlocks hS hP dL_isLanded_301
                    · have hf := c318f c318
                      refine xk_iconst hx hb dL_isLanded_300 ?_
                      obtain rfl := Option.some.inj hf
                      refine W.widen (k := 3) (n := 13) (by omega) (by omega) ?_
                      have hP : va_P (dC, dI) vwCl (([[qcC cs aa 64 g296], [qcC cs ah 8 g312], [qcC cs af 64 g309]] ++ w4 cs a y314).flatten) H := hP.sub (ws' := ([[qcC cs aa 64 g296], [qcC cs ah 8 g312], [qcC cs af 64 g309]] ++ w4 cs a y314).flatten) [0, 1, 2, 4, 5, 6, 7, 8, 9, 10, 11, 12, 13, 14, 15, 16, 17, 18, 19, 20, 21, 22, 23, 24, 25, 26, 27, 28, 29, 30, 31, 32, 33, 34, 35, 36, 37, 38, 39, 40, 41, 42, 43, 44, 45, 46, 47, 48, 49, 50, 51, 52, 53, 54, 55, 56, 57, 58, 59, 60, 61, 62, 63, 64, 65, 66, 67, 68, 69, 70, 71, 72, 73, 74, 75, 76, 77, 78, 79, 80, 81, 82, 83, 84, 85, 86, 87, 88, 89, 90, 91, 92, 93, 94, 95, 96, 97, 98, 99, 100, 101, 102, 103, 104, 105] rfl
                      exact xe_wz hx hb hr (Or.inl rfl) hlocks hS hP dL_isLanded_301
                  · have hf := c316f c316
                    refine xk_iconst hx hb dL_isLanded_300 ?_
                    obtain rfl := Option.some.inj hf
                    refine W.widen (k := 3) (n := 13) (by omega) (by omega) ?_
                    have hP : va_P (dC, dI) vwCl (([[qcC cs aa 64 g296], [qcC cs ah 8 g312], [qcC cs af 64 g309]] ++ w4 cs a y314).flatten) H := hP.sub (ws' := ([[qcC cs aa 64 g296], [qcC cs ah 8 g312], [qcC cs af 64 g309]] ++ w4 cs a y314).flatten) [0, 1, 2, 4, 5, 6, 7, 8, 9, 10, 11, 12, 13, 14, 15, 16, 17, 18, 19, 20, 21, 22, 23, 24, 25, 26, 27, 28, 29, 30, 31, 32, 33, 34, 35, 36, 37, 38, 39, 40, 41, 42, 43, 44, 45, 46, 47, 48, 49, 50, 51, 52, 53, 54, 55, 56, 57, 58, 59, 60, 61, 62, 63, 64, 65, 66, 67, 68, 69, 70, 71, 72, 73, 74, 75, 76, 77, 78, 79, 80, 81, 82, 83, 84, 85, 86, 87, 88, 89, 90, 91, 92, 93, 94, 95, 96, 97, 98, 99, 100, 101, 102, 103, 104, 105] rfl
                    exact xe_wz hx hb hr (Or.inl rfl) hlocks hS hP dL_isLanded_301
                · have hf := c311f c311
                  refine lv_aload_n hx hb dL_isLanded_257 rfl (lv_at hl 2 rfl) ?_
                  refine xk_iconst hx hb dL_isLanded_258 ?_
                  obtain ⟨v323, ev323, hf⟩ := x_bind hf
                  refine xk_iald (f := g297) hx hb hK hP 1 0 ev323 (by decide) rfl rfl dL_isLanded_259 ?_
                  obtain ⟨g324, eg324, hf⟩ := x_bind hf
                  refine xk_iast (f := g297) hx hb hK hP (x_addrF hD rfl) hS 1 0 eg324 (by decide) rfl rfl dL_isLanded_260 (fun H locs hP hS => ?_)
                  have hP : va_P (dC, dI) vwCl (([[qcC cs aa 64 g296], [qcC cs ah 8 g324], [qcC cs af 64 g309], [qcC cs ao 1 g299]] ++ w4 cs a y300).flatten) H := hP
                  refine lv_aload_n hx hb dL_isLanded_261 rfl (lv_at hl 0 rfl) ?_
                  refine lv_iload hx hb dL_isLanded_262 (lv_at hl 5 rfl) ?_
                  refine lv_aload hx hb dL_isLanded_264 (lv_at hl 4 rfl) ?_
                  obtain ⟨⟨v327, g325, y326⟩, ev327, hf⟩ := x_bind hf
                  refine xf_sw (As := [.ref (a 0), .int (iI v12), .ref ao]) (rest := []) (wcs := [[qcC cs ao 1 g299]] ++ w4 cs a y300) (w1s := [[qcC cs ao 1 g325]] ++ w4 cs a y326) ⟨hx, hb, hml, hown, hts⟩ (kL_land l hlS dC dI cs ao a H.size g299 y300 v12 _ ev327) (vx_cwSW 3 hts gL_isLanded_L_land rfl rfl rfl cdL_land ⟨Nat.le_of_ble_eq_true rfl, Nat.le_of_ble_eq_true rfl⟩) hK hP (x_addrF hD rfl) hS hA hTh hN [3, 4, 5, 6, 7, 8, 9, 10, 11, 12, 13] rfl rfl rfl (by decide) rfl rfl hl.1 rfl (Nat.le_of_ble_eq_true rfl) dL_isLanded_266 ⟨by show _ ≤ 3; omega, by show _ ≤ 13; omega⟩ (fun H locs hP hS => ?_)
                  have hP : va_P (dC, dI) vwCl (([[qcC cs aa 64 g296], [qcC cs ah 8 g324], [qcC cs af 64 g309], [qcC cs ao 1 g325]] ++ w4 cs a y326).flatten) H := hP
                  obtain ⟨c328a, c328b, c328t, c328f⟩ := x_eqE hf
                  refine xk_if_ne (tgt := 300) hx hb c328a dL_isLanded_269 (by decide) (fun c328 => ?_) (fun c328 => ?_)
                  · have hf := c328t c328
                    refine lv_aload hx hb dL_isLanded_272 (lv_at hl 4 rfl) ?_
                    refine xk_iconst hx hb dL_isLanded_274 ?_
                    obtain ⟨v329, ev329, hf⟩ := x_bind hf
                    refine xk_iald (f := g325) hx hb hK hP 3 0 ev329 (by decide) rfl rfl dL_isLanded_275 ?_
                    refine lv_iload hx hb dL_isLanded_276 (lv_at hl 6 rfl) ?_
                    refine lv_iload hx hb dL_isLanded_278 (lv_at hl 7 rfl) ?_
                    refine xk_iadd hx hb dL_isLanded_280 ?_
                    obtain ⟨c330a, c330b, c330t, c330f⟩ := x_eqE hf
                    refine xk_icmp_ne (tgt := 300) hx hb c330a c330b dL_isLanded_281 (by decide) (fun c330 => ?_) (fun c330 => ?_)
                    · have hf := c330t c330
                      refine lv_aload_n hx hb dL_isLanded_284 rfl (lv_at hl 0 rfl) ?_
                      refine lv_iload hx hb dL_isLanded_285 (lv_at hl 5 rfl) ?_
                      refine lv_aload hx hb dL_isLanded_287 (lv_at hl 4 rfl) ?_
                      obtain ⟨⟨v333, g331, y332⟩, ev333, hf⟩ := x_bind hf
                      refine xf_sw (As := [.ref (a 0), .int (iI v12), .ref ao]) (rest := []) (wcs := [[qcC cs ao 1 g325]] ++ w4 cs a y326) (w1s := [[qcC cs ao 1 g331]] ++ w4 cs a y332) ⟨hx, hb, hml, hown, hts⟩ (kL_land l hlS dC dI cs ao a H.size g325 y326 v12 _ ev333) (vx_cwSW 3 hts gL_isLanded_L_land rfl rfl rfl cdL_land ⟨Nat.le_of_ble_eq_true rfl, Nat.le_of_ble_eq_true rfl⟩) hK hP (x_addrF hD rfl) hS hA hTh hN [3, 4, 5, 6, 7, 8, 9, 10, 11, 12, 13] rfl rfl rfl (by decide) rfl rfl hl.1 rfl (Nat.le_of_ble_eq_true rfl) dL_isLanded_289 ⟨by show _ ≤ 3; omega, by show _ ≤ 13; omega⟩ (fun H locs hP hS => ?_)
                      have hP : va_P (dC, dI) vwCl (([[qcC cs aa 64 g296], [qcC cs ah 8 g324], [qcC cs af 64 g309], [qcC cs ao 1 g331]] ++ w4 cs a y332).flatten) H := hP
                      refine xk_iconst hx hb dL_isLanded_292 ?_
                      obtain ⟨c334a, c334b, c334t, c334f⟩ := x_eqE hf
                      refine xk_icmp_ne (tgt := 300) hx hb c334a c334b dL_isLanded_293 (by decide) (fun c334 => ?_) (fun c334 => ?_)
                      · have hf := c334t c334
                        refine xk_iconst hx hb dL_isLanded_296 ?_
                        refine lv_goto (tgt := 301) hx hb dL_isLanded_297 (by decide) ?_
                        obtain rfl := Option.some.inj hf
                        refine W.widen (k := 3) (n := 13) (by omega) (by omega) ?_
                        have hP : va_P (dC, dI) vwCl (([[qcC cs aa 64 g296], [qcC cs ah 8 g324], [qcC cs af 64 g309]] ++ w4 cs a y332).flatten) H := hP.sub (ws' := ([[qcC cs aa 64 g296], [qcC cs ah 8 g324], [qcC cs af 64 g309]] ++ w4 cs a y332).flatten) [0, 1, 2, 4, 5, 6, 7, 8, 9, 10, 11, 12, 13, 14, 15, 16, 17, 18, 19, 20, 21, 22, 23, 24, 25, 26, 27, 28, 29, 30, 31, 32, 33, 34, 35, 36, 37, 38, 39, 40, 41, 42, 43, 44, 45, 46, 47, 48, 49, 50, 51, 52, 53, 54, 55, 56, 57, 58, 59, 60, 61, 62, 63, 64, 65, 66, 67, 68, 69, 70, 71, 72, 73, 74, 75, 76, 77, 78, 79, 80, 81, 82, 83, 84, 85, 86, 87, 88, 89, 90, 91, 92, 93, 94, 95, 96, 97, 98, 99, 100, 101, 102, 103, 104, 105] rfl
                        exact xe_wz hx hb hr (Or.inr rfl) hlocks hS hP dL_isLanded_301
                      · have hf := c334f c334
                        refine xk_iconst hx hb dL_isLanded_300 ?_
                        obtain rfl := Option.some.inj hf
                        refine W.widen (k := 3) (n := 13) (by omega) (by omega) ?_
                        have hP : va_P (dC, dI) vwCl (([[qcC cs aa 64 g296], [qcC cs ah 8 g324], [qcC cs af 64 g309]] ++ w4 cs a y332).flatten) H := hP.sub (ws' := ([[qcC cs aa 64 g296], [qcC cs ah 8 g324], [qcC cs af 64 g309]] ++ w4 cs a y332).flatten) [0, 1, 2, 4, 5, 6, 7, 8, 9, 10, 11, 12, 13, 14, 15, 16, 17, 18, 19, 20, 21, 22, 23, 24, 25, 26, 27, 28, 29, 30, 31, 32, 33, 34, 35, 36, 37, 38, 39, 40, 41, 42, 43, 44, 45, 46, 47, 48, 49, 50, 51, 52, 53, 54, 55, 56, 57, 58, 59, 60, 61, 62, 63, 64, 65, 66, 67, 68, 69, 70, 71, 72, 73, 74, 75, 76, 77, 78, 79, 80, 81, 82, 83, 84, 85, 86, 87, 88, 89, 90, 91, 92, 93, 94, 95, 96, 97, 98, 99, 100, 101, 102, 103, 104, 105] rfl
                        exact xe_wz hx hb hr (Or.inl rfl) hlocks hS hP dL_isLanded_301
                    · have hf := c330f c330
                      refine xk_iconst hx hb dL_isLanded_300 ?_
                      obtain rfl := Option.some.inj hf
                      refine W.widen (k := 3) (n := 13) (by omega) (by omega) ?_
                      have hP : va_P (dC, dI) vwCl (([[qcC cs aa 64 g296], [qcC cs ah 8 g324], [qcC cs af 64 g309]] ++ w4 cs a y326).flatten) H := hP.sub (ws' := ([[qcC cs aa 64 g296], [qcC cs ah 8 g324], [qcC cs af 64 g309]] ++ w4 cs a y326).flatten) [0, 1, 2, 4, 5, 6, 7, 8, 9, 10, 11, 12, 13, 14, 15, 16, 17, 18, 19, 20, 21, 22, 23, 24, 25, 26, 27, 28, 29, 30, 31, 32, 33, 34, 35, 36, 37, 38, 39, 40, 41, 42, 43, 44, 45, 46, 47, 48, 49, 50, 51, 52, 53, 54, 55, 56, 57, 58, 59, 60, 61, 62, 63, 64, 65, 66, 67, 68, 69, 70, 71, 72, 73, 74, 75, 76, 77, 78, 79, 80, 81, 82, 83, 84, 85, 86, 87, 88, 89, 90, 91, 92, 93, 94, 95, 96, 97, 98, 99, 100, 101, 102, 103, 104, 105] rfl
                      exact xe_wz hx hb hr (Or.inl rfl) hlocks hS hP dL_isLanded_301
                  · have hf := c328f c328
                    refine xk_iconst hx hb dL_isLanded_300 ?_
                    obtain rfl := Option.some.inj hf
                    refine W.widen (k := 3) (n := 13) (by omega) (by omega) ?_
                    have hP : va_P (dC, dI) vwCl (([[qcC cs aa 64 g296], [qcC cs ah 8 g324], [qcC cs af 64 g309]] ++ w4 cs a y326).flatten) H := hP.sub (ws' := ([[qcC cs aa 64 g296], [qcC cs ah 8 g324], [qcC cs af 64 g309]] ++ w4 cs a y326).flatten) [0, 1, 2, 4, 5, 6, 7, 8, 9, 10, 11, 12, 13, 14, 15, 16, 17, 18, 19, 20, 21, 22, 23, 24, 25, 26, 27, 28, 29, 30, 31, 32, 33, 34, 35, 36, 37, 38, 39, 40, 41, 42, 43, 44, 45, 46, 47, 48, 49, 50, 51, 52, 53, 54, 55, 56, 57, 58, 59, 60, 61, 62, 63, 64, 65, 66, 67, 68, 69, 70, 71, 72, 73, 74, 75, 76, 77, 78, 79, 80, 81, 82, 83, 84, 85, 86, 87, 88, 89, 90, 91, 92, 93, 94, 95, 96, 97, 98, 99, 100, 101, 102, 103, 104, 105] rfl
                    exact xe_wz hx hb hr (Or.inl rfl) hlocks hS hP dL_isLanded_301
          exact hL195 v44 70 0 va vh vf (fun _ => 0) y hf _ _ ⟨by omega, by omega⟩ _ _ hP hS ls (lv_sub hl [6, 7, 8, 9, 5, 3, 2, 1, 0] rfl)
      · have hf := c35f c35
        refine lv_aload_n hx hb dL_isLanded_182 rfl (lv_at hl 5 rfl) ?_
        refine lv_aload_n hx hb dL_isLanded_183 rfl (lv_at hl 6 rfl) ?_
        refine xk_iconst hx hb dL_isLanded_184 ?_
        refine lv_iload hx hb dL_isLanded_185 (lv_at hl 1 rfl) ?_
        obtain ⟨v45, ev45, hf⟩ := x_bind hf
        refine xf_sri (As := [.ref aa, .ref ah, .int (iI 1), .int (iI v12)]) (rest := []) (wcs := ([[qcC cs aa 64 va], [qcC cs ah 8 vh]] : List va_W)) ⟨hx, hb, hml, hown, hts⟩ (kL_many l dC dI cs aa ah va vh 1 v12 _ ev45) (va_cwS 4 hts gL_isLanded_L_many rfl rfl rfl cdL_many ⟨Nat.le_of_ble_eq_true rfl, Nat.le_of_ble_eq_true rfl⟩) hK hP [0, 1] rfl rfl rfl hl.1 rfl (Nat.le_of_ble_eq_true rfl) dL_isLanded_187 ⟨by show _ ≤ 3; omega, by show _ ≤ 13; omega⟩ ?_
        refine lv_istore (lv' := [(9, .int (iI v45)), (8, .int (iI v34)), (7, .int (iI v12)), (6, .int (iI v1)), (5, .ref ao), (0, .ref (a 0)), (1, .ref aa), (2, .ref ah), (3, .ref af), (4, .int (iI p4))]) hx hb dL_isLanded_190 hl (by decide) rfl (fun ls hl => ?_)
        refine xk_iconst hx hb dL_isLanded_192 ?_
        refine lv_istore (lv' := [(10, .int (iI 0)), (9, .int (iI v45)), (8, .int (iI v34)), (7, .int (iI v12)), (6, .int (iI v1)), (5, .ref ao), (0, .ref (a 0)), (1, .ref aa), (2, .ref ah), (3, .ref af), (4, .int (iI p4))]) hx hb dL_isLanded_193 hl (by decide) rfl (fun ls hl => ?_)
        have hL195 : ∀ (k9 : Int) (n301 : Nat) (l10 : Int) (g296 : Int → Int) (g297 : Int → Int) (g298 : Int → Int) (g299 : Int → Int) (y300 : BrS), fL_isLanded_L195 v12 v34 k9 n301 l10 g296 g297 g298 g299 y300 = some res → ∀ (cells slots : Nat), cells + n301 * 0 + 2 ≤ 3 ∧ slots + n301 * 0 + 12 ≤ 13 → ∀ (H : Heap) (locs : List Loc), va_P (dC, dI) vwCl (([[qcC cs aa 64 g296], [qcC cs ah 8 g297], [qcC cs af 64 g298], [qcC cs ao 1 g299]] ++ w4 cs a y300).flatten) H → va_S (va_A (([[qcC cs aa 64 va], [qcC cs ah 8 vh], [qcC cs af 64 vf]] ++ w4 cs a y).flatten) s.heap.size) s.heap H locs → ∀ (ls : Array Slot), lv_has ls 11 [(0, .ref (a 0)), (1, .ref aa), (2, .ref ah), (3, .ref af), (5, .ref ao), (7, .int (iI v12)), (8, .int (iI v34)), (9, .int (iI k9)), (10, .int (iI l10))] → W p l e (headSpec wsL_isLanded ({ frames := 8, cells := 3, slots := 13, locals := 126 } : Room)).room s m ([.ref (a 0), .ref aa, .ref ah, .ref af, .int (iI p4)] : List Value).toArray below meth c H locs cells slots (MQ below (xQi (dC, dI) vwCl (([[qcC cs aa 64 va], [qcC cs ah 8 vh], [qcC cs af 64 vf]] ++ w4 cs a y).flatten) (([[qcC cs aa 64 res.2.1], [qcC cs ah 8 res.2.2.1], [qcC cs af 64 res.2.2.2.1]] ++ w4 cs a res.2.2.2.2).flatten) s.heap.size res.1) ([.ref (a 0), .ref aa, .ref ah, .ref af, .int (iI p4)] : List Value).toArray s 3 13 (va_A (([[qcC cs aa 64 va], [qcC cs ah 8 vh], [qcC cs af 64 vf]] ++ w4 cs a y).flatten) s.heap.size)) (F0 m 195 ls []) := by
          intro k9 n301
          induction n301 with
          | zero => intro l10 g296 g297 g298 g299 y300 hf; have hf : (none : Option (Int × (Int → Int) × (Int → Int) × (Int → Int) × BrS)) = some res := hf; cases hf
          | succ n301 ih195 =>
            intro l10 g296 g297 g298 g299 y300 hf cells slots hcb H locs hP hS ls hl
            rw [fL_isLanded_L195] at hf
            refine lv_iload hx hb dL_isLanded_195 (lv_at hl 8 rfl) ?_
            refine lv_aload_n hx hb dL_isLanded_197 rfl (lv_at hl 2 rfl) ?_
            refine xk_iconst hx hb dL_isLanded_198 ?_
            obtain ⟨v302, ev302, hf⟩ := x_bind hf
            refine xk_iald (f := g297) hx hb hK hP 1 0 ev302 (by decide) rfl rfl dL_isLanded_199 ?_
            obtain ⟨c303a, c303b, c303t, c303f⟩ := x_ltE hf
            refine xk_icmp_ge (tgt := 238) hx hb c303a c303b dL_isLanded_200 (by decide) (fun c303 => ?_) (fun c303 => ?_)
            · have hf := c303t c303
              refine lv_aload_n hx hb dL_isLanded_203 rfl (lv_at hl 1 rfl) ?_
              refine lv_iload hx hb dL_isLanded_204 (lv_at hl 8 rfl) ?_
              obtain ⟨v304, ev304, hf⟩ := x_bind hf
              refine xf_sri (As := [.ref aa, .int (iI l10)]) (rest := []) (wcs := ([[qcC cs aa 64 g296]] : List va_W)) ⟨hx, hb, hml, hown, hts⟩ (kL_where l dC dI cs aa g296 l10 _ ev304) (va_cwS 2 hts gL_isLanded_L_where rfl rfl rfl cdL_where ⟨Nat.le_of_ble_eq_true rfl, Nat.le_of_ble_eq_true rfl⟩) hK hP [0] rfl rfl rfl hl.1 rfl (Nat.le_of_ble_eq_true rfl) dL_isLanded_206 ⟨by show _ ≤ 3; omega, by show _ ≤ 13; omega⟩ ?_
              refine xk_iconst hx hb dL_isLanded_209 ?_
              obtain ⟨c305a, c305b, c305t, c305f⟩ := x_eqE hf
              refine xk_icmp_ne (tgt := 232) hx hb c305a c305b dL_isLanded_210 (by decide) (fun c305 => ?_) (fun c305 => ?_)
              · have hf := c305t c305
                refine lv_aload_n hx hb dL_isLanded_213 rfl (lv_at hl 1 rfl) ?_
                refine lv_iload hx hb dL_isLanded_214 (lv_at hl 8 rfl) ?_
                obtain ⟨v306, ev306, hf⟩ := x_bind hf
                refine xf_sri (As := [.ref aa, .int (iI l10)]) (rest := []) (wcs := ([[qcC cs aa 64 g296]] : List va_W)) ⟨hx, hb, hml, hown, hts⟩ (kL_run l dC dI cs aa g296 l10 _ ev306) (va_cwS 2 hts gL_isLanded_L_run rfl rfl rfl cdL_run ⟨Nat.le_of_ble_eq_true rfl, Nat.le_of_ble_eq_true rfl⟩) hK hP [0] rfl rfl rfl hl.1 rfl (Nat.le_of_ble_eq_true rfl) dL_isLanded_216 ⟨by show _ ≤ 3; omega, by show _ ≤ 13; omega⟩ ?_
                refine lv_iload hx hb dL_isLanded_219 (lv_at hl 5 rfl) ?_
                obtain ⟨c307a, c307b, c307t, c307f⟩ := x_eqE hf
                refine xk_icmp_ne (tgt := 232) hx hb c307a c307b dL_isLanded_221 (by decide) (fun c307 => ?_) (fun c307 => ?_)
                · have hf := c307t c307
                  refine lv_aload_n hx hb dL_isLanded_224 rfl (lv_at hl 1 rfl) ?_
                  refine lv_iload hx hb dL_isLanded_225 (lv_at hl 8 rfl) ?_
                  refine xk_iconst hx hb dL_isLanded_227 ?_
                  refine xk_iconst hx hb dL_isLanded_228 ?_
                  obtain ⟨g308, eg308, hf⟩ := x_bind hf
                  refine xf_swv (As := [.ref aa, .int (iI l10), .int (iI 2), .int (iI (-1))]) (rest := []) (wcs := ([[qcC cs aa 64 g296]] : List va_W)) (w1s := ([[qcC cs aa 64 g308]] : List va_W)) ⟨hx, hb, hml, hown, hts⟩ (kL_goes l dC dI cs aa _ g296 l10 2 (-1) _ eg308) (va_cwS 4 hts gL_isLanded_L_goes rfl rfl rfl cdL_goes ⟨Nat.le_of_ble_eq_true rfl, Nat.le_of_ble_eq_true rfl⟩) hK hP (x_addrF hD rfl) hS hA [0] rfl rfl rfl (by decide) rfl rfl hl.1 rfl (Nat.le_of_ble_eq_true rfl) dL_isLanded_229 ⟨by show _ ≤ 3; omega, by show _ ≤ 13; omega⟩ (fun H locs hP hS => ?_)
                  have hP : va_P (dC, dI) vwCl (([[qcC cs aa 64 g308], [qcC cs ah 8 g297], [qcC cs af 64 g298], [qcC cs ao 1 g299]] ++ w4 cs a y300).flatten) H := hP
                  refine xk_iinc (lv' := [(10, .int (iI (l10 + 1))), (0, .ref (a 0)), (1, .ref aa), (2, .ref ah), (3, .ref af), (5, .ref ao), (7, .int (iI v12)), (8, .int (iI v34)), (9, .int (iI k9))]) hx hb dL_isLanded_232 hl (k := 8) rfl (by decide) rfl (fun ls hl => ?_)
                  refine lv_goto (tgt := 195) hx hb dL_isLanded_235 (by decide) ?_
                  exact ih195 (l10 + 1) g308 g297 g298 g299 y300 hf _ _ ⟨by omega, by omega⟩ _ _ hP hS ls (lv_sub hl [1, 2, 3, 4, 5, 6, 7, 8, 0] rfl)
                · have hf := c307f c307
                  refine xk_iinc (lv' := [(10, .int (iI (l10 + 1))), (0, .ref (a 0)), (1, .ref aa), (2, .ref ah), (3, .ref af), (5, .ref ao), (7, .int (iI v12)), (8, .int (iI v34)), (9, .int (iI k9))]) hx hb dL_isLanded_232 hl (k := 8) rfl (by decide) rfl (fun ls hl => ?_)
                  refine lv_goto (tgt := 195) hx hb dL_isLanded_235 (by decide) ?_
                  exact ih195 (l10 + 1) g296 g297 g298 g299 y300 hf _ _ ⟨by omega, by omega⟩ _ _ hP hS ls (lv_sub hl [1, 2, 3, 4, 5, 6, 7, 8, 0] rfl)
              · have hf := c305f c305
                refine xk_iinc (lv' := [(10, .int (iI (l10 + 1))), (0, .ref (a 0)), (1, .ref aa), (2, .ref ah), (3, .ref af), (5, .ref ao), (7, .int (iI v12)), (8, .int (iI v34)), (9, .int (iI k9))]) hx hb dL_isLanded_232 hl (k := 8) rfl (by decide) rfl (fun ls hl => ?_)
                refine lv_goto (tgt := 195) hx hb dL_isLanded_235 (by decide) ?_
                exact ih195 (l10 + 1) g296 g297 g298 g299 y300 hf _ _ ⟨by omega, by omega⟩ _ _ hP hS ls (lv_sub hl [1, 2, 3, 4, 5, 6, 7, 8, 0] rfl)
            · have hf := c303f c303
              refine lv_aload_n hx hb dL_isLanded_238 rfl (lv_at hl 3 rfl) ?_
              refine lv_iload hx hb dL_isLanded_239 (lv_at hl 5 rfl) ?_
              refine xk_iconst hx hb dL_isLanded_241 ?_
              obtain ⟨g309, eg309, hf⟩ := x_bind hf
              refine xk_iast (f := g298) hx hb hK hP (x_addrF hD rfl) hS 2 0 eg309 (by decide) rfl rfl dL_isLanded_242 (fun H locs hP hS => ?_)
              have hP : va_P (dC, dI) vwCl (([[qcC cs aa 64 g296], [qcC cs ah 8 g297], [qcC cs af 64 g309], [qcC cs ao 1 g299]] ++ w4 cs a y300).flatten) H := hP
              refine lv_aload_n hx hb dL_isLanded_243 rfl (lv_at hl 2 rfl) ?_
              refine xk_iconst hx hb dL_isLanded_244 ?_
              refine lv_aload_n hx hb dL_isLanded_245 rfl (lv_at hl 2 rfl) ?_
              refine xk_iconst hx hb dL_isLanded_246 ?_
              obtain ⟨v310, ev310, hf⟩ := x_bind hf
              refine xk_iald (f := g297) hx hb hK hP 1 0 ev310 (by decide) rfl rfl dL_isLanded_247 ?_
              refine lv_iload hx hb dL_isLanded_248 (lv_at hl 5 rfl) ?_
              obtain ⟨c311a, c311b, c311t, c311f⟩ := x_eqE hf
              refine xk_icmp_ne (tgt := 257) hx hb c311a c311b dL_isLanded_250 (by decide) (fun c311 => ?_) (fun c311 => ?_)
              · have hf := c311t c311
                refine xk_iconst hx hb dL_isLanded_253 ?_
                refine lv_goto (tgt := 260) hx hb dL_isLanded_254 (by decide) ?_
                obtain ⟨g312, eg312, hf⟩ := x_bind hf
                refine xk_iast (f := g297) hx hb hK hP (x_addrF hD rfl) hS 1 0 eg312 (by decide) rfl rfl dL_isLanded_260 (fun H locs hP hS => ?_)
                have hP : va_P (dC, dI) vwCl (([[qcC cs aa 64 g296], [qcC cs ah 8 g312], [qcC cs af 64 g309], [qcC cs ao 1 g299]] ++ w4 cs a y300).flatten) H := hP
                refine lv_aload_n hx hb dL_isLanded_261 rfl (lv_at hl 0 rfl) ?_
                refine lv_iload hx hb dL_isLanded_262 (lv_at hl 5 rfl) ?_
                refine lv_aload hx hb dL_isLanded_264 (lv_at hl 4 rfl) ?_
                obtain ⟨⟨v315, g313, y314⟩, ev315, hf⟩ := x_bind hf
                refine xf_sw (As := [.ref (a 0), .int (iI v12), .ref ao]) (rest := []) (wcs := [[qcC cs ao 1 g299]] ++ w4 cs a y300) (w1s := [[qcC cs ao 1 g313]] ++ w4 cs a y314) ⟨hx, hb, hml, hown, hts⟩ (kL_land l hlS dC dI cs ao a H.size g299 y300 v12 _ ev315) (vx_cwSW 3 hts gL_isLanded_L_land rfl rfl rfl cdL_land ⟨Nat.le_of_ble_eq_true rfl, Nat.le_of_ble_eq_true rfl⟩) hK hP (x_addrF hD rfl) hS hA hTh hN [3, 4, 5, 6, 7, 8, 9, 10, 11, 12, 13] rfl rfl rfl (by decide) rfl rfl hl.1 rfl (Nat.le_of_ble_eq_true rfl) dL_isLanded_266 ⟨by show _ ≤ 3; omega, by show _ ≤ 13; omega⟩ (fun H locs hP hS => ?_)
                have hP : va_P (dC, dI) vwCl (([[qcC cs aa 64 g296], [qcC cs ah 8 g312], [qcC cs af 64 g309], [qcC cs ao 1 g313]] ++ w4 cs a y314).flatten) H := hP
                obtain ⟨c316a, c316b, c316t, c316f⟩ := x_eqE hf
                refine xk_if_ne (tgt := 300) hx hb c316a dL_isLanded_269 (by decide) (fun c316 => ?_) (fun c316 => ?_)
                · have hf := c316t c316
                  refine lv_aload hx hb dL_isLanded_272 (lv_at hl 4 rfl) ?_
                  refine xk_iconst hx hb dL_isLanded_274 ?_
                  obtain ⟨v317, ev317, hf⟩ := x_bind hf
                  refine xk_iald (f := g313) hx hb hK hP 3 0 ev317 (by decide) rfl rfl dL_isLanded_275 ?_
                  refine lv_iload hx hb dL_isLanded_276 (lv_at hl 6 rfl) ?_
                  refine lv_iload hx hb dL_isLanded_278 (lv_at hl 7 rfl) ?_
                  refine xk_iadd hx hb dL_isLanded_280 ?_
                  obtain ⟨c318a, c318b, c318t, c318f⟩ := x_eqE hf
                  refine xk_icmp_ne (tgt := 300) hx hb c318a c318b dL_isLanded_281 (by decide) (fun c318 => ?_) (fun c318 => ?_)
                  · have hf := c318t c318
                    refine lv_aload_n hx hb dL_isLanded_284 rfl (lv_at hl 0 rfl) ?_
                    refine lv_iload hx hb dL_isLanded_285 (lv_at hl 5 rfl) ?_
                    refine lv_aload hx hb dL_isLanded_287 (lv_at hl 4 rfl) ?_
                    obtain ⟨⟨v321, g319, y320⟩, ev321, hf⟩ := x_bind hf
                    refine xf_sw (As := [.ref (a 0), .int (iI v12), .ref ao]) (rest := []) (wcs := [[qcC cs ao 1 g313]] ++ w4 cs a y314) (w1s := [[qcC cs ao 1 g319]] ++ w4 cs a y320) ⟨hx, hb, hml, hown, hts⟩ (kL_land l hlS dC dI cs ao a H.size g313 y314 v12 _ ev321) (vx_cwSW 3 hts gL_isLanded_L_land rfl rfl rfl cdL_land ⟨Nat.le_of_ble_eq_true rfl, Nat.le_of_ble_eq_true rfl⟩) hK hP (x_addrF hD rfl) hS hA hTh hN [3, 4, 5, 6, 7, 8, 9, 10, 11, 12, 13] rfl rfl rfl (by decide) rfl rfl hl.1 rfl (Nat.le_of_ble_eq_true rfl) dL_isLanded_289 ⟨by show _ ≤ 3; omega, by show _ ≤ 13; omega⟩ (fun H locs hP hS => ?_)
                    have hP : va_P (dC, dI) vwCl (([[qcC cs aa 64 g296], [qcC cs ah 8 g312], [qcC cs af 64 g309], [qcC cs ao 1 g319]] ++ w4 cs a y320).flatten) H := hP
                    refine xk_iconst hx hb dL_isLanded_292 ?_
                    obtain ⟨c322a, c322b, c322t, c322f⟩ := x_eqE hf
                    refine xk_icmp_ne (tgt := 300) hx hb c322a c322b dL_isLanded_293 (by decide) (fun c322 => ?_) (fun c322 => ?_)
                    · have hf := c322t c322
                      refine xk_iconst hx hb dL_isLanded_296 ?_
                      refine lv_goto (tgt := 301) hx hb dL_isLanded_297 (by decide) ?_
                      obtain rfl := Option.some.inj hf
                      refine W.widen (k := 3) (n := 13) (by omega) (by omega) ?_
                      have hP : va_P (dC, dI) vwCl (([[qcC cs aa 64 g296], [qcC cs ah 8 g312], [qcC cs af 64 g309]] ++ w4 cs a y320).flatten) H := hP.sub (ws' := ([[qcC cs aa 64 g296], [qcC cs ah 8 g312], [qcC cs af 64 g309]] ++ w4 cs a y320).flatten) [0, 1, 2, 4, 5, 6, 7, 8, 9, 10, 11, 12, 13, 14, 15, 16, 17, 18, 19, 20, 21, 22, 23, 24, 25, 26, 27, 28, 29, 30, 31, 32, 33, 34, 35, 36, 37, 38, 39, 40, 41, 42, 43, 44, 45, 46, 47, 48, 49, 50, 51, 52, 53, 54, 55, 56, 57, 58, 59, 60, 61, 62, 63, 64, 65, 66, 67, 68, 69, 70, 71, 72, 73, 74, 75, 76, 77, 78, 79, 80, 81, 82, 83, 84, 85, 86, 87, 88, 89, 90, 91, 92, 93, 94, 95, 96, 97, 98, 99, 100, 101, 102, 103, 104, 105] rfl
                      exact xe_wz hx hb hr (Or.inr rfl) hlocks hS hP dL_isLanded_301
                    · have hf := c322f c322
                      refine xk_iconst hx hb dL_isLanded_300 ?_
                      obtain rfl := Option.some.inj hf
                      refine W.widen (k := 3) (n := 13) (by omega) (by omega) ?_
                      have hP : va_P (dC, dI) vwCl (([[qcC cs aa 64 g296], [qcC cs ah 8 g312], [qcC cs af 64 g309]] ++ w4 cs a y320).flatten) H := hP.sub (ws' := ([[qcC cs aa 64 g296], [qcC cs ah 8 g312], [qcC cs af 64 g309]] ++ w4 cs a y320).flatten) [0, 1, 2, 4, 5, 6, 7, 8, 9, 10, 11, 12, 13, 14, 15, 16, 17, 18, 19, 20, 21, 22, 23, 24, 25, 26, 27, 28, 29, 30, 31, 32, 33, 34, 35, 36, 37, 38, 39, 40, 41, 42, 43, 44, 45, 46, 47, 48, 49, 50, 51, 52, 53, 54, 55, 56, 57, 58, 59, 60, 61, 62, 63, 64, 65, 66, 67, 68, 69, 70, 71, 72, 73, 74, 75, 76, 77, 78, 79, 80, 81, 82, 83, 84, 85, 86, 87, 88, 89, 90, 91, 92, 93, 94, 95, 96, 97, 98, 99, 100, 101, 102, 103, 104, 105] rfl
                      exact xe_wz hx hb hr (Or.inl rfl) hlocks hS hP dL_isLanded_301
                  · have hf := c318f c318
                    refine xk_iconst hx hb dL_isLanded_300 ?_
                    obtain rfl := Option.some.inj hf
                    refine W.widen (k := 3) (n := 13) (by omega) (by omega) ?_
                    have hP : va_P (dC, dI) vwCl (([[qcC cs aa 64 g296], [qcC cs ah 8 g312], [qcC cs af 64 g309]] ++ w4 cs a y314).flatten) H := hP.sub (ws' := ([[qcC cs aa 64 g296], [qcC cs ah 8 g312], [qcC cs af 64 g309]] ++ w4 cs a y314).flatten) [0, 1, 2, 4, 5, 6, 7, 8, 9, 10, 11, 12, 13, 14, 15, 16, 17, 18, 19, 20, 21, 22, 23, 24, 25, 26, 27, 28, 29, 30, 31, 32, 33, 34, 35, 36, 37, 38, 39, 40, 41, 42, 43, 44, 45, 46, 47, 48, 49, 50, 51, 52, 53, 54, 55, 56, 57, 58, 59, 60, 61, 62, 63, 64, 65, 66, 67, 68, 69, 70, 71, 72, 73, 74, 75, 76, 77, 78, 79, 80, 81, 82, 83, 84, 85, 86, 87, 88, 89, 90, 91, 92, 93, 94, 95, 96, 97, 98, 99, 100, 101, 102, 103, 104, 105] rfl
                    exact xe_wz hx hb hr (Or.inl rfl) hlocks hS hP dL_isLanded_301
                · have hf := c316f c316
                  refine xk_iconst hx hb dL_isLanded_300 ?_
                  obtain rfl := Option.some.inj hf
                  refine W.widen (k := 3) (n := 13) (by omega) (by omega) ?_
                  have hP : va_P (dC, dI) vwCl (([[qcC cs aa 64 g296], [qcC cs ah 8 g312], [qcC cs af 64 g309]] ++ w4 cs a y314).flatten) H := hP.sub (ws' := ([[qcC cs aa 64 g296], [qcC cs ah 8 g312], [qcC cs af 64 g309]] ++ w4 cs a y314).flatten) [0, 1, 2, 4, 5, 6, 7, 8, 9, 10, 11, 12, 13, 14, 15, 16, 17, 18, 19, 20, 21, 22, 23, 24, 25, 26, 27, 28, 29, 30, 31, 32, 33, 34, 35, 36, 37, 38, 39, 40, 41, 42, 43, 44, 45, 46, 47, 48, 49, 50, 51, 52, 53, 54, 55, 56, 57, 58, 59, 60, 61, 62, 63, 64, 65, 66, 67, 68, 69, 70, 71, 72, 73, 74, 75, 76, 77, 78, 79, 80, 81, 82, 83, 84, 85, 86, 87, 88, 89, 90, 91, 92, 93, 94, 95, 96, 97, 98, 99, 100, 101, 102, 103, 104, 105] rfl
                  exact xe_wz hx hb hr (Or.inl rfl) hlocks hS hP dL_isLanded_301
              · have hf := c311f c311
                refine lv_aload_n hx hb dL_isLanded_257 rfl (lv_at hl 2 rfl) ?_
                refine xk_iconst hx hb dL_isLanded_258 ?_
                obtain ⟨v323, ev323, hf⟩ := x_bind hf
                refine xk_iald (f := g297) hx hb hK hP 1 0 ev323 (by decide) rfl rfl dL_isLanded_259 ?_
                obtain ⟨g324, eg324, hf⟩ := x_bind hf
                refine xk_iast (f := g297) hx hb hK hP (x_addrF hD rfl) hS 1 0 eg324 (by decide) rfl rfl dL_isLanded_260 (fun H locs hP hS => ?_)
                have hP : va_P (dC, dI) vwCl (([[qcC cs aa 64 g296], [qcC cs ah 8 g324], [qcC cs af 64 g309], [qcC cs ao 1 g299]] ++ w4 cs a y300).flatten) H := hP
                refine lv_aload_n hx hb dL_isLanded_261 rfl (lv_at hl 0 rfl) ?_
                refine lv_iload hx hb dL_isLanded_262 (lv_at hl 5 rfl) ?_
                refine lv_aload hx hb dL_isLanded_264 (lv_at hl 4 rfl) ?_
                obtain ⟨⟨v327, g325, y326⟩, ev327, hf⟩ := x_bind hf
                refine xf_sw (As := [.ref (a 0), .int (iI v12), .ref ao]) (rest := []) (wcs := [[qcC cs ao 1 g299]] ++ w4 cs a y300) (w1s := [[qcC cs ao 1 g325]] ++ w4 cs a y326) ⟨hx, hb, hml, hown, hts⟩ (kL_land l hlS dC dI cs ao a H.size g299 y300 v12 _ ev327) (vx_cwSW 3 hts gL_isLanded_L_land rfl rfl rfl cdL_land ⟨Nat.le_of_ble_eq_true rfl, Nat.le_of_ble_eq_true rfl⟩) hK hP (x_addrF hD rfl) hS hA hTh hN [3, 4, 5, 6, 7, 8, 9, 10, 11, 12, 13] rfl rfl rfl (by decide) rfl rfl hl.1 rfl (Nat.le_of_ble_eq_true rfl) dL_isLanded_266 ⟨by show _ ≤ 3; omega, by show _ ≤ 13; omega⟩ (fun H locs hP hS => ?_)
                have hP : va_P (dC, dI) vwCl (([[qcC cs aa 64 g296], [qcC cs ah 8 g324], [qcC cs af 64 g309], [qcC cs ao 1 g325]] ++ w4 cs a y326).flatten) H := hP
                obtain ⟨c328a, c328b, c328t, c328f⟩ := x_eqE hf
                refine xk_if_ne (tgt := 300) hx hb c328a dL_isLanded_269 (by decide) (fun c328 => ?_) (fun c328 => ?_)
                · have hf := c328t c328
                  refine lv_aload hx hb dL_isLanded_272 (lv_at hl 4 rfl) ?_
                  refine xk_iconst hx hb dL_isLanded_274 ?_
                  obtain ⟨v329, ev329, hf⟩ := x_bind hf
                  refine xk_iald (f := g325) hx hb hK hP 3 0 ev329 (by decide) rfl rfl dL_isLanded_275 ?_
                  refine lv_iload hx hb dL_isLanded_276 (lv_at hl 6 rfl) ?_
                  refine lv_iload hx hb dL_isLanded_278 (lv_at hl 7 rfl) ?_
                  refine xk_iadd hx hb dL_isLanded_280 ?_
                  obtain ⟨c330a, c330b, c330t, c330f⟩ := x_eqE hf
                  refine xk_icmp_ne (tgt := 300) hx hb c330a c330b dL_isLanded_281 (by decide) (fun c330 => ?_) (fun c330 => ?_)
                  · have hf := c330t c330
                    refine lv_aload_n hx hb dL_isLanded_284 rfl (lv_at hl 0 rfl) ?_
                    refine lv_iload hx hb dL_isLanded_285 (lv_at hl 5 rfl) ?_
                    refine lv_aload hx hb dL_isLanded_287 (lv_at hl 4 rfl) ?_
                    obtain ⟨⟨v333, g331, y332⟩, ev333, hf⟩ := x_bind hf
                    refine xf_sw (As := [.ref (a 0), .int (iI v12), .ref ao]) (rest := []) (wcs := [[qcC cs ao 1 g325]] ++ w4 cs a y326) (w1s := [[qcC cs ao 1 g331]] ++ w4 cs a y332) ⟨hx, hb, hml, hown, hts⟩ (kL_land l hlS dC dI cs ao a H.size g325 y326 v12 _ ev333) (vx_cwSW 3 hts gL_isLanded_L_land rfl rfl rfl cdL_land ⟨Nat.le_of_ble_eq_true rfl, Nat.le_of_ble_eq_true rfl⟩) hK hP (x_addrF hD rfl) hS hA hTh hN [3, 4, 5, 6, 7, 8, 9, 10, 11, 12, 13] rfl rfl rfl (by decide) rfl rfl hl.1 rfl (Nat.le_of_ble_eq_true rfl) dL_isLanded_289 ⟨by show _ ≤ 3; omega, by show _ ≤ 13; omega⟩ (fun H locs hP hS => ?_)
                    have hP : va_P (dC, dI) vwCl (([[qcC cs aa 64 g296], [qcC cs ah 8 g324], [qcC cs af 64 g309], [qcC cs ao 1 g331]] ++ w4 cs a y332).flatten) H := hP
                    refine xk_iconst hx hb dL_isLanded_292 ?_
                    obtain ⟨c334a, c334b, c334t, c334f⟩ := x_eqE hf
                    refine xk_icmp_ne (tgt := 300) hx hb c334a c334b dL_isLanded_293 (by decide) (fun c334 => ?_) (fun c334 => ?_)
                    · have hf := c334t c334
                      refine xk_iconst hx hb dL_isLanded_296 ?_
                      refine lv_goto (tgt := 301) hx hb dL_isLanded_297 (by decide) ?_
                      obtain rfl := Option.some.inj hf
                      refine W.widen (k := 3) (n := 13) (by omega) (by omega) ?_
                      have hP : va_P (dC, dI) vwCl (([[qcC cs aa 64 g296], [qcC cs ah 8 g324], [qcC cs af 64 g309]] ++ w4 cs a y332).flatten) H := hP.sub (ws' := ([[qcC cs aa 64 g296], [qcC cs ah 8 g324], [qcC cs af 64 g309]] ++ w4 cs a y332).flatten) [0, 1, 2, 4, 5, 6, 7, 8, 9, 10, 11, 12, 13, 14, 15, 16, 17, 18, 19, 20, 21, 22, 23, 24, 25, 26, 27, 28, 29, 30, 31, 32, 33, 34, 35, 36, 37, 38, 39, 40, 41, 42, 43, 44, 45, 46, 47, 48, 49, 50, 51, 52, 53, 54, 55, 56, 57, 58, 59, 60, 61, 62, 63, 64, 65, 66, 67, 68, 69, 70, 71, 72, 73, 74, 75, 76, 77, 78, 79, 80, 81, 82, 83, 84, 85, 86, 87, 88, 89, 90, 91, 92, 93, 94, 95, 96, 97, 98, 99, 100, 101, 102, 103, 104, 105] rfl
                      exact xe_wz hx hb hr (Or.inr rfl) hlocks hS hP dL_isLanded_301
                    · have hf := c334f c334
                      refine xk_iconst hx hb dL_isLanded_300 ?_
                      obtain rfl := Option.some.inj hf
                      refine W.widen (k := 3) (n := 13) (by omega) (by omega) ?_
                      have hP : va_P (dC, dI) vwCl (([[qcC cs aa 64 g296], [qcC cs ah 8 g324], [qcC cs af 64 g309]] ++ w4 cs a y332).flatten) H := hP.sub (ws' := ([[qcC cs aa 64 g296], [qcC cs ah 8 g324], [qcC cs af 64 g309]] ++ w4 cs a y332).flatten) [0, 1, 2, 4, 5, 6, 7, 8, 9, 10, 11, 12, 13, 14, 15, 16, 17, 18, 19, 20, 21, 22, 23, 24, 25, 26, 27, 28, 29, 30, 31, 32, 33, 34, 35, 36, 37, 38, 39, 40, 41, 42, 43, 44, 45, 46, 47, 48, 49, 50, 51, 52, 53, 54, 55, 56, 57, 58, 59, 60, 61, 62, 63, 64, 65, 66, 67, 68, 69, 70, 71, 72, 73, 74, 75, 76, 77, 78, 79, 80, 81, 82, 83, 84, 85, 86, 87, 88, 89, 90, 91, 92, 93, 94, 95, 96, 97, 98, 99, 100, 101, 102, 103, 104, 105] rfl
                      exact xe_wz hx hb hr (Or.inl rfl) hlocks hS hP dL_isLanded_301
                  · have hf := c330f c330
                    refine xk_iconst hx hb dL_isLanded_300 ?_
                    obtain rfl := Option.some.inj hf
                    refine W.widen (k := 3) (n := 13) (by omega) (by omega) ?_
                    have hP : va_P (dC, dI) vwCl (([[qcC cs aa 64 g296], [qcC cs ah 8 g324], [qcC cs af 64 g309]] ++ w4 cs a y326).flatten) H := hP.sub (ws' := ([[qcC cs aa 64 g296], [qcC cs ah 8 g324], [qcC cs af 64 g309]] ++ w4 cs a y326).flatten) [0, 1, 2, 4, 5, 6, 7, 8, 9, 10, 11, 12, 13, 14, 15, 16, 17, 18, 19, 20, 21, 22, 23, 24, 25, 26, 27, 28, 29, 30, 31, 32, 33, 34, 35, 36, 37, 38, 39, 40, 41, 42, 43, 44, 45, 46, 47, 48, 49, 50, 51, 52, 53, 54, 55, 56, 57, 58, 59, 60, 61, 62, 63, 64, 65, 66, 67, 68, 69, 70, 71, 72, 73, 74, 75, 76, 77, 78, 79, 80, 81, 82, 83, 84, 85, 86, 87, 88, 89, 90, 91, 92, 93, 94, 95, 96, 97, 98, 99, 100, 101, 102, 103, 104, 105] rfl
                    exact xe_wz hx hb hr (Or.inl rfl) hlocks hS hP dL_isLanded_301
                · have hf := c328f c328
                  refine xk_iconst hx hb dL_isLanded_300 ?_
                  obtain rfl := Option.some.inj hf
                  refine W.widen (k := 3) (n := 13) (by omega) (by omega) ?_
                  have hP : va_P (dC, dI) vwCl (([[qcC cs aa 64 g296], [qcC cs ah 8 g324], [qcC cs af 64 g309]] ++ w4 cs a y326).flatten) H := hP.sub (ws' := ([[qcC cs aa 64 g296], [qcC cs ah 8 g324], [qcC cs af 64 g309]] ++ w4 cs a y326).flatten) [0, 1, 2, 4, 5, 6, 7, 8, 9, 10, 11, 12, 13, 14, 15, 16, 17, 18, 19, 20, 21, 22, 23, 24, 25, 26, 27, 28, 29, 30, 31, 32, 33, 34, 35, 36, 37, 38, 39, 40, 41, 42, 43, 44, 45, 46, 47, 48, 49, 50, 51, 52, 53, 54, 55, 56, 57, 58, 59, 60, 61, 62, 63, 64, 65, 66, 67, 68, 69, 70, 71, 72, 73, 74, 75, 76, 77, 78, 79, 80, 81, 82, 83, 84, 85, 86, 87, 88, 89, 90, 91, 92, 93, 94, 95, 96, 97, 98, 99, 100, 101, 102, 103, 104, 105] rfl
                  exact xe_wz hx hb hr (Or.inl rfl) hlocks hS hP dL_isLanded_301
        exact hL195 v45 70 0 va vh vf (fun _ => 0) y hf _ _ ⟨by omega, by omega⟩ _ _ hP hS ls (lv_sub hl [6, 7, 8, 9, 5, 3, 2, 1, 0] rfl)
theorem cdL_isLanded : yL_isLanded.cls ≠ "java/lang/invoke/MethodHandle" ∧ yL_isLanded.cls ≠ "java/lang/invoke/VarHandle" ∧ (parseMethodDescriptor yL_isLanded.desc).map (fun d => d.parameters.length) = some 5 := by decide +kernel

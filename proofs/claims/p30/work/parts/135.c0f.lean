set_option maxHeartbeats 4000000 in
set_option maxRecDepth 100000 in
theorem c0_number (l : Launch) (dC : Nat → ClassId) (dI : Nat → Nat → Nat) (cs : Nat → ClassId) (a : Nat → Nat) (b : BoatS) (p0 : Int) (res : Int) (hf : f0_number b p0 = some res) : Met l yX0_number wsX0_number ({ frames := 2, cells := 0, slots := 0, locals := 44 } : Room) (va_Pc [.ref (a 0), .int (iI p0)] (xPR (dC, dI) vwCl (w0 cs a b) (xT cs))) (vp_Si (fun r => r = iI res)) 0 0 (fun _ => False) := by
  refine Met.ofW (cc := cX0_number) (maxL := 2) (ret := (some .int)) (by decide) rfl ?_
  intro p e s m args below meth c s₁ B hml hv
  obtain ⟨rfl, hP, hK⟩ := hv
  have hx := B.exec
  have hb := B.bytes
  have hr := B.returns
  have hts := atoms_spec (ws := wsX0_number) B.pre
  have hown : s.vm.findClass RX0 = some m.cls := findClass_of_methodNamed B.named
  have hlocks := B.notSynchronized
  have hin0 : ∀ w ∈ wsX00, w ∈ wsX0_number := by decide +kernel
  have hl := lv_entry [.ref (a 0), .int (iI p0)] (n := 2) (Nat.le_of_ble_eq_true rfl)
  rw [lg_entry_eq]
  generalize (lg_sl [.ref (a 0), .int (iI p0)] ++ List.replicate (2 - (lg_sl [.ref (a 0), .int (iI p0)]).length) Slot.unset).toArray = ls at hl ⊢
  have hl : lv_has ls 2 [(0, .ref (a 0)), (1, .int (iI p0))] := hl
  unfold f0_number at hf
  refine lv_iload_n hx hb dX0_number_0 rfl (lv_at hl 1 rfl) ?_
  obtain ⟨c1a, c1b, c1t, c1f⟩ := x_eqE hf
  by_cases c1 : p0 = 0
  · have hf := c1t c1
    refine xk_tabIn (tgt := 60) hx hb c1a c1 dX0_number_1 (by decide) rfl (by decide) ?_
    refine lv_aload_n hx hb dX0_number_60 rfl (lv_at hl 0 rfl) ?_
    refine va_get (D := (dC, dI)) (ci := 0) (v := .int (iI (g0_room b))) (C := RX0) (T := TX0) (N := 14) hx hb hts hin0 hown hK hP 0 rfl rfl 0 (by decide) (hts (.fieldLink RX0 9 "BoatRuns$Boat" "room" "I") (by decide +kernel)) (fun _ h9 => h9) rfl dX0_number_61 ?_
    obtain rfl := Option.some.inj hf
    exact xe_ri hx hb hr hlocks dX0_number_64 rfl
  · have hf := c1f c1
    obtain ⟨c2a, c2b, c2t, c2f⟩ := x_eqE hf
    by_cases c2 : p0 = 1
    · have hf := c2t c2
      refine xk_tabIn (tgt := 65) hx hb c2a c2 dX0_number_1 (by decide) rfl (by decide) ?_
      refine lv_aload_n hx hb dX0_number_65 rfl (lv_at hl 0 rfl) ?_
      refine xk_iconst hx hb dX0_number_66 ?_
      obtain ⟨v3, ev3, hf⟩ := x_bind hf
      refine xc_ri (As := [.int (iI (-1))]) (rest := []) ⟨hx, hb, hml, hown, hts⟩ (c0_countAt l dC dI cs a b (-1)  _ ev3) (cwV 1 hts gX0_number_X0_countAt rfl rfl rfl cdX0_countAt ⟨Nat.le_of_ble_eq_true rfl, Nat.le_of_ble_eq_true rfl⟩) hK hP [0, 1, 2, 3, 4, 5, 6, 7, 8, 9, 10, 11, 12, 13, 14] rfl 0 rfl rfl rfl hl.1 rfl (Nat.le_of_ble_eq_true rfl) dX0_number_67 ⟨Nat.zero_le _, Nat.zero_le _⟩ ?_
      obtain rfl := Option.some.inj hf
      exact xe_ri hx hb hr hlocks dX0_number_70 rfl
    · have hf := c2f c2
      obtain ⟨c4a, c4b, c4t, c4f⟩ := x_eqE hf
      by_cases c4 : p0 = 2
      · have hf := c4t c4
        refine xk_tabIn (tgt := 71) hx hb c4a c4 dX0_number_1 (by decide) rfl (by decide) ?_
        refine lv_aload_n hx hb dX0_number_71 rfl (lv_at hl 0 rfl) ?_
        refine va_get (D := (dC, dI)) (ci := 0) (v := .ref (a 1)) (C := RX0) (T := TX0) (N := 14) hx hb hts hin0 hown hK hP 0 rfl rfl 1 (by decide) (hts (.fieldLink RX0 23 "BoatRuns$Boat" "keys" "LBoatRuns$Row;") (by decide +kernel)) (fun _ h9 => h9) rfl dX0_number_72 ?_
        obtain ⟨v5, ev5, hf⟩ := x_bind hf
        refine xc_ri (As := []) (rest := []) ⟨hx, hb, hml, hown, hts⟩ (c2_size l dC dI cs (a 1) (a 8) 120 (g0_keys b) (by decide) _ ev5) (cwV 0 hts gX0_number_X2_size rfl rfl rfl cdX2_size ⟨Nat.le_of_ble_eq_true rfl, Nat.le_of_ble_eq_true rfl⟩) hK hP [1, 8] rfl 1 rfl rfl rfl hl.1 rfl (Nat.le_of_ble_eq_true rfl) dX0_number_75 ⟨Nat.zero_le _, Nat.zero_le _⟩ ?_
        obtain rfl := Option.some.inj hf
        exact xe_ri hx hb hr hlocks dX0_number_78 rfl
      · have hf := c4f c4
        obtain ⟨c6a, c6b, c6t, c6f⟩ := x_eqE hf
        by_cases c6 : p0 = 3
        · have hf := c6t c6
          refine xk_tabIn (tgt := 79) hx hb c6a c6 dX0_number_1 (by decide) rfl (by decide) ?_
          refine lv_aload_n hx hb dX0_number_79 rfl (lv_at hl 0 rfl) ?_
          refine va_get (D := (dC, dI)) (ci := 0) (v := .ref (a 5)) (C := RX0) (T := TX0) (N := 14) hx hb hts hin0 hown hK hP 0 rfl rfl 5 (by decide) (hts (.fieldLink RX0 36 "BoatRuns$Boat" "floats" "LBoatRuns$Row;") (by decide +kernel)) (fun _ h9 => h9) rfl dX0_number_80 ?_
          obtain ⟨v7, ev7, hf⟩ := x_bind hf
          refine xc_ri (As := []) (rest := []) ⟨hx, hb, hml, hown, hts⟩ (c2_size l dC dI cs (a 5) (a 12) 120 (g0_flts b) (by decide) _ ev7) (cwV 0 hts gX0_number_X2_size rfl rfl rfl cdX2_size ⟨Nat.le_of_ble_eq_true rfl, Nat.le_of_ble_eq_true rfl⟩) hK hP [5, 12] rfl 5 rfl rfl rfl hl.1 rfl (Nat.le_of_ble_eq_true rfl) dX0_number_83 ⟨Nat.zero_le _, Nat.zero_le _⟩ ?_
          obtain rfl := Option.some.inj hf
          exact xe_ri hx hb hr hlocks dX0_number_86 rfl
        · have hf := c6f c6
          obtain ⟨c8a, c8b, c8t, c8f⟩ := x_eqE hf
          by_cases c8 : p0 = 4
          · have hf := c8t c8
            refine xk_tabIn (tgt := 87) hx hb c8a c8 dX0_number_1 (by decide) rfl (by decide) ?_
            refine lv_aload_n hx hb dX0_number_87 rfl (lv_at hl 0 rfl) ?_
            refine va_get (D := (dC, dI)) (ci := 0) (v := .ref (a 1)) (C := RX0) (T := TX0) (N := 14) hx hb hts hin0 hown hK hP 0 rfl rfl 1 (by decide) (hts (.fieldLink RX0 23 "BoatRuns$Boat" "keys" "LBoatRuns$Row;") (by decide +kernel)) (fun _ h9 => h9) rfl dX0_number_88 ?_
            obtain ⟨v9, ev9, hf⟩ := x_bind hf
            refine xc_ri (As := []) (rest := []) ⟨hx, hb, hml, hown, hts⟩ (c2_size l dC dI cs (a 1) (a 8) 120 (g0_keys b) (by decide) _ ev9) (cwV 0 hts gX0_number_X2_size rfl rfl rfl cdX2_size ⟨Nat.le_of_ble_eq_true rfl, Nat.le_of_ble_eq_true rfl⟩) hK hP [1, 8] rfl 1 rfl rfl rfl hl.1 rfl (Nat.le_of_ble_eq_true rfl) dX0_number_91 ⟨Nat.zero_le _, Nat.zero_le _⟩ ?_
            refine lv_aload_n hx hb dX0_number_94 rfl (lv_at hl 0 rfl) ?_
            refine xk_iconst hx hb dX0_number_95 ?_
            obtain ⟨v10, ev10, hf⟩ := x_bind hf
            refine xc_ri (As := [.int (iI (-1))]) (rest := [.int (iI v9)]) ⟨hx, hb, hml, hown, hts⟩ (c0_countAt l dC dI cs a b (-1)  _ ev10) (cwV 1 hts gX0_number_X0_countAt rfl rfl rfl cdX0_countAt ⟨Nat.le_of_ble_eq_true rfl, Nat.le_of_ble_eq_true rfl⟩) hK hP [0, 1, 2, 3, 4, 5, 6, 7, 8, 9, 10, 11, 12, 13, 14] rfl 0 rfl rfl rfl hl.1 rfl (Nat.le_of_ble_eq_true rfl) dX0_number_96 ⟨Nat.zero_le _, Nat.zero_le _⟩ ?_
            refine xk_isub hx hb dX0_number_99 ?_
            refine lv_aload_n hx hb dX0_number_100 rfl (lv_at hl 0 rfl) ?_
            refine xk_bipush hx hb dX0_number_101 (by decide) ?_
            obtain ⟨v11, ev11, hf⟩ := x_bind hf
            refine xc_ri (As := [.int (iI (-2))]) (rest := [.int (iI (v9 - v10))]) ⟨hx, hb, hml, hown, hts⟩ (c0_countAt l dC dI cs a b (-2)  _ ev11) (cwV 1 hts gX0_number_X0_countAt rfl rfl rfl cdX0_countAt ⟨Nat.le_of_ble_eq_true rfl, Nat.le_of_ble_eq_true rfl⟩) hK hP [0, 1, 2, 3, 4, 5, 6, 7, 8, 9, 10, 11, 12, 13, 14] rfl 0 rfl rfl rfl hl.1 rfl (Nat.le_of_ble_eq_true rfl) dX0_number_103 ⟨Nat.zero_le _, Nat.zero_le _⟩ ?_
            refine xk_isub hx hb dX0_number_106 ?_
            obtain rfl := Option.some.inj hf
            exact xe_ri hx hb hr hlocks dX0_number_107 rfl
          · have hf := c8f c8
            obtain ⟨c12a, c12b, c12t, c12f⟩ := x_eqE hf
            by_cases c12 : p0 = 5
            · have hf := c12t c12
              refine xk_tabIn (tgt := 108) hx hb c12a c12 dX0_number_1 (by decide) rfl (by decide) ?_
              refine lv_aload_n hx hb dX0_number_108 rfl (lv_at hl 0 rfl) ?_
              refine xk_bipush hx hb dX0_number_109 (by decide) ?_
              obtain ⟨v13, ev13, hf⟩ := x_bind hf
              refine xc_ri (As := [.int (iI (-2))]) (rest := []) ⟨hx, hb, hml, hown, hts⟩ (c0_countAt l dC dI cs a b (-2)  _ ev13) (cwV 1 hts gX0_number_X0_countAt rfl rfl rfl cdX0_countAt ⟨Nat.le_of_ble_eq_true rfl, Nat.le_of_ble_eq_true rfl⟩) hK hP [0, 1, 2, 3, 4, 5, 6, 7, 8, 9, 10, 11, 12, 13, 14] rfl 0 rfl rfl rfl hl.1 rfl (Nat.le_of_ble_eq_true rfl) dX0_number_111 ⟨Nat.zero_le _, Nat.zero_le _⟩ ?_
              obtain rfl := Option.some.inj hf
              exact xe_ri hx hb hr hlocks dX0_number_114 rfl
            · have hf := c12f c12
              obtain ⟨c14a, c14b, c14t, c14f⟩ := x_eqE hf
              by_cases c14 : p0 = 6
              · have hf := c14t c14
                refine xk_tabIn (tgt := 115) hx hb c14a c14 dX0_number_1 (by decide) rfl (by decide) ?_
                refine lv_aload_n hx hb dX0_number_115 rfl (lv_at hl 0 rfl) ?_
                refine va_get (D := (dC, dI)) (ci := 0) (v := .int (iI (g0_cst b))) (C := RX0) (T := TX0) (N := 14) hx hb hts hin0 hown hK hP 0 rfl rfl 10 (by decide) (hts (.fieldLink RX0 51 "BoatRuns$Boat" "costs" "I") (by decide +kernel)) (fun _ h9 => h9) rfl dX0_number_116 ?_
                obtain rfl := Option.some.inj hf
                exact xe_ri hx hb hr hlocks dX0_number_119 rfl
              · have hf := c14f c14
                obtain ⟨c15a, c15b, c15t, c15f⟩ := x_eqE hf
                by_cases c15 : p0 = 7
                · have hf := c15t c15
                  refine xk_tabIn (tgt := 120) hx hb c15a c15 dX0_number_1 (by decide) rfl (by decide) ?_
                  refine lv_aload_n hx hb dX0_number_120 rfl (lv_at hl 0 rfl) ?_
                  refine va_get (D := (dC, dI)) (ci := 0) (v := .int (iI (g0_mrg b))) (C := RX0) (T := TX0) (N := 14) hx hb hts hin0 hown hK hP 0 rfl rfl 11 (by decide) (hts (.fieldLink RX0 54 "BoatRuns$Boat" "merges" "I") (by decide +kernel)) (fun _ h9 => h9) rfl dX0_number_121 ?_
                  obtain rfl := Option.some.inj hf
                  exact xe_ri hx hb hr hlocks dX0_number_124 rfl
                · have hf := c15f c15
                  obtain ⟨c16a, c16b, c16t, c16f⟩ := x_eqE hf
                  by_cases c16 : p0 = 8
                  · have hf := c16t c16
                    refine xk_tabIn (tgt := 125) hx hb c16a c16 dX0_number_1 (by decide) rfl (by decide) ?_
                    refine lv_aload_n hx hb dX0_number_125 rfl (lv_at hl 0 rfl) ?_
                    refine va_get (D := (dC, dI)) (ci := 0) (v := .int (iI (g0_stm b))) (C := RX0) (T := TX0) (N := 14) hx hb hts hin0 hown hK hP 0 rfl rfl 12 (by decide) (hts (.fieldLink RX0 57 "BoatRuns$Boat" "storms" "I") (by decide +kernel)) (fun _ h9 => h9) rfl dX0_number_126 ?_
                    obtain rfl := Option.some.inj hf
                    exact xe_ri hx hb hr hlocks dX0_number_129 rfl
                  · have hf := c16f c16
                    obtain ⟨c17a, c17b, c17t, c17f⟩ := x_eqE hf
                    by_cases c17 : p0 = 9
                    · have hf := c17t c17
                      refine xk_tabIn (tgt := 130) hx hb c17a c17 dX0_number_1 (by decide) rfl (by decide) ?_
                      refine lv_aload_n hx hb dX0_number_130 rfl (lv_at hl 0 rfl) ?_
                      refine va_get (D := (dC, dI)) (ci := 0) (v := .int (iI (g0_brk b))) (C := RX0) (T := TX0) (N := 14) hx hb hts hin0 hown hK hP 0 rfl rfl 13 (by decide) (hts (.fieldLink RX0 60 "BoatRuns$Boat" "broken" "I") (by decide +kernel)) (fun _ h9 => h9) rfl dX0_number_131 ?_
                      obtain rfl := Option.some.inj hf
                      exact xe_ri hx hb hr hlocks dX0_number_134 rfl
                    · have hf := c17f c17
                      obtain ⟨c18a, c18b, c18t, c18f⟩ := x_eqE hf
                      by_cases c18 : p0 = 10
                      · have hf := c18t c18
                        refine xk_tabIn (tgt := 135) hx hb c18a c18 dX0_number_1 (by decide) rfl (by decide) ?_
                        refine lv_aload_n hx hb dX0_number_135 rfl (lv_at hl 0 rfl) ?_
                        refine va_get (D := (dC, dI)) (ci := 0) (v := .int (iI (g0_opn b))) (C := RX0) (T := TX0) (N := 14) hx hb hts hin0 hown hK hP 0 rfl rfl 8 (by decide) (hts (.fieldLink RX0 15 "BoatRuns$Boat" "open" "I") (by decide +kernel)) (fun _ h9 => h9) rfl dX0_number_136 ?_
                        obtain rfl := Option.some.inj hf
                        exact xe_ri hx hb hr hlocks dX0_number_139 rfl
                      · have hf := c18f c18
                        refine xk_tabOut (tgt := 140) hx hb c18a dX0_number_1 (by omega) (by decide) ?_
                        refine lv_aload_n hx hb dX0_number_140 rfl (lv_at hl 0 rfl) ?_
                        refine va_get (D := (dC, dI)) (ci := 0) (v := .int (iI (g0_flo b))) (C := RX0) (T := TX0) (N := 14) hx hb hts hin0 hown hK hP 0 rfl rfl 9 (by decide) (hts (.fieldLink RX0 48 "BoatRuns$Boat" "floatsUsed" "I") (by decide +kernel)) (fun _ h9 => h9) rfl dX0_number_141 ?_
                        obtain rfl := Option.some.inj hf
                        exact xe_ri hx hb hr hlocks dX0_number_144 rfl
theorem cdX0_number : yX0_number.cls = RX0 ∧ yX0_number.cls ≠ "java/lang/invoke/MethodHandle" ∧ yX0_number.cls ≠ "java/lang/invoke/VarHandle" ∧ (parseMethodDescriptor yX0_number.desc).map (fun d => d.parameters.length) = some 1 := by decide +kernel

set_option maxHeartbeats 4000000 in
set_option maxRecDepth 100000 in
theorem c4_clearText (l : Launch) (dC : Nat → ClassId) (dI : Nat → Nat → Nat) (cs : Nat → ClassId) (a : Nat → Nat) (sz : Nat) (y : BrS) (res : Int × BrS) (hf : f4_clearText y = some res) : Met l yX4_clearText wsX4_clearText ({ frames := 2, cells := 0, slots := 0, locals := 41 } : Room) (va_Pc [.ref (a 0)] (xPW (dC, dI) vwCl (w4 cs a y) (xT cs) sz)) (xQi (dC, dI) vwCl (w4 cs a y) (w4 cs a res.2) sz res.1) 0 0 (va_A (w4 cs a y) sz) := by
  refine Met.ofW (cc := cX4_clearText) (maxL := 1) (ret := (some .int)) (by decide) rfl ?_
  intro p e s m args below meth c s₁ B hml hv
  obtain ⟨rfl, hsz, hP, hK, hD0⟩ := hv
  have hx := B.exec
  have hb := B.bytes
  have hr := B.returns
  have hts := atoms_spec (ws := wsX4_clearText) B.pre
  have hown : s.vm.findClass RX4 = some m.cls := findClass_of_methodNamed B.named
  have hlocks := B.notSynchronized
  have hin4 : ∀ w ∈ wsX40, w ∈ wsX4_clearText := by decide +kernel
  subst hsz
  have hD := hD0.self (sz := s.heap.size)
  have hA : ∀ z9 : Nat, s.heap.size ≤ z9 → va_A (w4 cs a y) s.heap.size z9 := fun z9 h => Or.inr h
  have hS : va_S (va_A (w4 cs a y) s.heap.size) s.heap s.heap [] := va_S.rf
  have hl := lv_entry [.ref (a 0)] (n := 1) (Nat.le_of_ble_eq_true rfl)
  rw [lg_entry_eq]
  generalize (lg_sl [.ref (a 0)] ++ List.replicate (1 - (lg_sl [.ref (a 0)]).length) Slot.unset).toArray = ls at hl ⊢
  have hl : lv_has ls 1 [(0, .ref (a 0))] := hl
  unfold f4_clearText at hf
  refine lv_aload_n hx hb dX4_clearText_0 rfl (lv_at hl 0 rfl) ?_
  refine va_get (D := (dC, dI)) (ci := 4) (v := .ref (a 93)) (C := RX4) (T := TX4) (N := 4) hx hb hts hin4 hown hK hP 0 rfl rfl 3 (by decide) (hts (.fieldLink RX4 29 "BoatRuns" "text" "LBoatRuns$Text;") (by decide +kernel)) (fun _ h9 => h9) rfl dX4_clearText_1 ?_
  obtain ⟨⟨v2, t1⟩, et1, hf⟩ := x_bind hf
  refine xc_wi (As := []) (rest := []) ⟨hx, hb, hml, hown, hts⟩ (c3_wipe l dC dI cs (x_sh a 93) _ (g4_tx y)  _ et1) (cwV 0 hts gX4_clearText_X3_wipe rfl rfl rfl cdX3_wipe ⟨Nat.le_of_ble_eq_true rfl, Nat.le_of_ble_eq_true rfl⟩) hK hP (x_addr hD rfl) hS hA [93, 94, 95, 96, 97, 98, 99, 100, 101] rfl (by decide) rfl 93 rfl rfl rfl hl.1 rfl (Nat.le_of_ble_eq_true rfl) dX4_clearText_4 ⟨Nat.zero_le _, Nat.zero_le _⟩ (fun H locs hP hS => ?_)
  have hP : va_P (dC, dI) vwCl (w4C cs a (g4_bo y) (g4_tr y) (g4_hi y) t1) H := hP
  obtain rfl := Option.some.inj hf
  exact xe_wi hx hb hr hlocks hS hP dX4_clearText_7
theorem cdX4_clearText : yX4_clearText.cls = RX4 ∧ yX4_clearText.cls ≠ "java/lang/invoke/MethodHandle" ∧ yX4_clearText.cls ≠ "java/lang/invoke/VarHandle" ∧ (parseMethodDescriptor yX4_clearText.desc).map (fun d => d.parameters.length) = some 0 := by decide +kernel

set_option maxHeartbeats 4000000 in
set_option maxRecDepth 100000 in
theorem c4_obey (l : Launch) (dC : Nat → ClassId) (dI : Nat → Nat → Nat) (cs : Nat → ClassId) (a : Nat → Nat) (sz : Nat) (y : BrS) (p0 : Int) (p1 : Int) (p2 : Int) (res : Int × BrS) (hf : f4_obey y p0 p1 p2 = some res) : Met l yX4_obey wsX4_obey ({ frames := 5, cells := 0, slots := 0, locals := 116 } : Room) (va_Pc [.ref (a 0), .int (iI p0), .int (iI p1), .int (iI p2)] (xPW (dC, dI) vwCl (w4 cs a y) (xT cs) sz)) (xQi (dC, dI) vwCl (w4 cs a y) (w4 cs a res.2) sz res.1) 0 0 (va_A (w4 cs a y) sz) := by
  refine Met.ofW (cc := cX4_obey) (maxL := 4) (ret := (some .boolean)) (by decide) rfl ?_
  intro p e s m args below meth c s₁ B hml hv
  obtain ⟨rfl, hsz, hP, hK, hD0⟩ := hv
  have hx := B.exec
  have hb := B.bytes
  have hr := B.returns
  have hts := atoms_spec (ws := wsX4_obey) B.pre
  have hown : s.vm.findClass RX4 = some m.cls := findClass_of_methodNamed B.named
  have hlocks := B.notSynchronized
  have hin4 : ∀ w ∈ wsX40, w ∈ wsX4_obey := by decide +kernel
  subst hsz
  have hD := hD0.self (sz := s.heap.size)
  have hA : ∀ z9 : Nat, s.heap.size ≤ z9 → va_A (w4 cs a y) s.heap.size z9 := fun z9 h => Or.inr h
  have hS : va_S (va_A (w4 cs a y) s.heap.size) s.heap s.heap [] := va_S.rf
  have hl := lv_entry [.ref (a 0), .int (iI p0), .int (iI p1), .int (iI p2)] (n := 4) (Nat.le_of_ble_eq_true rfl)
  rw [lg_entry_eq]
  generalize (lg_sl [.ref (a 0), .int (iI p0), .int (iI p1), .int (iI p2)] ++ List.replicate (4 - (lg_sl [.ref (a 0), .int (iI p0), .int (iI p1), .int (iI p2)]).length) Slot.unset).toArray = ls at hl ⊢
  have hl : lv_has ls 4 [(0, .ref (a 0)), (1, .int (iI p0)), (2, .int (iI p1)), (3, .int (iI p2))] := hl
  unfold f4_obey at hf
  refine lv_iload_n hx hb dX4_obey_0 rfl (lv_at hl 1 rfl) ?_
  obtain ⟨c1a, c1b, c1t, c1f⟩ := x_eqE hf
  by_cases c1 : p0 = 101
  · have hf := c1t c1
    refine xk_tabIn (tgt := 100) hx hb c1a c1 dX4_obey_1 (by decide) rfl (by decide) ?_
    refine lv_aload_n hx hb dX4_obey_100 rfl (lv_at hl 0 rfl) ?_
    refine va_get (D := (dC, dI)) (ci := 4) (v := .ref (a 1)) (C := RX4) (T := TX4) (N := 4) hx hb hts hin4 hown hK hP 0 rfl rfl 0 (by decide) (hts (.fieldLink RX4 10 "BoatRuns" "boat" "LBoatRuns$Boat;") (by decide +kernel)) (fun _ h9 => h9) rfl dX4_obey_101 ?_
    obtain ⟨⟨v3, b2⟩, eb2, hf⟩ := x_bind hf
    refine xc_wi (As := []) (rest := []) ⟨hx, hb, hml, hown, hts⟩ (c0_throwAll l dC dI cs (x_sh a 1) _ (g4_bo y)  _ eb2) (cwV 0 hts gX4_obey_X0_throwAll rfl rfl rfl cdX0_throwAll ⟨Nat.le_of_ble_eq_true rfl, Nat.le_of_ble_eq_true rfl⟩) hK hP (x_addr hD rfl) hS hA [1, 2, 3, 4, 5, 6, 7, 8, 9, 10, 11, 12, 13, 14, 15] rfl (by decide) rfl 1 rfl rfl rfl hl.1 rfl (Nat.le_of_ble_eq_true rfl) dX4_obey_104 ⟨Nat.zero_le _, Nat.zero_le _⟩ (fun H locs hP hS => ?_)
    have hP : va_P (dC, dI) vwCl (w4C cs a b2 (g4_tr y) (g4_hi y) (g4_tx y)) H := hP
    refine lv_pop hx hb dX4_obey_107 rfl ?_
    refine xk_iconst hx hb dX4_obey_108 ?_
    obtain rfl := Option.some.inj hf
    exact xe_wz hx hb hr (Or.inr rfl) hlocks hS hP dX4_obey_109
  · have hf := c1f c1
    obtain ⟨c5a, c5b, c5t, c5f⟩ := x_eqE hf
    by_cases c5 : p0 = 108
    · have hf := c5t c5
      refine xk_tabIn (tgt := 110) hx hb c5a c5 dX4_obey_1 (by decide) rfl (by decide) ?_
      refine lv_aload_n hx hb dX4_obey_110 rfl (lv_at hl 0 rfl) ?_
      refine va_get (D := (dC, dI)) (ci := 4) (v := .ref (a 1)) (C := RX4) (T := TX4) (N := 4) hx hb hts hin4 hown hK hP 0 rfl rfl 0 (by decide) (hts (.fieldLink RX4 10 "BoatRuns" "boat" "LBoatRuns$Boat;") (by decide +kernel)) (fun _ h9 => h9) rfl dX4_obey_111 ?_
      obtain ⟨v6, ev6, hf⟩ := x_bind hf
      refine xc_ri (As := []) (rest := []) ⟨hx, hb, hml, hown, hts⟩ (c0_runs l dC dI cs (x_sh a 1) (g4_bo y)  _ ev6) (cwV 0 hts gX4_obey_X0_runs rfl rfl rfl cdX0_runs ⟨Nat.le_of_ble_eq_true rfl, Nat.le_of_ble_eq_true rfl⟩) hK hP [1, 2, 3, 4, 5, 6, 7, 8, 9, 10, 11, 12, 13, 14, 15] rfl 1 rfl rfl rfl hl.1 rfl (Nat.le_of_ble_eq_true rfl) dX4_obey_114 ⟨Nat.zero_le _, Nat.zero_le _⟩ ?_
      refine xk_iconst hx hb dX4_obey_117 ?_
      obtain ⟨c7a, c7b, c7t, c7f⟩ := x_ltE hf
      refine xk_icmp_ge (tgt := 123) hx hb c7a c7b dX4_obey_118 (by decide) (fun c7 => ?_) (fun c7 => ?_)
      · have hf := c7t c7
        refine xk_iconst hx hb dX4_obey_121 ?_
        obtain rfl := Option.some.inj hf
        exact xe_wz hx hb hr (Or.inl rfl) hlocks hS hP dX4_obey_122
      · have hf := c7f c7
        refine lv_aload_n hx hb dX4_obey_123 rfl (lv_at hl 0 rfl) ?_
        refine va_get (D := (dC, dI)) (ci := 4) (v := .ref (a 1)) (C := RX4) (T := TX4) (N := 4) hx hb hts hin4 hown hK hP 0 rfl rfl 0 (by decide) (hts (.fieldLink RX4 10 "BoatRuns" "boat" "LBoatRuns$Boat;") (by decide +kernel)) (fun _ h9 => h9) rfl dX4_obey_124 ?_
        obtain ⟨⟨v9, b8⟩, eb8, hf⟩ := x_bind hf
        refine xc_wi (As := []) (rest := []) ⟨hx, hb, hml, hown, hts⟩ (c0_joinLightest l dC dI cs (x_sh a 1) _ (g4_bo y)  _ eb8) (cwV 0 hts gX4_obey_X0_joinLightest rfl rfl rfl cdX0_joinLightest ⟨Nat.le_of_ble_eq_true rfl, Nat.le_of_ble_eq_true rfl⟩) hK hP (x_addr hD rfl) hS hA [1, 2, 3, 4, 5, 6, 7, 8, 9, 10, 11, 12, 13, 14, 15] rfl (by decide) rfl 1 rfl rfl rfl hl.1 rfl (Nat.le_of_ble_eq_true rfl) dX4_obey_127 ⟨Nat.zero_le _, Nat.zero_le _⟩ (fun H locs hP hS => ?_)
        have hP : va_P (dC, dI) vwCl (w4C cs a b8 (g4_tr y) (g4_hi y) (g4_tx y)) H := hP
        refine lv_pop hx hb dX4_obey_130 rfl ?_
        refine xk_iconst hx hb dX4_obey_131 ?_
        obtain rfl := Option.some.inj hf
        exact xe_wz hx hb hr (Or.inr rfl) hlocks hS hP dX4_obey_132
    · have hf := c5f c5
      obtain ⟨c11a, c11b, c11t, c11f⟩ := x_eqE hf
      by_cases c11 : p0 = 109
      · have hf := c11t c11
        refine xk_tabIn (tgt := 144) hx hb c11a c11 dX4_obey_1 (by decide) rfl (by decide) ?_
        refine lv_iload_n hx hb dX4_obey_144 rfl (lv_at hl 2 rfl) ?_
        refine lv_iload_n hx hb dX4_obey_145 rfl (lv_at hl 3 rfl) ?_
        obtain ⟨c12a, c12b, c12t, c12f⟩ := x_eqE hf
        refine xk_icmp_eq (tgt := 171) hx hb c12a c12b dX4_obey_146 (by decide) (fun c12 => ?_) (fun c12 => ?_)
        · have hf := c12t c12
          refine xk_iconst hx hb dX4_obey_171 ?_
          obtain rfl := Option.some.inj hf
          exact xe_wz hx hb hr (Or.inl rfl) hlocks hS hP dX4_obey_172
        · have hf := c12f c12
          refine lv_aload_n hx hb dX4_obey_149 rfl (lv_at hl 0 rfl) ?_
          refine va_get (D := (dC, dI)) (ci := 4) (v := .ref (a 1)) (C := RX4) (T := TX4) (N := 4) hx hb hts hin4 hown hK hP 0 rfl rfl 0 (by decide) (hts (.fieldLink RX4 10 "BoatRuns" "boat" "LBoatRuns$Boat;") (by decide +kernel)) (fun _ h9 => h9) rfl dX4_obey_150 ?_
          refine lv_iload_n hx hb dX4_obey_153 rfl (lv_at hl 2 rfl) ?_
          obtain ⟨v13, ev13, hf⟩ := x_bind hf
          refine xc_ri (As := [.int (iI p1)]) (rest := []) ⟨hx, hb, hml, hown, hts⟩ (c0_hasRun l dC dI cs (x_sh a 1) (g4_bo y) p1  _ ev13) (cwV 1 hts gX4_obey_X0_hasRun rfl rfl rfl cdX0_hasRun ⟨Nat.le_of_ble_eq_true rfl, Nat.le_of_ble_eq_true rfl⟩) hK hP [1, 2, 3, 4, 5, 6, 7, 8, 9, 10, 11, 12, 13, 14, 15] rfl 1 rfl rfl rfl hl.1 rfl (Nat.le_of_ble_eq_true rfl) dX4_obey_154 ⟨Nat.zero_le _, Nat.zero_le _⟩ ?_
          obtain ⟨c14a, c14b, c14t, c14f⟩ := x_eqE hf
          refine xk_if_eq (tgt := 171) hx hb c14a dX4_obey_157 (by decide) (fun c14 => ?_) (fun c14 => ?_)
          · have hf := c14t c14
            refine xk_iconst hx hb dX4_obey_171 ?_
            obtain rfl := Option.some.inj hf
            exact xe_wz hx hb hr (Or.inl rfl) hlocks hS hP dX4_obey_172
          · have hf := c14f c14
            refine lv_aload_n hx hb dX4_obey_160 rfl (lv_at hl 0 rfl) ?_
            refine va_get (D := (dC, dI)) (ci := 4) (v := .ref (a 1)) (C := RX4) (T := TX4) (N := 4) hx hb hts hin4 hown hK hP 0 rfl rfl 0 (by decide) (hts (.fieldLink RX4 10 "BoatRuns" "boat" "LBoatRuns$Boat;") (by decide +kernel)) (fun _ h9 => h9) rfl dX4_obey_161 ?_
            refine lv_iload_n hx hb dX4_obey_164 rfl (lv_at hl 3 rfl) ?_
            obtain ⟨v15, ev15, hf⟩ := x_bind hf
            refine xc_ri (As := [.int (iI p2)]) (rest := []) ⟨hx, hb, hml, hown, hts⟩ (c0_hasRun l dC dI cs (x_sh a 1) (g4_bo y) p2  _ ev15) (cwV 1 hts gX4_obey_X0_hasRun rfl rfl rfl cdX0_hasRun ⟨Nat.le_of_ble_eq_true rfl, Nat.le_of_ble_eq_true rfl⟩) hK hP [1, 2, 3, 4, 5, 6, 7, 8, 9, 10, 11, 12, 13, 14, 15] rfl 1 rfl rfl rfl hl.1 rfl (Nat.le_of_ble_eq_true rfl) dX4_obey_165 ⟨Nat.zero_le _, Nat.zero_le _⟩ ?_
            obtain ⟨c16a, c16b, c16t, c16f⟩ := x_eqE hf
            refine xk_if_ne (tgt := 173) hx hb c16a dX4_obey_168 (by decide) (fun c16 => ?_) (fun c16 => ?_)
            · have hf := c16t c16
              refine xk_iconst hx hb dX4_obey_171 ?_
              obtain rfl := Option.some.inj hf
              exact xe_wz hx hb hr (Or.inl rfl) hlocks hS hP dX4_obey_172
            · have hf := c16f c16
              refine lv_aload_n hx hb dX4_obey_173 rfl (lv_at hl 0 rfl) ?_
              refine va_get (D := (dC, dI)) (ci := 4) (v := .ref (a 1)) (C := RX4) (T := TX4) (N := 4) hx hb hts hin4 hown hK hP 0 rfl rfl 0 (by decide) (hts (.fieldLink RX4 10 "BoatRuns" "boat" "LBoatRuns$Boat;") (by decide +kernel)) (fun _ h9 => h9) rfl dX4_obey_174 ?_
              refine lv_iload_n hx hb dX4_obey_177 rfl (lv_at hl 2 rfl) ?_
              refine lv_iload_n hx hb dX4_obey_178 rfl (lv_at hl 3 rfl) ?_
              obtain ⟨⟨v18, b17⟩, eb17, hf⟩ := x_bind hf
              refine xc_wi (As := [.int (iI p1), .int (iI p2)]) (rest := []) ⟨hx, hb, hml, hown, hts⟩ (c0_join l dC dI cs (x_sh a 1) _ (g4_bo y) p1 p2  _ eb17) (cwV 2 hts gX4_obey_X0_join rfl rfl rfl cdX0_join ⟨Nat.le_of_ble_eq_true rfl, Nat.le_of_ble_eq_true rfl⟩) hK hP (x_addr hD rfl) hS hA [1, 2, 3, 4, 5, 6, 7, 8, 9, 10, 11, 12, 13, 14, 15] rfl (by decide) rfl 1 rfl rfl rfl hl.1 rfl (Nat.le_of_ble_eq_true rfl) dX4_obey_179 ⟨Nat.zero_le _, Nat.zero_le _⟩ (fun H locs hP hS => ?_)
              have hP : va_P (dC, dI) vwCl (w4C cs a b17 (g4_tr y) (g4_hi y) (g4_tx y)) H := hP
              refine lv_pop hx hb dX4_obey_182 rfl ?_
              refine xk_iconst hx hb dX4_obey_183 ?_
              obtain rfl := Option.some.inj hf
              exact xe_wz hx hb hr (Or.inr rfl) hlocks hS hP dX4_obey_184
      · have hf := c11f c11
        obtain ⟨c20a, c20b, c20t, c20f⟩ := x_eqE hf
        by_cases c20 : p0 = 112
        · have hf := c20t c20
          refine xk_tabIn (tgt := 76) hx hb c20a c20 dX4_obey_1 (by decide) rfl (by decide) ?_
          refine lv_aload_n hx hb dX4_obey_76 rfl (lv_at hl 0 rfl) ?_
          refine va_get (D := (dC, dI)) (ci := 4) (v := .ref (a 1)) (C := RX4) (T := TX4) (N := 4) hx hb hts hin4 hown hK hP 0 rfl rfl 0 (by decide) (hts (.fieldLink RX4 10 "BoatRuns" "boat" "LBoatRuns$Boat;") (by decide +kernel)) (fun _ h9 => h9) rfl dX4_obey_77 ?_
          obtain ⟨v21, ev21, hf⟩ := x_bind hf
          refine xc_ri (As := []) (rest := []) ⟨hx, hb, hml, hown, hts⟩ (c0_allLoaded l dC dI cs (x_sh a 1) (g4_bo y)  _ ev21) (cwV 0 hts gX4_obey_X0_allLoaded rfl rfl rfl cdX0_allLoaded ⟨Nat.le_of_ble_eq_true rfl, Nat.le_of_ble_eq_true rfl⟩) hK hP [1, 2, 3, 4, 5, 6, 7, 8, 9, 10, 11, 12, 13, 14, 15] rfl 1 rfl rfl rfl hl.1 rfl (Nat.le_of_ble_eq_true rfl) dX4_obey_80 ⟨Nat.zero_le _, Nat.zero_le _⟩ ?_
          obtain ⟨c22a, c22b, c22t, c22f⟩ := x_eqE hf
          refine xk_if_eq (tgt := 88) hx hb c22a dX4_obey_83 (by decide) (fun c22 => ?_) (fun c22 => ?_)
          · have hf := c22t c22
            refine lv_aload_n hx hb dX4_obey_88 rfl (lv_at hl 0 rfl) ?_
            refine va_get (D := (dC, dI)) (ci := 4) (v := .ref (a 1)) (C := RX4) (T := TX4) (N := 4) hx hb hts hin4 hown hK hP 0 rfl rfl 0 (by decide) (hts (.fieldLink RX4 10 "BoatRuns" "boat" "LBoatRuns$Boat;") (by decide +kernel)) (fun _ h9 => h9) rfl dX4_obey_89 ?_
            refine lv_iload_n hx hb dX4_obey_92 rfl (lv_at hl 2 rfl) ?_
            refine lv_iload_n hx hb dX4_obey_93 rfl (lv_at hl 3 rfl) ?_
            obtain ⟨⟨v24, b23⟩, eb23, hf⟩ := x_bind hf
            refine xc_wi (As := [.int (iI p1), .int (iI p2)]) (rest := []) ⟨hx, hb, hml, hown, hts⟩ (c0_take l dC dI cs (x_sh a 1) _ (g4_bo y) p1 p2  _ eb23) (cwV 2 hts gX4_obey_X0_take rfl rfl rfl cdX0_take ⟨Nat.le_of_ble_eq_true rfl, Nat.le_of_ble_eq_true rfl⟩) hK hP (x_addr hD rfl) hS hA [1, 2, 3, 4, 5, 6, 7, 8, 9, 10, 11, 12, 13, 14, 15] rfl (by decide) rfl 1 rfl rfl rfl hl.1 rfl (Nat.le_of_ble_eq_true rfl) dX4_obey_94 ⟨Nat.zero_le _, Nat.zero_le _⟩ (fun H locs hP hS => ?_)
            have hP : va_P (dC, dI) vwCl (w4C cs a b23 (g4_tr y) (g4_hi y) (g4_tx y)) H := hP
            refine lv_pop hx hb dX4_obey_97 rfl ?_
            refine xk_iconst hx hb dX4_obey_98 ?_
            obtain rfl := Option.some.inj hf
            exact xe_wz hx hb hr (Or.inr rfl) hlocks hS hP dX4_obey_99
          · have hf := c22f c22
            refine xk_iconst hx hb dX4_obey_86 ?_
            obtain rfl := Option.some.inj hf
            exact xe_wz hx hb hr (Or.inl rfl) hlocks hS hP dX4_obey_87
        · have hf := c20f c20
          obtain ⟨c26a, c26b, c26t, c26f⟩ := x_eqE hf
          by_cases c26 : p0 = 115
          · have hf := c26t c26
            refine xk_tabIn (tgt := 133) hx hb c26a c26 dX4_obey_1 (by decide) rfl (by decide) ?_
            refine lv_aload_n hx hb dX4_obey_133 rfl (lv_at hl 0 rfl) ?_
            refine va_get (D := (dC, dI)) (ci := 4) (v := .ref (a 1)) (C := RX4) (T := TX4) (N := 4) hx hb hts hin4 hown hK hP 0 rfl rfl 0 (by decide) (hts (.fieldLink RX4 10 "BoatRuns" "boat" "LBoatRuns$Boat;") (by decide +kernel)) (fun _ h9 => h9) rfl dX4_obey_134 ?_
            refine lv_iload_n hx hb dX4_obey_137 rfl (lv_at hl 2 rfl) ?_
            obtain ⟨⟨v28, b27⟩, eb27, hf⟩ := x_bind hf
            refine xc_wi (As := [.int (iI p1)]) (rest := []) ⟨hx, hb, hml, hown, hts⟩ (c0_breakRuns l dC dI cs (x_sh a 1) _ (g4_bo y) p1  _ eb27) (cwV 1 hts gX4_obey_X0_breakRuns rfl rfl rfl cdX0_breakRuns ⟨Nat.le_of_ble_eq_true rfl, Nat.le_of_ble_eq_true rfl⟩) hK hP (x_addr hD rfl) hS hA [1, 2, 3, 4, 5, 6, 7, 8, 9, 10, 11, 12, 13, 14, 15] rfl (by decide) rfl 1 rfl rfl rfl hl.1 rfl (Nat.le_of_ble_eq_true rfl) dX4_obey_138 ⟨Nat.zero_le _, Nat.zero_le _⟩ (fun H locs hP hS => ?_)
            have hP : va_P (dC, dI) vwCl (w4C cs a b27 (g4_tr y) (g4_hi y) (g4_tx y)) H := hP
            refine lv_pop hx hb dX4_obey_141 rfl ?_
            refine xk_iconst hx hb dX4_obey_142 ?_
            obtain rfl := Option.some.inj hf
            exact xe_wz hx hb hr (Or.inr rfl) hlocks hS hP dX4_obey_143
          · have hf := c26f c26
            have hdf : W p l e (headSpec wsX4_obey ({ frames := 5, cells := 0, slots := 0, locals := 116 } : Room)).room s m ([.ref (a 0), .int (iI p0), .int (iI p1), .int (iI p2)] : List Value).toArray below meth c s.heap [] 0 0 (MQ below (xQi (dC, dI) vwCl (w4 cs a y) (w4 cs a res.2) s.heap.size res.1) ([.ref (a 0), .int (iI p0), .int (iI p1), .int (iI p2)] : List Value).toArray s 0 0 (va_A (w4 cs a y) s.heap.size)) (F0 m 185 ls []) := by
              refine xk_iconst hx hb dX4_obey_185 ?_
              obtain rfl := Option.some.inj hf
              exact xe_wz hx hb hr (Or.inl rfl) hlocks hS hP dX4_obey_186
            rcases (show p0 = 102 ∨ p0 = 103 ∨ p0 = 104 ∨ p0 = 105 ∨ p0 = 106 ∨ p0 = 107 ∨ p0 = 110 ∨ p0 = 111 ∨ p0 = 113 ∨ p0 = 114 ∨ (p0 < 101 ∨ 115 < p0) by omega) with hq | hq | hq | hq | hq | hq | hq | hq | hq | hq | hq
            · exact xk_tabIn (tgt := 185) hx hb c26a hq dX4_obey_1 (by decide) rfl (by decide) hdf
            · exact xk_tabIn (tgt := 185) hx hb c26a hq dX4_obey_1 (by decide) rfl (by decide) hdf
            · exact xk_tabIn (tgt := 185) hx hb c26a hq dX4_obey_1 (by decide) rfl (by decide) hdf
            · exact xk_tabIn (tgt := 185) hx hb c26a hq dX4_obey_1 (by decide) rfl (by decide) hdf
            · exact xk_tabIn (tgt := 185) hx hb c26a hq dX4_obey_1 (by decide) rfl (by decide) hdf
            · exact xk_tabIn (tgt := 185) hx hb c26a hq dX4_obey_1 (by decide) rfl (by decide) hdf
            · exact xk_tabIn (tgt := 185) hx hb c26a hq dX4_obey_1 (by decide) rfl (by decide) hdf
            · exact xk_tabIn (tgt := 185) hx hb c26a hq dX4_obey_1 (by decide) rfl (by decide) hdf
            · exact xk_tabIn (tgt := 185) hx hb c26a hq dX4_obey_1 (by decide) rfl (by decide) hdf
            · exact xk_tabIn (tgt := 185) hx hb c26a hq dX4_obey_1 (by decide) rfl (by decide) hdf
            · exact xk_tabOut (tgt := 185) hx hb c26a dX4_obey_1 hq (by decide) hdf
theorem cdX4_obey : yX4_obey.cls = RX4 ∧ yX4_obey.cls ≠ "java/lang/invoke/MethodHandle" ∧ yX4_obey.cls ≠ "java/lang/invoke/VarHandle" ∧ (parseMethodDescriptor yX4_obey.desc).map (fun d => d.parameters.length) = some 3 := by decide +kernel

set_option maxHeartbeats 4000000 in
set_option maxRecDepth 100000 in
theorem c4_carryOut (l : Launch) (dC : Nat → ClassId) (dI : Nat → Nat → Nat) (cs : Nat → ClassId) (a : Nat → Nat) (sz : Nat) (y : BrS) (res : Int × BrS) (hf : f4_carryOut y = some res) : Met l yX4_carryOut wsX4_carryOut ({ frames := 6, cells := 0, slots := 0, locals := 139 } : Room) (va_Pc [.ref (a 0)] (xPW (dC, dI) vwCl (w4 cs a y) (xT cs) sz)) (xQi (dC, dI) vwCl (w4 cs a y) (w4 cs a res.2) sz res.1) 0 0 (va_A (w4 cs a y) sz) := by
  refine Met.ofW (cc := cX4_carryOut) (maxL := 3) (ret := (some .int)) (by decide) rfl ?_
  intro p e s m args below meth c s₁ B hml hv
  obtain ⟨rfl, hsz, hP, hK, hD0⟩ := hv
  have hx := B.exec
  have hb := B.bytes
  have hr := B.returns
  have hts := atoms_spec (ws := wsX4_carryOut) B.pre
  have hown : s.vm.findClass RX4 = some m.cls := findClass_of_methodNamed B.named
  have hlocks := B.notSynchronized
  have hin4 : ∀ w ∈ wsX40, w ∈ wsX4_carryOut := by decide +kernel
  subst hsz
  have hD := hD0.self (sz := s.heap.size)
  have hA : ∀ z9 : Nat, s.heap.size ≤ z9 → va_A (w4 cs a y) s.heap.size z9 := fun z9 h => Or.inr h
  have hS : va_S (va_A (w4 cs a y) s.heap.size) s.heap s.heap [] := va_S.rf
  have hl := lv_entry [.ref (a 0)] (n := 3) (Nat.le_of_ble_eq_true rfl)
  rw [lg_entry_eq]
  generalize (lg_sl [.ref (a 0)] ++ List.replicate (3 - (lg_sl [.ref (a 0)]).length) Slot.unset).toArray = ls at hl ⊢
  have hl : lv_has ls 3 [(0, .ref (a 0))] := hl
  unfold f4_carryOut at hf
  refine lv_aload_n hx hb dX4_carryOut_0 rfl (lv_at hl 0 rfl) ?_
  refine va_get (D := (dC, dI)) (ci := 4) (v := .ref (a 93)) (C := RX4) (T := TX4) (N := 4) hx hb hts hin4 hown hK hP 0 rfl rfl 3 (by decide) (hts (.fieldLink RX4 29 "BoatRuns" "text" "LBoatRuns$Text;") (by decide +kernel)) (fun _ h9 => h9) rfl dX4_carryOut_1 ?_
  obtain ⟨⟨v2, t1⟩, et1, hf⟩ := x_bind hf
  refine xc_wi (As := []) (rest := []) ⟨hx, hb, hml, hown, hts⟩ (c3_readOrders l dC dI cs (x_sh a 93) _ (g4_tx y)  _ et1) (cwV 0 hts gX4_carryOut_X3_readOrders rfl rfl rfl cdX3_readOrders ⟨Nat.le_of_ble_eq_true rfl, Nat.le_of_ble_eq_true rfl⟩) hK hP (x_addr hD rfl) hS hA [93, 94, 95, 96, 97, 98, 99, 100, 101] rfl (by decide) rfl 93 rfl rfl rfl hl.1 rfl (Nat.le_of_ble_eq_true rfl) dX4_carryOut_4 ⟨Nat.zero_le _, Nat.zero_le _⟩ (fun H locs hP hS => ?_)
  have hP : va_P (dC, dI) vwCl (w4C cs a (g4_bo y) (g4_tr y) (g4_hi y) t1) H := hP
  refine lv_istore_n (lv' := [(1, .int (iI v2)), (0, .ref (a 0))]) hx hb dX4_carryOut_7 rfl hl (by decide) rfl (fun ls hl => ?_)
  refine lv_iload_n hx hb dX4_carryOut_8 rfl (lv_at hl 0 rfl) ?_
  refine xk_iconst hx hb dX4_carryOut_9 ?_
  obtain ⟨c4a, c4b, c4t, c4f⟩ := x_eqE hf
  refine xk_icmp_eq (tgt := 18) hx hb c4a c4b dX4_carryOut_10 (by decide) (fun c4 => ?_) (fun c4 => ?_)
  · have hf := c4t c4
    refine lv_aload_n hx hb dX4_carryOut_18 rfl (lv_at hl 1 rfl) ?_
    refine va_get (D := (dC, dI)) (ci := 4) (v := .ref (a 31)) (C := RX4) (T := TX4) (N := 4) hx hb hts hin4 hown hK hP 0 rfl rfl 2 (by decide) (hts (.fieldLink RX4 22 "BoatRuns" "history" "LBoatRuns$History;") (by decide +kernel)) (fun _ h9 => h9) rfl dX4_carryOut_19 ?_
    refine lv_aload_n hx hb dX4_carryOut_22 rfl (lv_at hl 1 rfl) ?_
    refine va_get (D := (dC, dI)) (ci := 4) (v := .ref (a 1)) (C := RX4) (T := TX4) (N := 4) hx hb hts hin4 hown hK hP 0 rfl rfl 0 (by decide) (hts (.fieldLink RX4 10 "BoatRuns" "boat" "LBoatRuns$Boat;") (by decide +kernel)) (fun _ h9 => h9) rfl dX4_carryOut_23 ?_
    obtain ⟨h5, eh5, hf⟩ := x_bind hf
    refine xc_wv (As := [.ref (a 1)]) (rest := []) ⟨hx, hb, hml, hown, hts⟩ (c1_save l dC dI cs (x_sh a 31) (x_sh a 1) _ (g4_hi y) (g4_bo y)  _ eh5) (cwV 1 hts gX4_carryOut_X1_save rfl rfl rfl cdX1_save ⟨Nat.le_of_ble_eq_true rfl, Nat.le_of_ble_eq_true rfl⟩) hK hP (x_addr hD rfl) hS hA [31, 32, 33, 34, 35, 36, 37, 38, 39, 40, 41, 42, 43, 44, 45, 46, 47, 48, 49, 50, 51, 52, 53, 54, 55, 56, 57, 58, 59, 60, 61, 62, 63, 64, 65, 66, 67, 68, 69, 70, 71, 72, 73, 74, 75, 76, 77, 78, 79, 80, 81, 82, 83, 84, 85, 86, 87, 88, 89, 90, 91, 92, 1, 2, 3, 4, 5, 6, 7, 8, 9, 10, 11, 12, 13, 14, 15] rfl (by decide) rfl 31 rfl rfl rfl hl.1 rfl (Nat.le_of_ble_eq_true rfl) dX4_carryOut_26 ⟨Nat.zero_le _, Nat.zero_le _⟩ (fun H locs hP hS => ?_)
    have hP : va_P (dC, dI) vwCl (w4C cs a (g4_bo y) (g4_tr y) h5 t1) H := hP
    refine xk_iconst hx hb dX4_carryOut_29 ?_
    refine lv_istore_n (lv' := [(2, .int (iI 0)), (1, .int (iI v2)), (0, .ref (a 0))]) hx hb dX4_carryOut_30 rfl hl (by decide) rfl (fun ls hl => ?_)
    have hL31 : ∀ (n7 : Nat) (l2 : Int) (y6 : BrS), f4_carryOut_L31  n7 l2 y6 = some res → ∀ (H : Heap) (locs : List Loc), va_P (dC, dI) vwCl (w4 cs a y6) H → va_S (va_A (w4 cs a y) s.heap.size) s.heap H locs → ∀ (ls : Array Slot), lv_has ls 3 [(0, .ref (a 0)), (2, .int (iI l2))] → W p l e (headSpec wsX4_carryOut ({ frames := 6, cells := 0, slots := 0, locals := 139 } : Room)).room s m ([.ref (a 0)] : List Value).toArray below meth c H locs 0 0 (MQ below (xQi (dC, dI) vwCl (w4 cs a y) (w4 cs a res.2) s.heap.size res.1) ([.ref (a 0)] : List Value).toArray s 0 0 (va_A (w4 cs a y) s.heap.size)) (F0 m 31 ls []) := by
      intro  n7
      induction n7 with
      | zero => intro l2 y6 hf; have hf : (none : Option (Int × BrS)) = some res := hf; cases hf
      | succ n7 ih31 =>
        intro l2 y6 hf H locs hP hS ls hl
        rw [f4_carryOut_L31] at hf
        refine lv_iload_n hx hb dX4_carryOut_31 rfl (lv_at hl 1 rfl) ?_
        refine lv_aload_n hx hb dX4_carryOut_32 rfl (lv_at hl 0 rfl) ?_
        refine va_get (D := (dC, dI)) (ci := 4) (v := .ref (a 93)) (C := RX4) (T := TX4) (N := 4) hx hb hts hin4 hown hK hP 0 rfl rfl 3 (by decide) (hts (.fieldLink RX4 29 "BoatRuns" "text" "LBoatRuns$Text;") (by decide +kernel)) (fun _ h9 => h9) rfl dX4_carryOut_33 ?_
        obtain ⟨v8, ev8, hf⟩ := x_bind hf
        refine xc_ri (As := []) (rest := [.int (iI l2)]) ⟨hx, hb, hml, hown, hts⟩ (c3_orders l dC dI cs (x_sh a 93) (g4_tx y6)  _ ev8) (cwV 0 hts gX4_carryOut_X3_orders rfl rfl rfl cdX3_orders ⟨Nat.le_of_ble_eq_true rfl, Nat.le_of_ble_eq_true rfl⟩) hK hP [93, 94, 95, 96, 97, 98, 99, 100, 101] rfl 93 rfl rfl rfl hl.1 rfl (Nat.le_of_ble_eq_true rfl) dX4_carryOut_36 ⟨Nat.zero_le _, Nat.zero_le _⟩ ?_
        obtain ⟨c9a, c9b, c9t, c9f⟩ := x_ltE hf
        refine xk_icmp_ge (tgt := 79) hx hb c9a c9b dX4_carryOut_39 (by decide) (fun c9 => ?_) (fun c9 => ?_)
        · have hf := c9t c9
          refine lv_aload_n hx hb dX4_carryOut_42 rfl (lv_at hl 0 rfl) ?_
          refine lv_aload_n hx hb dX4_carryOut_43 rfl (lv_at hl 0 rfl) ?_
          refine va_get (D := (dC, dI)) (ci := 4) (v := .ref (a 93)) (C := RX4) (T := TX4) (N := 4) hx hb hts hin4 hown hK hP 0 rfl rfl 3 (by decide) (hts (.fieldLink RX4 29 "BoatRuns" "text" "LBoatRuns$Text;") (by decide +kernel)) (fun _ h9 => h9) rfl dX4_carryOut_44 ?_
          refine lv_iload_n hx hb dX4_carryOut_47 rfl (lv_at hl 1 rfl) ?_
          obtain ⟨v10, ev10, hf⟩ := x_bind hf
          refine xc_ri (As := [.int (iI l2)]) (rest := [.ref (a 0)]) ⟨hx, hb, hml, hown, hts⟩ (c3_kind l dC dI cs (x_sh a 93) (g4_tx y6) l2  _ ev10) (cwV 1 hts gX4_carryOut_X3_kind rfl rfl rfl cdX3_kind ⟨Nat.le_of_ble_eq_true rfl, Nat.le_of_ble_eq_true rfl⟩) hK hP [93, 94, 95, 96, 97, 98, 99, 100, 101] rfl 93 rfl rfl rfl hl.1 rfl (Nat.le_of_ble_eq_true rfl) dX4_carryOut_48 ⟨Nat.zero_le _, Nat.zero_le _⟩ ?_
          refine lv_aload_n hx hb dX4_carryOut_51 rfl (lv_at hl 0 rfl) ?_
          refine va_get (D := (dC, dI)) (ci := 4) (v := .ref (a 93)) (C := RX4) (T := TX4) (N := 4) hx hb hts hin4 hown hK hP 0 rfl rfl 3 (by decide) (hts (.fieldLink RX4 29 "BoatRuns" "text" "LBoatRuns$Text;") (by decide +kernel)) (fun _ h9 => h9) rfl dX4_carryOut_52 ?_
          refine lv_iload_n hx hb dX4_carryOut_55 rfl (lv_at hl 1 rfl) ?_
          obtain ⟨v11, ev11, hf⟩ := x_bind hf
          refine xc_ri (As := [.int (iI l2)]) (rest := [.int (iI v10), .ref (a 0)]) ⟨hx, hb, hml, hown, hts⟩ (c3_first l dC dI cs (x_sh a 93) (g4_tx y6) l2  _ ev11) (cwV 1 hts gX4_carryOut_X3_first rfl rfl rfl cdX3_first ⟨Nat.le_of_ble_eq_true rfl, Nat.le_of_ble_eq_true rfl⟩) hK hP [93, 94, 95, 96, 97, 98, 99, 100, 101] rfl 93 rfl rfl rfl hl.1 rfl (Nat.le_of_ble_eq_true rfl) dX4_carryOut_56 ⟨Nat.zero_le _, Nat.zero_le _⟩ ?_
          refine lv_aload_n hx hb dX4_carryOut_59 rfl (lv_at hl 0 rfl) ?_
          refine va_get (D := (dC, dI)) (ci := 4) (v := .ref (a 93)) (C := RX4) (T := TX4) (N := 4) hx hb hts hin4 hown hK hP 0 rfl rfl 3 (by decide) (hts (.fieldLink RX4 29 "BoatRuns" "text" "LBoatRuns$Text;") (by decide +kernel)) (fun _ h9 => h9) rfl dX4_carryOut_60 ?_
          refine lv_iload_n hx hb dX4_carryOut_63 rfl (lv_at hl 1 rfl) ?_
          obtain ⟨v12, ev12, hf⟩ := x_bind hf
          refine xc_ri (As := [.int (iI l2)]) (rest := [.int (iI v11), .int (iI v10), .ref (a 0)]) ⟨hx, hb, hml, hown, hts⟩ (c3_second l dC dI cs (x_sh a 93) (g4_tx y6) l2  _ ev12) (cwV 1 hts gX4_carryOut_X3_second rfl rfl rfl cdX3_second ⟨Nat.le_of_ble_eq_true rfl, Nat.le_of_ble_eq_true rfl⟩) hK hP [93, 94, 95, 96, 97, 98, 99, 100, 101] rfl 93 rfl rfl rfl hl.1 rfl (Nat.le_of_ble_eq_true rfl) dX4_carryOut_64 ⟨Nat.zero_le _, Nat.zero_le _⟩ ?_
          obtain ⟨⟨v14, y13⟩, ey13, hf⟩ := x_bind hf
          refine xc_wi (As := [.int (iI v10), .int (iI v11), .int (iI v12)]) (rest := []) ⟨hx, hb, hml, hown, hts⟩ (c4_obey l dC dI cs a _ y6 v10 v11 v12  _ ey13) (cwV 3 hts gX4_carryOut_X4_obey rfl rfl rfl cdX4_obey ⟨Nat.le_of_ble_eq_true rfl, Nat.le_of_ble_eq_true rfl⟩) hK hP (x_addr hD rfl) hS hA [0, 1, 2, 3, 4, 5, 6, 7, 8, 9, 10, 11, 12, 13, 14, 15, 16, 17, 18, 19, 20, 21, 22, 23, 24, 25, 26, 27, 28, 29, 30, 31, 32, 33, 34, 35, 36, 37, 38, 39, 40, 41, 42, 43, 44, 45, 46, 47, 48, 49, 50, 51, 52, 53, 54, 55, 56, 57, 58, 59, 60, 61, 62, 63, 64, 65, 66, 67, 68, 69, 70, 71, 72, 73, 74, 75, 76, 77, 78, 79, 80, 81, 82, 83, 84, 85, 86, 87, 88, 89, 90, 91, 92, 93, 94, 95, 96, 97, 98, 99, 100, 101] rfl (by decide) rfl 0 rfl rfl rfl hl.1 rfl (Nat.le_of_ble_eq_true rfl) dX4_carryOut_67 ⟨Nat.zero_le _, Nat.zero_le _⟩ (fun H locs hP hS => ?_)
          have hP : va_P (dC, dI) vwCl (w4 cs a y13) H := hP
          obtain ⟨c16a, c16b, c16t, c16f⟩ := x_eqE hf
          refine xk_if_eq (tgt := 79) hx hb c16a dX4_carryOut_70 (by decide) (fun c16 => ?_) (fun c16 => ?_)
          · have hf := c16t c16
            refine lv_iload_n hx hb dX4_carryOut_79 rfl (lv_at hl 1 rfl) ?_
            obtain rfl := Option.some.inj hf
            exact xe_wi hx hb hr hlocks hS hP dX4_carryOut_80
          · have hf := c16f c16
            refine xk_iinc (lv' := [(2, .int (iI (l2 + 1))), (0, .ref (a 0))]) hx hb dX4_carryOut_73 hl (k := 1) rfl (by decide) rfl (fun ls hl => ?_)
            refine lv_goto (tgt := 31) hx hb dX4_carryOut_76 (by decide) ?_
            exact ih31 (l2 + 1) y13 hf _ _ hP hS ls (lv_sub hl [1, 0] rfl)
        · have hf := c9f c9
          refine lv_iload_n hx hb dX4_carryOut_79 rfl (lv_at hl 1 rfl) ?_
          obtain rfl := Option.some.inj hf
          exact xe_wi hx hb hr hlocks hS hP dX4_carryOut_80
    exact hL31  xFU 0 (s4_hi (s4_tx y t1) h5) hf _ _ hP hS ls (lv_sub hl [2, 0] rfl)
  · have hf := c4f c4
    refine xk_bipush hx hb dX4_carryOut_13 (by decide) ?_
    refine lv_iload_n hx hb dX4_carryOut_15 rfl (lv_at hl 0 rfl) ?_
    refine xk_isub hx hb dX4_carryOut_16 ?_
    obtain rfl := Option.some.inj hf
    exact xe_wi hx hb hr hlocks hS hP dX4_carryOut_17
theorem cdX4_carryOut : yX4_carryOut.cls = RX4 ∧ yX4_carryOut.cls ≠ "java/lang/invoke/MethodHandle" ∧ yX4_carryOut.cls ≠ "java/lang/invoke/VarHandle" ∧ (parseMethodDescriptor yX4_carryOut.desc).map (fun d => d.parameters.length) = some 0 := by decide +kernel

set_option maxHeartbeats 4000000 in
set_option maxRecDepth 100000 in
theorem c4_undo (l : Launch) (hlS : l.stackTraces = false) (dC : Nat → ClassId) (dI : Nat → Nat → Nat) (cs : Nat → ClassId) (a : Nat → Nat) (sz : Nat) (y : BrS) (res : Int × Int × BrS) (hf : f4_undo y = some res) : vx_Met l yX4_undo wsX4_undo ({ frames := 6, cells := 1, slots := 6, locals := 82 } : Room) (va_Pc [.ref (a 0)] (xPX (dC, dI) vwCl (w4 cs a y) (xT cs) sz)) (xQx (dC, dI) vwCl (w4 cs a y) (w4 cs a res.2.2) sz res.1 res.2.1) (xXx (dC, dI) vwCl (w4 cs a y) sz res.1) 1 6 (va_A (w4 cs a y) sz) := by
  refine vx_ofW (cc := cX4_undo) (maxL := 1) (ret := (some .int)) (by decide) rfl ?_
  intro p e s m args below meth c s₁ B hml htb hv
  obtain ⟨rfl, ⟨hsz, hP, hK, hD0⟩, hTh⟩ := hv
  have hx := B.exec
  have hb := B.bytes
  have hr := B.returns
  have hts := atoms_spec (ws := wsX4_undo) B.pre
  have hown : s.vm.findClass RX4 = some m.cls := findClass_of_methodNamed B.named
  have hlocks := B.notSynchronized
  have hE2 : ∀ w ∈ (vx_atS RX4 62 "java/lang/IllegalStateException" x_exn).filter goodWord, w ∈ wsX4_undo := by decide +kernel
  have hin4 : ∀ w ∈ wsX40, w ∈ wsX4_undo := by decide +kernel
  subst hsz
  have hD := hD0.self (sz := s.heap.size)
  have hA : ∀ z9 : Nat, s.heap.size ≤ z9 → va_A (w4 cs a y) s.heap.size z9 := fun z9 h => Or.inr h
  have hS : va_S (va_A (w4 cs a y) s.heap.size) s.heap s.heap [] := va_S.rf
  have hl := lv_entry [.ref (a 0)] (n := 1) (Nat.le_of_ble_eq_true rfl)
  rw [lg_entry_eq]
  generalize (lg_sl [.ref (a 0)] ++ List.replicate (1 - (lg_sl [.ref (a 0)]).length) Slot.unset).toArray = ls at hl ⊢
  have hl : lv_has ls 1 [(0, .ref (a 0))] := hl
  unfold f4_undo at hf
  refine lv_aload_n hx hb dX4_undo_0 rfl (lv_at hl 0 rfl) ?_
  refine va_get (D := (dC, dI)) (ci := 4) (v := .ref (a 31)) (C := RX4) (T := TX4) (N := 4) hx hb hts hin4 hown hK hP 0 rfl rfl 2 (by decide) (hts (.fieldLink RX4 22 "BoatRuns" "history" "LBoatRuns$History;") (by decide +kernel)) (fun _ h9 => h9) rfl dX4_undo_1 ?_
  obtain ⟨v1, ev1, hf⟩ := x_bind hf
  refine xc_ri (As := []) (rest := []) ⟨hx, hb, hml, hown, hts⟩ (c1_count l dC dI cs (x_sh a 31) (g4_hi y)  _ ev1) (cwV 0 hts gX4_undo_X1_count rfl rfl rfl cdX1_count ⟨Nat.le_of_ble_eq_true rfl, Nat.le_of_ble_eq_true rfl⟩) hK hP [31, 32, 33, 34, 35, 36, 37, 38, 39, 40, 41, 42, 43, 44, 45, 46, 47, 48, 49, 50, 51, 52, 53, 54, 55, 56, 57, 58, 59, 60, 61, 62, 63, 64, 65, 66, 67, 68, 69, 70, 71, 72, 73, 74, 75, 76, 77, 78, 79, 80, 81, 82, 83, 84, 85, 86, 87, 88, 89, 90, 91, 92] rfl 31 rfl rfl rfl hl.1 rfl (Nat.le_of_ble_eq_true rfl) dX4_undo_4 ⟨Nat.zero_le _, Nat.zero_le _⟩ ?_
  obtain ⟨c2a, c2b, c2t, c2f⟩ := x_eqE hf
  refine xk_if_ne (tgt := 20) hx hb c2a dX4_undo_7 (by decide) (fun c2 => ?_) (fun c2 => ?_)
  · have hf := c2t c2
    obtain rfl := Option.some.inj hf
    obtain ⟨sa9, hsa⟩ := hTh.2.2 (208, "there is no saved state") (by decide)
    exact vx_throwS (own := RX4) (cls := "java/lang/IllegalStateException") (names := x_exn) (ik := 58) (is := 208) (ic := 62) (text := "there is no saved state") hx hb hlS hown (by decide) (by decide) (hts (.classLink RX4 58 "java/lang/IllegalStateException") (by decide +kernel)) (hts (.initialized "java/lang/IllegalStateException") (by decide +kernel)) hsa (vx_hat (fun w hw => hts w (hE2 w hw)) (B := []) xn_2 vx_n) xg_2 hTh.1 hTh.2.1 hS (hl.1.trans hml.symm) dX4_undo_10 dX4_undo_13 dX4_undo_14 dX4_undo_16 dX4_undo_19 (fun x hx9 => (htb x hx9).elim) (Nat.le_of_ble_eq_true rfl) (Nat.le_of_ble_eq_true rfl) (Nat.le_of_ble_eq_true rfl) (Nat.le_of_ble_eq_true rfl) hlocks (fun t hvm hz hk => xe_thx (by decide) rfl hP hS hz hk) hS.2.2 (Nat.le_refl _) (Nat.le_refl _)
  · have hf := c2f c2
    refine lv_aload_n hx hb dX4_undo_20 rfl (lv_at hl 0 rfl) ?_
    refine va_get (D := (dC, dI)) (ci := 4) (v := .ref (a 31)) (C := RX4) (T := TX4) (N := 4) hx hb hts hin4 hown hK hP 0 rfl rfl 2 (by decide) (hts (.fieldLink RX4 22 "BoatRuns" "history" "LBoatRuns$History;") (by decide +kernel)) (fun _ h9 => h9) rfl dX4_undo_21 ?_
    refine lv_aload_n hx hb dX4_undo_24 rfl (lv_at hl 0 rfl) ?_
    refine va_get (D := (dC, dI)) (ci := 4) (v := .ref (a 1)) (C := RX4) (T := TX4) (N := 4) hx hb hts hin4 hown hK hP 0 rfl rfl 0 (by decide) (hts (.fieldLink RX4 10 "BoatRuns" "boat" "LBoatRuns$Boat;") (by decide +kernel)) (fun _ h9 => h9) rfl dX4_undo_25 ?_
    obtain ⟨⟨h3, b4⟩, eh3, hf⟩ := x_bind hf
    refine xc_wv (As := [.ref (a 1)]) (rest := []) ⟨hx, hb, hml, hown, hts⟩ (c1_restore l dC dI cs (x_sh a 31) (x_sh a 1) _ (g4_hi y) (g4_bo y)  _ eh3) (cwV 1 hts gX4_undo_X1_restore rfl rfl rfl cdX1_restore ⟨Nat.le_of_ble_eq_true rfl, Nat.le_of_ble_eq_true rfl⟩) hK hP (x_addr hD rfl) hS hA [31, 32, 33, 34, 35, 36, 37, 38, 39, 40, 41, 42, 43, 44, 45, 46, 47, 48, 49, 50, 51, 52, 53, 54, 55, 56, 57, 58, 59, 60, 61, 62, 63, 64, 65, 66, 67, 68, 69, 70, 71, 72, 73, 74, 75, 76, 77, 78, 79, 80, 81, 82, 83, 84, 85, 86, 87, 88, 89, 90, 91, 92, 1, 2, 3, 4, 5, 6, 7, 8, 9, 10, 11, 12, 13, 14, 15] rfl (by decide) rfl 31 rfl rfl rfl hl.1 rfl (Nat.le_of_ble_eq_true rfl) dX4_undo_28 ⟨Nat.zero_le _, Nat.zero_le _⟩ (fun H locs hP hS => ?_)
    have hP : va_P (dC, dI) vwCl (w4C cs a b4 (g4_tr y) h3 (g4_tx y)) H := hP
    refine lv_aload_n hx hb dX4_undo_31 rfl (lv_at hl 0 rfl) ?_
    refine va_get (D := (dC, dI)) (ci := 4) (v := .ref (a 31)) (C := RX4) (T := TX4) (N := 4) hx hb hts hin4 hown hK hP 0 rfl rfl 2 (by decide) (hts (.fieldLink RX4 22 "BoatRuns" "history" "LBoatRuns$History;") (by decide +kernel)) (fun _ h9 => h9) rfl dX4_undo_32 ?_
    obtain ⟨v5, ev5, hf⟩ := x_bind hf
    refine xc_ri (As := []) (rest := []) ⟨hx, hb, hml, hown, hts⟩ (c1_count l dC dI cs (x_sh a 31) h3  _ ev5) (cwV 0 hts gX4_undo_X1_count rfl rfl rfl cdX1_count ⟨Nat.le_of_ble_eq_true rfl, Nat.le_of_ble_eq_true rfl⟩) hK hP [31, 32, 33, 34, 35, 36, 37, 38, 39, 40, 41, 42, 43, 44, 45, 46, 47, 48, 49, 50, 51, 52, 53, 54, 55, 56, 57, 58, 59, 60, 61, 62, 63, 64, 65, 66, 67, 68, 69, 70, 71, 72, 73, 74, 75, 76, 77, 78, 79, 80, 81, 82, 83, 84, 85, 86, 87, 88, 89, 90, 91, 92] rfl 31 rfl rfl rfl hl.1 rfl (Nat.le_of_ble_eq_true rfl) dX4_undo_35 ⟨Nat.zero_le _, Nat.zero_le _⟩ ?_
    obtain rfl := Option.some.inj hf
    refine W.widen (k := 1) (n := 6) (by decide) (by decide) ?_
    exact vx_ret (xe_xi hx hb hr hlocks hS hP rfl dX4_undo_38)
theorem cdX4_undo : yX4_undo.cls = RX4 ∧ yX4_undo.cls ≠ "java/lang/invoke/MethodHandle" ∧ yX4_undo.cls ≠ "java/lang/invoke/VarHandle" ∧ (parseMethodDescriptor yX4_undo.desc).map (fun d => d.parameters.length) = some 0 := by decide +kernel

set_option maxHeartbeats 4000000 in
set_option maxRecDepth 100000 in
theorem c4_mixed (l : Launch) (p0 : Int) (p1 : Int) (res : Int) (hf : f4_mixed p0 p1 = some res) : Met l yX4_mixed wsX4_mixed ({ frames := 0, cells := 0, slots := 0, locals := 0 } : Room) (va_Pc [.long (iL p0), .int (iI p1)] (fun _ => True)) (vp_Sl (fun r => r = iL res)) 0 0 (fun _ => False) := by
  refine Met.ofW (cc := cX4_mixed) (maxL := 3) (ret := (some .long)) (by decide) rfl ?_
  intro p e s m args below meth c s₁ B hml hv
  obtain ⟨rfl, -⟩ := hv
  have hx := B.exec
  have hb := B.bytes
  have hr := B.returns
  have hts := atoms_spec (ws := wsX4_mixed) B.pre
  have hown : s.vm.findClass RX4 = some m.cls := findClass_of_methodNamed B.named
  have hlocks := B.notSynchronized
  have hl := lv_entry [.long (iL p0), .int (iI p1)] (n := 3) (Nat.le_of_ble_eq_true rfl)
  rw [lg_entry_eq]
  generalize (lg_sl [.long (iL p0), .int (iI p1)] ++ List.replicate (3 - (lg_sl [.long (iL p0), .int (iI p1)]).length) Slot.unset).toArray = ls at hl ⊢
  have hl : lv_has ls 3 [(0, .long (iL p0)), (2, .int (iI p1))] := hl
  unfold f4_mixed at hf
  refine xk_ldc2 (n := 31) hx hb hown (hts (.constantLong RX4 225 (31)) (by decide +kernel)) dX4_mixed_0 (by decide) ?_
  refine lv_lload_n hx hb dX4_mixed_3 rfl (lv_at hl 0 rfl) ?_
  refine xk_lmul hx hb dX4_mixed_4 ?_
  refine lv_iload_n hx hb dX4_mixed_5 rfl (lv_at hl 1 rfl) ?_
  obtain ⟨hc, hf⟩ := x_ckE hf
  refine xk_i2l hx hb hc dX4_mixed_6 ?_
  refine xk_ladd hx hb dX4_mixed_7 ?_
  obtain rfl := Option.some.inj hf
  exact xe_rl hx hb hr hlocks dX4_mixed_8 rfl
theorem cdX4_mixed : yX4_mixed.cls ≠ "java/lang/invoke/MethodHandle" ∧ yX4_mixed.cls ≠ "java/lang/invoke/VarHandle" ∧ (parseMethodDescriptor yX4_mixed.desc).map (fun d => d.parameters.length) = some 2 := by decide +kernel

set_option maxHeartbeats 4000000 in
set_option maxRecDepth 100000 in
theorem c4_digest (l : Launch) (dC : Nat → ClassId) (dI : Nat → Nat → Nat) (cs : Nat → ClassId) (a : Nat → Nat) (sz : Nat) (y : BrS) (res : Int × BrS) (hf : f4_digest y = some res) : Met l yX4_digest wsX4_digest ({ frames := 6, cells := 0, slots := 0, locals := 138 } : Room) (va_Pc [.ref (a 0)] (xPW (dC, dI) vwCl (w4 cs a y) (xT cs) sz)) (xQl (dC, dI) vwCl (w4 cs a y) (w4 cs a res.2) sz res.1) 0 0 (va_A (w4 cs a y) sz) := by
  refine Met.ofW (cc := cX4_digest) (maxL := 6) (ret := (some .long)) (by decide) rfl ?_
  intro p e s m args below meth c s₁ B hml hv
  obtain ⟨rfl, hsz, hP, hK, hD0⟩ := hv
  have hx := B.exec
  have hb := B.bytes
  have hr := B.returns
  have hts := atoms_spec (ws := wsX4_digest) B.pre
  have hown : s.vm.findClass RX4 = some m.cls := findClass_of_methodNamed B.named
  have hlocks := B.notSynchronized
  have hin4 : ∀ w ∈ wsX40, w ∈ wsX4_digest := by decide +kernel
  subst hsz
  have hD := hD0.self (sz := s.heap.size)
  have hA : ∀ z9 : Nat, s.heap.size ≤ z9 → va_A (w4 cs a y) s.heap.size z9 := fun z9 h => Or.inr h
  have hS : va_S (va_A (w4 cs a y) s.heap.size) s.heap s.heap [] := va_S.rf
  have hl := lv_entry [.ref (a 0)] (n := 6) (Nat.le_of_ble_eq_true rfl)
  rw [lg_entry_eq]
  generalize (lg_sl [.ref (a 0)] ++ List.replicate (6 - (lg_sl [.ref (a 0)]).length) Slot.unset).toArray = ls at hl ⊢
  have hl : lv_has ls 6 [(0, .ref (a 0))] := hl
  unfold f4_digest at hf
  refine xk_ldc2 (n := 3691) hx hb hown (hts (.constantLong RX4 213 (3691)) (by decide +kernel)) dX4_digest_0 (by decide) ?_
  refine lv_aload_n hx hb dX4_digest_3 rfl (lv_at hl 0 rfl) ?_
  refine va_get (D := (dC, dI)) (ci := 4) (v := .ref (a 93)) (C := RX4) (T := TX4) (N := 4) hx hb hts hin4 hown hK hP 0 rfl rfl 3 (by decide) (hts (.fieldLink RX4 29 "BoatRuns" "text" "LBoatRuns$Text;") (by decide +kernel)) (fun _ h9 => h9) rfl dX4_digest_4 ?_
  obtain ⟨v1, ev1, hf⟩ := x_bind hf
  refine xc_ri (As := []) (rest := [.long (iL 3691)]) ⟨hx, hb, hml, hown, hts⟩ (c3_length l dC dI cs (x_sh a 93) (g4_tx y)  _ ev1) (cwV 0 hts gX4_digest_X3_length rfl rfl rfl cdX3_length ⟨Nat.le_of_ble_eq_true rfl, Nat.le_of_ble_eq_true rfl⟩) hK hP [93, 94, 95, 96, 97, 98, 99, 100, 101] rfl 93 rfl rfl rfl hl.1 rfl (Nat.le_of_ble_eq_true rfl) dX4_digest_7 ⟨Nat.zero_le _, Nat.zero_le _⟩ ?_
  obtain ⟨v2, ev2, hf⟩ := x_bind hf
  refine xc_sl (As := [.long (iL 3691), .int (iI v1)]) (rest := []) ⟨hx, hb, hml, hown, hts⟩ (c4_mixed l 3691 v1 _ ev2) (va_cwS 2 hts gX4_digest_X4_mixed rfl rfl rfl cdX4_mixed ⟨Nat.le_of_ble_eq_true rfl, Nat.le_of_ble_eq_true rfl⟩) rfl hl.1 rfl (Nat.le_of_ble_eq_true rfl) dX4_digest_10 ⟨Nat.zero_le _, Nat.zero_le _⟩ ?_
  refine lv_lstore_n (lv' := [(1, .long (iL v2)), (0, .ref (a 0))]) hx hb dX4_digest_13 rfl hl (by decide) rfl (fun ls hl => ?_)
  refine xk_iconst hx hb dX4_digest_14 ?_
  refine lv_istore_n (lv' := [(3, .int (iI 0)), (1, .long (iL v2)), (0, .ref (a 0))]) hx hb dX4_digest_15 rfl hl (by decide) rfl (fun ls hl => ?_)
  have hL16 : ∀ (n3 : Nat) (l1 : Int) (l3 : Int), f4_digest_L16 y n3 l1 l3 = some res → ∀ (ls : Array Slot), lv_has ls 6 [(0, .ref (a 0)), (1, .long (iL l1)), (3, .int (iI l3))] → W p l e (headSpec wsX4_digest ({ frames := 6, cells := 0, slots := 0, locals := 138 } : Room)).room s m ([.ref (a 0)] : List Value).toArray below meth c s.heap [] 0 0 (MQ below (xQl (dC, dI) vwCl (w4 cs a y) (w4 cs a res.2) s.heap.size res.1) ([.ref (a 0)] : List Value).toArray s 0 0 (va_A (w4 cs a y) s.heap.size)) (F0 m 16 ls []) := by
    intro  n3
    induction n3 with
    | zero => intro l1 l3 hf; have hf : (none : Option (Int × BrS)) = some res := hf; cases hf
    | succ n3 ih16 =>
      intro l1 l3 hf ls hl
      rw [f4_digest_L16] at hf
      refine lv_iload_n hx hb dX4_digest_16 rfl (lv_at hl 2 rfl) ?_
      refine xk_bipush hx hb dX4_digest_17 (by decide) ?_
      obtain ⟨c4a, c4b, c4t, c4f⟩ := x_ltE hf
      refine xk_icmp_ge (tgt := 41) hx hb c4a c4b dX4_digest_19 (by decide) (fun c4 => ?_) (fun c4 => ?_)
      · have hf := c4t c4
        refine lv_lload_n hx hb dX4_digest_22 rfl (lv_at hl 1 rfl) ?_
        refine lv_aload_n hx hb dX4_digest_23 rfl (lv_at hl 0 rfl) ?_
        refine va_get (D := (dC, dI)) (ci := 4) (v := .ref (a 1)) (C := RX4) (T := TX4) (N := 4) hx hb hts hin4 hown hK hP 0 rfl rfl 0 (by decide) (hts (.fieldLink RX4 10 "BoatRuns" "boat" "LBoatRuns$Boat;") (by decide +kernel)) (fun _ h9 => h9) rfl dX4_digest_24 ?_
        refine lv_iload_n hx hb dX4_digest_27 rfl (lv_at hl 2 rfl) ?_
        obtain ⟨v5, ev5, hf⟩ := x_bind hf
        refine xc_ri (As := [.int (iI l3)]) (rest := [.long (iL l1)]) ⟨hx, hb, hml, hown, hts⟩ (c0_number l dC dI cs (x_sh a 1) (g4_bo y) l3  _ ev5) (cwV 1 hts gX4_digest_X0_number rfl rfl rfl cdX0_number ⟨Nat.le_of_ble_eq_true rfl, Nat.le_of_ble_eq_true rfl⟩) hK hP [1, 2, 3, 4, 5, 6, 7, 8, 9, 10, 11, 12, 13, 14, 15] rfl 1 rfl rfl rfl hl.1 rfl (Nat.le_of_ble_eq_true rfl) dX4_digest_28 ⟨Nat.zero_le _, Nat.zero_le _⟩ ?_
        obtain ⟨v6, ev6, hf⟩ := x_bind hf
        refine xc_sl (As := [.long (iL l1), .int (iI v5)]) (rest := []) ⟨hx, hb, hml, hown, hts⟩ (c4_mixed l l1 v5 _ ev6) (va_cwS 2 hts gX4_digest_X4_mixed rfl rfl rfl cdX4_mixed ⟨Nat.le_of_ble_eq_true rfl, Nat.le_of_ble_eq_true rfl⟩) rfl hl.1 rfl (Nat.le_of_ble_eq_true rfl) dX4_digest_31 ⟨Nat.zero_le _, Nat.zero_le _⟩ ?_
        refine lv_lstore_n (lv' := [(1, .long (iL v6)), (0, .ref (a 0)), (3, .int (iI l3))]) hx hb dX4_digest_34 rfl hl (by decide) rfl (fun ls hl => ?_)
        refine xk_iinc (lv' := [(3, .int (iI (l3 + 1))), (1, .long (iL v6)), (0, .ref (a 0))]) hx hb dX4_digest_35 hl (k := 2) rfl (by decide) rfl (fun ls hl => ?_)
        refine lv_goto (tgt := 16) hx hb dX4_digest_38 (by decide) ?_
        exact ih16 v6 (l3 + 1) hf ls (lv_sub hl [2, 1, 0] rfl)
      · have hf := c4f c4
        refine xk_iconst hx hb dX4_digest_41 ?_
        refine lv_istore_n (lv' := [(3, .int (iI 0)), (0, .ref (a 0)), (1, .long (iL l1))]) hx hb dX4_digest_42 rfl hl (by decide) rfl (fun ls hl => ?_)
        have hL43 : ∀ (n7 : Nat) (l1x : Int) (l3x : Int), f4_digest_L43 y n7 l1x l3x = some res → ∀ (ls : Array Slot), lv_has ls 6 [(0, .ref (a 0)), (1, .long (iL l1x)), (3, .int (iI l3x))] → W p l e (headSpec wsX4_digest ({ frames := 6, cells := 0, slots := 0, locals := 138 } : Room)).room s m ([.ref (a 0)] : List Value).toArray below meth c s.heap [] 0 0 (MQ below (xQl (dC, dI) vwCl (w4 cs a y) (w4 cs a res.2) s.heap.size res.1) ([.ref (a 0)] : List Value).toArray s 0 0 (va_A (w4 cs a y) s.heap.size)) (F0 m 43 ls []) := by
          intro  n7
          induction n7 with
          | zero => intro l1x l3x hf; have hf : (none : Option (Int × BrS)) = some res := hf; cases hf
          | succ n7 ih43 =>
            intro l1x l3x hf ls hl
            rw [f4_digest_L43] at hf
            refine lv_iload_n hx hb dX4_digest_43 rfl (lv_at hl 2 rfl) ?_
            refine lv_aload_n hx hb dX4_digest_44 rfl (lv_at hl 0 rfl) ?_
            refine va_get (D := (dC, dI)) (ci := 4) (v := .ref (a 1)) (C := RX4) (T := TX4) (N := 4) hx hb hts hin4 hown hK hP 0 rfl rfl 0 (by decide) (hts (.fieldLink RX4 10 "BoatRuns" "boat" "LBoatRuns$Boat;") (by decide +kernel)) (fun _ h9 => h9) rfl dX4_digest_45 ?_
            obtain ⟨v8, ev8, hf⟩ := x_bind hf
            refine xc_ri (As := []) (rest := [.int (iI l3x)]) ⟨hx, hb, hml, hown, hts⟩ (c0_loaded l dC dI cs (x_sh a 1) (g4_bo y)  _ ev8) (cwV 0 hts gX4_digest_X0_loaded rfl rfl rfl cdX0_loaded ⟨Nat.le_of_ble_eq_true rfl, Nat.le_of_ble_eq_true rfl⟩) hK hP [1, 2, 3, 4, 5, 6, 7, 8, 9, 10, 11, 12, 13, 14, 15] rfl 1 rfl rfl rfl hl.1 rfl (Nat.le_of_ble_eq_true rfl) dX4_digest_48 ⟨Nat.zero_le _, Nat.zero_le _⟩ ?_
            obtain ⟨c9a, c9b, c9t, c9f⟩ := x_ltE hf
            refine xk_icmp_ge (tgt := 90) hx hb c9a c9b dX4_digest_51 (by decide) (fun c9 => ?_) (fun c9 => ?_)
            · have hf := c9t c9
              refine xk_iconst hx hb dX4_digest_54 ?_
              refine lv_istore (lv' := [(4, .int (iI 0)), (0, .ref (a 0)), (1, .long (iL l1x)), (3, .int (iI l3x))]) hx hb dX4_digest_55 hl (by decide) rfl (fun ls hl => ?_)
              have hL57 : ∀ (n10 : Nat) (l1xx : Int) (l4 : Int), f4_digest_L57 y l3x (f4_digest_L43 y n7) n10 l1xx l4 = some res → ∀ (ls : Array Slot), lv_has ls 6 [(0, .ref (a 0)), (1, .long (iL l1xx)), (3, .int (iI l3x)), (4, .int (iI l4))] → W p l e (headSpec wsX4_digest ({ frames := 6, cells := 0, slots := 0, locals := 138 } : Room)).room s m ([.ref (a 0)] : List Value).toArray below meth c s.heap [] 0 0 (MQ below (xQl (dC, dI) vwCl (w4 cs a y) (w4 cs a res.2) s.heap.size res.1) ([.ref (a 0)] : List Value).toArray s 0 0 (va_A (w4 cs a y) s.heap.size)) (F0 m 57 ls []) := by
                intro  n10
                induction n10 with
                | zero => intro l1xx l4 hf; have hf : (none : Option (Int × BrS)) = some res := hf; cases hf
                | succ n10 ih57 =>
                  intro l1xx l4 hf ls hl
                  rw [f4_digest_L57] at hf
                  refine lv_iload hx hb dX4_digest_57 (lv_at hl 3 rfl) ?_
                  refine xk_iconst hx hb dX4_digest_59 ?_
                  obtain ⟨c11a, c11b, c11t, c11f⟩ := x_ltE hf
                  refine xk_icmp_ge (tgt := 84) hx hb c11a c11b dX4_digest_60 (by decide) (fun c11 => ?_) (fun c11 => ?_)
                  · have hf := c11t c11
                    refine lv_lload_n hx hb dX4_digest_63 rfl (lv_at hl 1 rfl) ?_
                    refine lv_aload_n hx hb dX4_digest_64 rfl (lv_at hl 0 rfl) ?_
                    refine va_get (D := (dC, dI)) (ci := 4) (v := .ref (a 1)) (C := RX4) (T := TX4) (N := 4) hx hb hts hin4 hown hK hP 0 rfl rfl 0 (by decide) (hts (.fieldLink RX4 10 "BoatRuns" "boat" "LBoatRuns$Boat;") (by decide +kernel)) (fun _ h9 => h9) rfl dX4_digest_65 ?_
                    refine lv_iload_n hx hb dX4_digest_68 rfl (lv_at hl 2 rfl) ?_
                    refine lv_iload hx hb dX4_digest_69 (lv_at hl 3 rfl) ?_
                    obtain ⟨v12, ev12, hf⟩ := x_bind hf
                    refine xc_ri (As := [.int (iI l3x), .int (iI l4)]) (rest := [.long (iL l1xx)]) ⟨hx, hb, hml, hown, hts⟩ (c0_parcelFact l dC dI cs (x_sh a 1) (g4_bo y) l3x l4  _ ev12) (cwV 2 hts gX4_digest_X0_parcelFact rfl rfl rfl cdX0_parcelFact ⟨Nat.le_of_ble_eq_true rfl, Nat.le_of_ble_eq_true rfl⟩) hK hP [1, 2, 3, 4, 5, 6, 7, 8, 9, 10, 11, 12, 13, 14, 15] rfl 1 rfl rfl rfl hl.1 rfl (Nat.le_of_ble_eq_true rfl) dX4_digest_71 ⟨Nat.zero_le _, Nat.zero_le _⟩ ?_
                    obtain ⟨v13, ev13, hf⟩ := x_bind hf
                    refine xc_sl (As := [.long (iL l1xx), .int (iI v12)]) (rest := []) ⟨hx, hb, hml, hown, hts⟩ (c4_mixed l l1xx v12 _ ev13) (va_cwS 2 hts gX4_digest_X4_mixed rfl rfl rfl cdX4_mixed ⟨Nat.le_of_ble_eq_true rfl, Nat.le_of_ble_eq_true rfl⟩) rfl hl.1 rfl (Nat.le_of_ble_eq_true rfl) dX4_digest_74 ⟨Nat.zero_le _, Nat.zero_le _⟩ ?_
                    refine lv_lstore_n (lv' := [(1, .long (iL v13)), (0, .ref (a 0)), (3, .int (iI l3x)), (4, .int (iI l4))]) hx hb dX4_digest_77 rfl hl (by decide) rfl (fun ls hl => ?_)
                    refine xk_iinc (lv' := [(4, .int (iI (l4 + 1))), (1, .long (iL v13)), (0, .ref (a 0)), (3, .int (iI l3x))]) hx hb dX4_digest_78 hl (k := 3) rfl (by decide) rfl (fun ls hl => ?_)
                    refine lv_goto (tgt := 57) hx hb dX4_digest_81 (by decide) ?_
                    exact ih57 v13 (l4 + 1) hf ls (lv_sub hl [2, 1, 3, 0] rfl)
                  · have hf := c11f c11
                    refine xk_iinc (lv' := [(3, .int (iI (l3x + 1))), (0, .ref (a 0)), (1, .long (iL l1xx)), (4, .int (iI l4))]) hx hb dX4_digest_84 hl (k := 2) rfl (by decide) rfl (fun ls hl => ?_)
                    refine lv_goto (tgt := 43) hx hb dX4_digest_87 (by decide) ?_
                    exact ih43 l1xx (l3x + 1) hf ls (lv_sub hl [1, 2, 0] rfl)
              exact hL57  xFU l1x 0 hf ls (lv_sub hl [1, 2, 3, 0] rfl)
            · have hf := c9f c9
              refine xk_iconst hx hb dX4_digest_90 ?_
              refine lv_istore_n (lv' := [(3, .int (iI 0)), (0, .ref (a 0)), (1, .long (iL l1x))]) hx hb dX4_digest_91 rfl hl (by decide) rfl (fun ls hl => ?_)
              have hL92 : ∀ (n14 : Nat) (l1xxx : Int) (l3xx : Int), f4_digest_L92 y n14 l1xxx l3xx = some res → ∀ (ls : Array Slot), lv_has ls 6 [(0, .ref (a 0)), (1, .long (iL l1xxx)), (3, .int (iI l3xx))] → W p l e (headSpec wsX4_digest ({ frames := 6, cells := 0, slots := 0, locals := 138 } : Room)).room s m ([.ref (a 0)] : List Value).toArray below meth c s.heap [] 0 0 (MQ below (xQl (dC, dI) vwCl (w4 cs a y) (w4 cs a res.2) s.heap.size res.1) ([.ref (a 0)] : List Value).toArray s 0 0 (va_A (w4 cs a y) s.heap.size)) (F0 m 92 ls []) := by
                intro  n14
                induction n14 with
                | zero => intro l1xxx l3xx hf; have hf : (none : Option (Int × BrS)) = some res := hf; cases hf
                | succ n14 ih92 =>
                  intro l1xxx l3xx hf ls hl
                  rw [f4_digest_L92] at hf
                  refine lv_iload_n hx hb dX4_digest_92 rfl (lv_at hl 2 rfl) ?_
                  refine lv_aload_n hx hb dX4_digest_93 rfl (lv_at hl 0 rfl) ?_
                  refine va_get (D := (dC, dI)) (ci := 4) (v := .ref (a 1)) (C := RX4) (T := TX4) (N := 4) hx hb hts hin4 hown hK hP 0 rfl rfl 0 (by decide) (hts (.fieldLink RX4 10 "BoatRuns" "boat" "LBoatRuns$Boat;") (by decide +kernel)) (fun _ h9 => h9) rfl dX4_digest_94 ?_
                  obtain ⟨v15, ev15, hf⟩ := x_bind hf
                  refine xc_ri (As := []) (rest := [.int (iI l3xx)]) ⟨hx, hb, hml, hown, hts⟩ (c0_runs l dC dI cs (x_sh a 1) (g4_bo y)  _ ev15) (cwV 0 hts gX4_digest_X0_runs rfl rfl rfl cdX0_runs ⟨Nat.le_of_ble_eq_true rfl, Nat.le_of_ble_eq_true rfl⟩) hK hP [1, 2, 3, 4, 5, 6, 7, 8, 9, 10, 11, 12, 13, 14, 15] rfl 1 rfl rfl rfl hl.1 rfl (Nat.le_of_ble_eq_true rfl) dX4_digest_97 ⟨Nat.zero_le _, Nat.zero_le _⟩ ?_
                  obtain ⟨c16a, c16b, c16t, c16f⟩ := x_ltE hf
                  refine xk_icmp_ge (tgt := 158) hx hb c16a c16b dX4_digest_100 (by decide) (fun c16 => ?_) (fun c16 => ?_)
                  · have hf := c16t c16
                    refine lv_aload_n hx hb dX4_digest_103 rfl (lv_at hl 0 rfl) ?_
                    refine va_get (D := (dC, dI)) (ci := 4) (v := .ref (a 1)) (C := RX4) (T := TX4) (N := 4) hx hb hts hin4 hown hK hP 0 rfl rfl 0 (by decide) (hts (.fieldLink RX4 10 "BoatRuns" "boat" "LBoatRuns$Boat;") (by decide +kernel)) (fun _ h9 => h9) rfl dX4_digest_104 ?_
                    refine lv_iload_n hx hb dX4_digest_107 rfl (lv_at hl 2 rfl) ?_
                    obtain ⟨v17, ev17, hf⟩ := x_bind hf
                    refine xc_ri (As := [.int (iI l3xx)]) (rest := []) ⟨hx, hb, hml, hown, hts⟩ (c0_runNumber l dC dI cs (x_sh a 1) (g4_bo y) l3xx  _ ev17) (cwV 1 hts gX4_digest_X0_runNumber rfl rfl rfl cdX0_runNumber ⟨Nat.le_of_ble_eq_true rfl, Nat.le_of_ble_eq_true rfl⟩) hK hP [1, 2, 3, 4, 5, 6, 7, 8, 9, 10, 11, 12, 13, 14, 15] rfl 1 rfl rfl rfl hl.1 rfl (Nat.le_of_ble_eq_true rfl) dX4_digest_108 ⟨Nat.zero_le _, Nat.zero_le _⟩ ?_
                    refine lv_istore (lv' := [(4, .int (iI v17)), (0, .ref (a 0)), (1, .long (iL l1xxx)), (3, .int (iI l3xx))]) hx hb dX4_digest_111 hl (by decide) rfl (fun ls hl => ?_)
                    refine lv_lload_n hx hb dX4_digest_113 rfl (lv_at hl 2 rfl) ?_
                    refine lv_iload hx hb dX4_digest_114 (lv_at hl 0 rfl) ?_
                    obtain ⟨v18, ev18, hf⟩ := x_bind hf
                    refine xc_sl (As := [.long (iL l1xxx), .int (iI v17)]) (rest := []) ⟨hx, hb, hml, hown, hts⟩ (c4_mixed l l1xxx v17 _ ev18) (va_cwS 2 hts gX4_digest_X4_mixed rfl rfl rfl cdX4_mixed ⟨Nat.le_of_ble_eq_true rfl, Nat.le_of_ble_eq_true rfl⟩) rfl hl.1 rfl (Nat.le_of_ble_eq_true rfl) dX4_digest_116 ⟨Nat.zero_le _, Nat.zero_le _⟩ ?_
                    refine lv_lstore_n (lv' := [(1, .long (iL v18)), (4, .int (iI v17)), (0, .ref (a 0)), (3, .int (iI l3xx))]) hx hb dX4_digest_119 rfl hl (by decide) rfl (fun ls hl => ?_)
                    refine xk_iconst hx hb dX4_digest_120 ?_
                    refine lv_istore (lv' := [(5, .int (iI 0)), (1, .long (iL v18)), (4, .int (iI v17)), (0, .ref (a 0)), (3, .int (iI l3xx))]) hx hb dX4_digest_121 hl (by decide) rfl (fun ls hl => ?_)
                    have hL123 : ∀ (n19 : Nat) (l1xxxx : Int) (l5 : Int), f4_digest_L123 y l3xx v17 (f4_digest_L92 y n14) n19 l1xxxx l5 = some res → ∀ (ls : Array Slot), lv_has ls 6 [(0, .ref (a 0)), (1, .long (iL l1xxxx)), (3, .int (iI l3xx)), (4, .int (iI v17)), (5, .int (iI l5))] → W p l e (headSpec wsX4_digest ({ frames := 6, cells := 0, slots := 0, locals := 138 } : Room)).room s m ([.ref (a 0)] : List Value).toArray below meth c s.heap [] 0 0 (MQ below (xQl (dC, dI) vwCl (w4 cs a y) (w4 cs a res.2) s.heap.size res.1) ([.ref (a 0)] : List Value).toArray s 0 0 (va_A (w4 cs a y) s.heap.size)) (F0 m 123 ls []) := by
                      intro  n19
                      induction n19 with
                      | zero => intro l1xxxx l5 hf; have hf : (none : Option (Int × BrS)) = some res := hf; cases hf
                      | succ n19 ih123 =>
                        intro l1xxxx l5 hf ls hl
                        rw [f4_digest_L123] at hf
                        refine lv_iload hx hb dX4_digest_123 (lv_at hl 4 rfl) ?_
                        refine xk_bipush hx hb dX4_digest_125 (by decide) ?_
                        obtain ⟨c20a, c20b, c20t, c20f⟩ := x_ltE hf
                        refine xk_icmp_ge (tgt := 152) hx hb c20a c20b dX4_digest_127 (by decide) (fun c20 => ?_) (fun c20 => ?_)
                        · have hf := c20t c20
                          refine lv_lload_n hx hb dX4_digest_130 rfl (lv_at hl 1 rfl) ?_
                          refine lv_aload_n hx hb dX4_digest_131 rfl (lv_at hl 0 rfl) ?_
                          refine va_get (D := (dC, dI)) (ci := 4) (v := .ref (a 1)) (C := RX4) (T := TX4) (N := 4) hx hb hts hin4 hown hK hP 0 rfl rfl 0 (by decide) (hts (.fieldLink RX4 10 "BoatRuns" "boat" "LBoatRuns$Boat;") (by decide +kernel)) (fun _ h9 => h9) rfl dX4_digest_132 ?_
                          refine lv_iload hx hb dX4_digest_135 (lv_at hl 3 rfl) ?_
                          refine lv_iload hx hb dX4_digest_137 (lv_at hl 4 rfl) ?_
                          obtain ⟨v21, ev21, hf⟩ := x_bind hf
                          refine xc_ri (As := [.int (iI v17), .int (iI l5)]) (rest := [.long (iL l1xxxx)]) ⟨hx, hb, hml, hown, hts⟩ (c0_runFact l dC dI cs (x_sh a 1) (g4_bo y) v17 l5  _ ev21) (cwV 2 hts gX4_digest_X0_runFact rfl rfl rfl cdX0_runFact ⟨Nat.le_of_ble_eq_true rfl, Nat.le_of_ble_eq_true rfl⟩) hK hP [1, 2, 3, 4, 5, 6, 7, 8, 9, 10, 11, 12, 13, 14, 15] rfl 1 rfl rfl rfl hl.1 rfl (Nat.le_of_ble_eq_true rfl) dX4_digest_139 ⟨Nat.zero_le _, Nat.zero_le _⟩ ?_
                          obtain ⟨v22, ev22, hf⟩ := x_bind hf
                          refine xc_sl (As := [.long (iL l1xxxx), .int (iI v21)]) (rest := []) ⟨hx, hb, hml, hown, hts⟩ (c4_mixed l l1xxxx v21 _ ev22) (va_cwS 2 hts gX4_digest_X4_mixed rfl rfl rfl cdX4_mixed ⟨Nat.le_of_ble_eq_true rfl, Nat.le_of_ble_eq_true rfl⟩) rfl hl.1 rfl (Nat.le_of_ble_eq_true rfl) dX4_digest_142 ⟨Nat.zero_le _, Nat.zero_le _⟩ ?_
                          refine lv_lstore_n (lv' := [(1, .long (iL v22)), (0, .ref (a 0)), (3, .int (iI l3xx)), (4, .int (iI v17)), (5, .int (iI l5))]) hx hb dX4_digest_145 rfl hl (by decide) rfl (fun ls hl => ?_)
                          refine xk_iinc (lv' := [(5, .int (iI (l5 + 1))), (1, .long (iL v22)), (0, .ref (a 0)), (3, .int (iI l3xx)), (4, .int (iI v17))]) hx hb dX4_digest_146 hl (k := 4) rfl (by decide) rfl (fun ls hl => ?_)
                          refine lv_goto (tgt := 123) hx hb dX4_digest_149 (by decide) ?_
                          exact ih123 v22 (l5 + 1) hf ls (lv_sub hl [2, 1, 3, 4, 0] rfl)
                        · have hf := c20f c20
                          refine xk_iinc (lv' := [(3, .int (iI (l3xx + 1))), (0, .ref (a 0)), (1, .long (iL l1xxxx)), (4, .int (iI v17)), (5, .int (iI l5))]) hx hb dX4_digest_152 hl (k := 2) rfl (by decide) rfl (fun ls hl => ?_)
                          refine lv_goto (tgt := 92) hx hb dX4_digest_155 (by decide) ?_
                          exact ih92 l1xxxx (l3xx + 1) hf ls (lv_sub hl [1, 2, 0] rfl)
                    exact hL123  xFU v18 0 hf ls (lv_sub hl [3, 1, 4, 2, 0] rfl)
                  · have hf := c16f c16
                    refine lv_lload_n hx hb dX4_digest_158 rfl (lv_at hl 1 rfl) ?_
                    refine lv_aload_n hx hb dX4_digest_159 rfl (lv_at hl 0 rfl) ?_
                    obtain ⟨v23, ev23, hf⟩ := x_bind hf
                    refine xc_ri (As := []) (rest := [.long (iL l1xxx)]) ⟨hx, hb, hml, hown, hts⟩ (c4_nextThrown l dC dI cs a y  _ ev23) (cwV 0 hts gX4_digest_X4_nextThrown rfl rfl rfl cdX4_nextThrown ⟨Nat.le_of_ble_eq_true rfl, Nat.le_of_ble_eq_true rfl⟩) hK hP [0, 1, 2, 3, 4, 5, 6, 7, 8, 9, 10, 11, 12, 13, 14, 15, 16, 17, 18, 19, 20, 21, 22, 23, 24, 25, 26, 27, 28, 29, 30, 31, 32, 33, 34, 35, 36, 37, 38, 39, 40, 41, 42, 43, 44, 45, 46, 47, 48, 49, 50, 51, 52, 53, 54, 55, 56, 57, 58, 59, 60, 61, 62, 63, 64, 65, 66, 67, 68, 69, 70, 71, 72, 73, 74, 75, 76, 77, 78, 79, 80, 81, 82, 83, 84, 85, 86, 87, 88, 89, 90, 91, 92, 93, 94, 95, 96, 97, 98, 99, 100, 101] rfl 0 rfl rfl rfl hl.1 rfl (Nat.le_of_ble_eq_true rfl) dX4_digest_160 ⟨Nat.zero_le _, Nat.zero_le _⟩ ?_
                    obtain ⟨v24, ev24, hf⟩ := x_bind hf
                    refine xc_sl (As := [.long (iL l1xxx), .int (iI v23)]) (rest := []) ⟨hx, hb, hml, hown, hts⟩ (c4_mixed l l1xxx v23 _ ev24) (va_cwS 2 hts gX4_digest_X4_mixed rfl rfl rfl cdX4_mixed ⟨Nat.le_of_ble_eq_true rfl, Nat.le_of_ble_eq_true rfl⟩) rfl hl.1 rfl (Nat.le_of_ble_eq_true rfl) dX4_digest_163 ⟨Nat.zero_le _, Nat.zero_le _⟩ ?_
                    refine lv_lstore_n (lv' := [(1, .long (iL v24)), (0, .ref (a 0)), (3, .int (iI l3xx))]) hx hb dX4_digest_166 rfl hl (by decide) rfl (fun ls hl => ?_)
                    refine lv_lload_n hx hb dX4_digest_167 rfl (lv_at hl 0 rfl) ?_
                    refine lv_aload_n hx hb dX4_digest_168 rfl (lv_at hl 1 rfl) ?_
                    obtain ⟨⟨v26, y25⟩, ey25, hf⟩ := x_bind hf
                    refine xc_wi (As := []) (rest := [.long (iL v24)]) ⟨hx, hb, hml, hown, hts⟩ (c4_costByWeight l dC dI cs a _ y  _ ey25) (cwV 0 hts gX4_digest_X4_costByWeight rfl rfl rfl cdX4_costByWeight ⟨Nat.le_of_ble_eq_true rfl, Nat.le_of_ble_eq_true rfl⟩) hK hP (x_addr hD rfl) hS hA [0, 1, 2, 3, 4, 5, 6, 7, 8, 9, 10, 11, 12, 13, 14, 15, 16, 17, 18, 19, 20, 21, 22, 23, 24, 25, 26, 27, 28, 29, 30, 31, 32, 33, 34, 35, 36, 37, 38, 39, 40, 41, 42, 43, 44, 45, 46, 47, 48, 49, 50, 51, 52, 53, 54, 55, 56, 57, 58, 59, 60, 61, 62, 63, 64, 65, 66, 67, 68, 69, 70, 71, 72, 73, 74, 75, 76, 77, 78, 79, 80, 81, 82, 83, 84, 85, 86, 87, 88, 89, 90, 91, 92, 93, 94, 95, 96, 97, 98, 99, 100, 101] rfl (by decide) rfl 0 rfl rfl rfl hl.1 rfl (Nat.le_of_ble_eq_true rfl) dX4_digest_169 ⟨Nat.zero_le _, Nat.zero_le _⟩ (fun H locs hP hS => ?_)
                    have hP : va_P (dC, dI) vwCl (w4 cs a y25) H := hP
                    obtain ⟨v28, ev28, hf⟩ := x_bind hf
                    refine xc_sl (As := [.long (iL v24), .int (iI v26)]) (rest := []) ⟨hx, hb, hml, hown, hts⟩ (c4_mixed l v24 v26 _ ev28) (va_cwS 2 hts gX4_digest_X4_mixed rfl rfl rfl cdX4_mixed ⟨Nat.le_of_ble_eq_true rfl, Nat.le_of_ble_eq_true rfl⟩) rfl hl.1 rfl (Nat.le_of_ble_eq_true rfl) dX4_digest_172 ⟨Nat.zero_le _, Nat.zero_le _⟩ ?_
                    refine lv_lstore_n (lv' := [(1, .long (iL v28)), (0, .ref (a 0)), (3, .int (iI l3xx))]) hx hb dX4_digest_175 rfl hl (by decide) rfl (fun ls hl => ?_)
                    refine lv_lload_n hx hb dX4_digest_176 rfl (lv_at hl 0 rfl) ?_
                    refine lv_aload_n hx hb dX4_digest_177 rfl (lv_at hl 1 rfl) ?_
                    refine va_get (D := (dC, dI)) (ci := 4) (v := .ref (a 31)) (C := RX4) (T := TX4) (N := 4) hx hb hts hin4 hown hK hP 0 rfl rfl 2 (by decide) (hts (.fieldLink RX4 22 "BoatRuns" "history" "LBoatRuns$History;") (by decide +kernel)) (fun _ h9 => h9) rfl dX4_digest_178 ?_
                    obtain ⟨v29, ev29, hf⟩ := x_bind hf
                    refine xc_ri (As := []) (rest := [.long (iL v28)]) ⟨hx, hb, hml, hown, hts⟩ (c1_count l dC dI cs (x_sh a 31) (g4_hi y25)  _ ev29) (cwV 0 hts gX4_digest_X1_count rfl rfl rfl cdX1_count ⟨Nat.le_of_ble_eq_true rfl, Nat.le_of_ble_eq_true rfl⟩) hK hP [31, 32, 33, 34, 35, 36, 37, 38, 39, 40, 41, 42, 43, 44, 45, 46, 47, 48, 49, 50, 51, 52, 53, 54, 55, 56, 57, 58, 59, 60, 61, 62, 63, 64, 65, 66, 67, 68, 69, 70, 71, 72, 73, 74, 75, 76, 77, 78, 79, 80, 81, 82, 83, 84, 85, 86, 87, 88, 89, 90, 91, 92] rfl 31 rfl rfl rfl hl.1 rfl (Nat.le_of_ble_eq_true rfl) dX4_digest_181 ⟨Nat.zero_le _, Nat.zero_le _⟩ ?_
                    obtain ⟨v30, ev30, hf⟩ := x_bind hf
                    refine xc_sl (As := [.long (iL v28), .int (iI v29)]) (rest := []) ⟨hx, hb, hml, hown, hts⟩ (c4_mixed l v28 v29 _ ev30) (va_cwS 2 hts gX4_digest_X4_mixed rfl rfl rfl cdX4_mixed ⟨Nat.le_of_ble_eq_true rfl, Nat.le_of_ble_eq_true rfl⟩) rfl hl.1 rfl (Nat.le_of_ble_eq_true rfl) dX4_digest_184 ⟨Nat.zero_le _, Nat.zero_le _⟩ ?_
                    obtain rfl := Option.some.inj hf
                    exact xe_wl hx hb hr hlocks hS hP dX4_digest_187
              exact hL92  xFU l1x 0 hf ls (lv_sub hl [1, 2, 0] rfl)
        exact hL43  xFU l1 0 hf ls (lv_sub hl [1, 2, 0] rfl)
  exact hL16  xFU v2 0 hf ls (lv_sub hl [2, 1, 0] rfl)
theorem cdX4_digest : yX4_digest.cls = RX4 ∧ yX4_digest.cls ≠ "java/lang/invoke/MethodHandle" ∧ yX4_digest.cls ≠ "java/lang/invoke/VarHandle" ∧ (parseMethodDescriptor yX4_digest.desc).map (fun d => d.parameters.length) = some 0 := by decide +kernel

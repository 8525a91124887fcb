set_option maxHeartbeats 4000000 in
set_option maxRecDepth 100000 in
theorem c0_throwOne (l : Launch) (dC : Nat → ClassId) (dI : Nat → Nat → Nat) (cs : Nat → ClassId) (a : Nat → Nat) (sz : Nat) (b : BoatS) (res : Int × BoatS) (hf : f0_throwOne b = some res) : Met l yX0_throwOne wsX0_throwOne ({ frames := 3, cells := 0, slots := 0, locals := 69 } : Room) (va_Pc [.ref (a 0)] (xPW (dC, dI) vwCl (w0 cs a b) (xT cs) sz)) (xQi (dC, dI) vwCl (w0 cs a b) (w0 cs a res.2) sz res.1) 0 0 (va_A (w0 cs a b) sz) := by
  refine Met.ofW (cc := cX0_throwOne) (maxL := 2) (ret := (some .int)) (by decide) rfl ?_
  intro p e s m args below meth c s₁ B hml hv
  obtain ⟨rfl, hsz, hP, hK, hD0⟩ := hv
  have hx := B.exec
  have hb := B.bytes
  have hr := B.returns
  have hts := atoms_spec (ws := wsX0_throwOne) B.pre
  have hown : s.vm.findClass RX0 = some m.cls := findClass_of_methodNamed B.named
  have hlocks := B.notSynchronized
  have hin0 : ∀ w ∈ wsX00, w ∈ wsX0_throwOne := by decide +kernel
  subst hsz
  have hD := hD0.self (sz := s.heap.size)
  have hA : ∀ z9 : Nat, s.heap.size ≤ z9 → va_A (w0 cs a b) s.heap.size z9 := fun z9 h => Or.inr h
  have hS : va_S (va_A (w0 cs a b) s.heap.size) s.heap s.heap [] := va_S.rf
  have hl := lv_entry [.ref (a 0)] (n := 2) (Nat.le_of_ble_eq_true rfl)
  rw [lg_entry_eq]
  generalize (lg_sl [.ref (a 0)] ++ List.replicate (2 - (lg_sl [.ref (a 0)]).length) Slot.unset).toArray = ls at hl ⊢
  have hl : lv_has ls 2 [(0, .ref (a 0))] := hl
  unfold f0_throwOne at hf
  refine lv_aload_n hx hb dX0_throwOne_0 rfl (lv_at hl 0 rfl) ?_
  obtain ⟨v1, ev1, hf⟩ := x_bind hf
  refine xc_ri (As := []) (rest := []) ⟨hx, hb, hml, hown, hts⟩ (c0_nextOverboard l dC dI cs a b  _ ev1) (cwV 0 hts gX0_throwOne_X0_nextOverboard rfl rfl rfl cdX0_nextOverboard ⟨Nat.le_of_ble_eq_true rfl, Nat.le_of_ble_eq_true rfl⟩) hK hP [0, 1, 2, 3, 4, 5, 6, 7, 8, 9, 10, 11, 12, 13, 14] rfl 0 rfl rfl rfl hl.1 rfl (Nat.le_of_ble_eq_true rfl) dX0_throwOne_1 ⟨Nat.zero_le _, Nat.zero_le _⟩ ?_
  refine lv_istore_n (lv' := [(1, .int (iI v1)), (0, .ref (a 0))]) hx hb dX0_throwOne_4 rfl hl (by decide) rfl (fun ls hl => ?_)
  refine lv_iload_n hx hb dX0_throwOne_5 rfl (lv_at hl 0 rfl) ?_
  refine xk_iconst hx hb dX0_throwOne_6 ?_
  obtain ⟨c2a, c2b, c2t, c2f⟩ := x_eqE hf
  refine xk_icmp_ne (tgt := 12) hx hb c2a c2b dX0_throwOne_7 (by decide) (fun c2 => ?_) (fun c2 => ?_)
  · have hf := c2t c2
    refine xk_iconst hx hb dX0_throwOne_10 ?_
    obtain rfl := Option.some.inj hf
    exact xe_wi hx hb hr hlocks hS hP dX0_throwOne_11
  · have hf := c2f c2
    refine lv_aload_n hx hb dX0_throwOne_12 rfl (lv_at hl 1 rfl) ?_
    refine va_get (D := (dC, dI)) (ci := 0) (v := .int (iI (g0_opn b))) (C := RX0) (T := TX0) (N := 14) hx hb hts hin0 hown hK hP 0 rfl rfl 8 (by decide) (hts (.fieldLink RX0 15 "BoatRuns$Boat" "open" "I") (by decide +kernel)) (fun _ h9 => h9) rfl dX0_throwOne_13 ?_
    refine xk_iconst hx hb dX0_throwOne_16 ?_
    obtain ⟨c3a, c3b, c3t, c3f⟩ := x_eqE hf
    refine xk_icmp_eq (tgt := 36) hx hb c3a c3b dX0_throwOne_17 (by decide) (fun c3 => ?_) (fun c3 => ?_)
    · have hf := c3t c3
      refine lv_aload_n hx hb dX0_throwOne_36 rfl (lv_at hl 1 rfl) ?_
      refine lv_aload_n hx hb dX0_throwOne_37 rfl (lv_at hl 1 rfl) ?_
      obtain ⟨⟨v5, b4⟩, eb4, hf⟩ := x_bind hf
      refine xc_wi (As := []) (rest := [.ref (a 0)]) ⟨hx, hb, hml, hown, hts⟩ (c0_newFloat l dC dI cs a _ b  _ eb4) (cwV 0 hts gX0_throwOne_X0_newFloat rfl rfl rfl cdX0_newFloat ⟨Nat.le_of_ble_eq_true rfl, Nat.le_of_ble_eq_true rfl⟩) hK hP (x_addr hD rfl) hS hA [0, 1, 2, 3, 4, 5, 6, 7, 8, 9, 10, 11, 12, 13, 14] rfl (by decide) rfl 0 rfl rfl rfl hl.1 rfl (Nat.le_of_ble_eq_true rfl) dX0_throwOne_38 ⟨Nat.zero_le _, Nat.zero_le _⟩ (fun H locs hP hS => ?_)
      have hP : va_P (dC, dI) vwCl (w0 cs a b4) H := hP
      refine va_put (D := (dC, dI)) (ci := 0) (v := .int (iI v5)) (ty := .int) (C := RX0) (T := TX0) (N := 14) hx hb hts hin0 tyX0 tyX0_ok nmX0 hown hK hP (x_addr hD rfl) hS 0 rfl rfl 8 (by decide) (hts (.fieldLink RX0 15 "BoatRuns$Boat" "open" "I") (by decide +kernel)) (fun _ h9 => h9) rfl (by decide +kernel) rfl rfl (Nat.le_of_ble_eq_true rfl) dX0_throwOne_41 (fun H locs hP _ hS => ?_)
      have hP : va_P (dC, dI) vwCl (w0C cs a (g0_room b4) v5 (g0_flo b4) (g0_cst b4) (g0_mrg b4) (g0_stm b4) (g0_brk b4) (g0_keys b4) (g0_weis b4) (g0_homs b4) (g0_ords b4) (g0_flts b4) (g0_strs b4) (g0_rwts b4)) H := hP
      refine lv_aload_n hx hb dX0_throwOne_44 rfl (lv_at hl 1 rfl) ?_
      refine lv_iload_n hx hb dX0_throwOne_45 rfl (lv_at hl 0 rfl) ?_
      refine lv_aload_n hx hb dX0_throwOne_46 rfl (lv_at hl 1 rfl) ?_
      refine va_get (D := (dC, dI)) (ci := 0) (v := .ref (a 5)) (C := RX0) (T := TX0) (N := 14) hx hb hts hin0 hown hK hP 0 rfl rfl 5 (by decide) (hts (.fieldLink RX0 36 "BoatRuns$Boat" "floats" "LBoatRuns$Row;") (by decide +kernel)) (fun _ h9 => h9) rfl dX0_throwOne_47 ?_
      refine lv_aload_n hx hb dX0_throwOne_50 rfl (lv_at hl 1 rfl) ?_
      refine va_get (D := (dC, dI)) (ci := 0) (v := .int (iI v5)) (C := RX0) (T := TX0) (N := 14) hx hb hts hin0 hown hK hP 0 rfl rfl 8 (by decide) (hts (.fieldLink RX0 15 "BoatRuns$Boat" "open" "I") (by decide +kernel)) (fun _ h9 => h9) rfl dX0_throwOne_51 ?_
      obtain ⟨v7, ev7, hf⟩ := x_bind hf
      refine xc_ri (As := [.int (iI v5)]) (rest := [.int (iI v1), .ref (a 0)]) ⟨hx, hb, hml, hown, hts⟩ (c2_indexOf l dC dI cs (a 5) (a 12) 120 (g0_flts b4) v5 (by decide) _ ev7) (cwV 1 hts gX0_throwOne_X2_indexOf rfl rfl rfl cdX2_indexOf ⟨Nat.le_of_ble_eq_true rfl, Nat.le_of_ble_eq_true rfl⟩) hK hP [5, 12] rfl 5 rfl rfl rfl hl.1 rfl (Nat.le_of_ble_eq_true rfl) dX0_throwOne_54 ⟨Nat.zero_le _, Nat.zero_le _⟩ ?_
      obtain ⟨b8, eb8, hf⟩ := x_bind hf
      refine xc_wv (As := [.int (iI v1), .int (iI v7)]) (rest := []) ⟨hx, hb, hml, hown, hts⟩ (c0_tie l dC dI cs a _ (s0_opn b4 v5) v1 v7  _ eb8) (cwV 2 hts gX0_throwOne_X0_tie rfl rfl rfl cdX0_tie ⟨Nat.le_of_ble_eq_true rfl, Nat.le_of_ble_eq_true rfl⟩) hK hP (x_addr hD rfl) hS hA [0, 1, 2, 3, 4, 5, 6, 7, 8, 9, 10, 11, 12, 13, 14] rfl (by decide) rfl 0 rfl rfl rfl hl.1 rfl (Nat.le_of_ble_eq_true rfl) dX0_throwOne_57 ⟨Nat.zero_le _, Nat.zero_le _⟩ (fun H locs hP hS => ?_)
      have hP : va_P (dC, dI) vwCl (w0 cs a b8) H := hP
      refine lv_aload_n hx hb dX0_throwOne_60 rfl (lv_at hl 1 rfl) ?_
      refine va_get (D := (dC, dI)) (ci := 0) (v := .int (iI (g0_opn b8))) (C := RX0) (T := TX0) (N := 14) hx hb hts hin0 hown hK hP 0 rfl rfl 8 (by decide) (hts (.fieldLink RX0 15 "BoatRuns$Boat" "open" "I") (by decide +kernel)) (fun _ h9 => h9) rfl dX0_throwOne_61 ?_
      obtain rfl := Option.some.inj hf
      exact xe_wi hx hb hr hlocks hS hP dX0_throwOne_64
    · have hf := c3f c3
      refine lv_aload_n hx hb dX0_throwOne_20 rfl (lv_at hl 1 rfl) ?_
      refine lv_iload_n hx hb dX0_throwOne_21 rfl (lv_at hl 0 rfl) ?_
      refine lv_aload_n hx hb dX0_throwOne_22 rfl (lv_at hl 1 rfl) ?_
      refine lv_aload_n hx hb dX0_throwOne_23 rfl (lv_at hl 1 rfl) ?_
      refine va_get (D := (dC, dI)) (ci := 0) (v := .int (iI (g0_opn b))) (C := RX0) (T := TX0) (N := 14) hx hb hts hin0 hown hK hP 0 rfl rfl 8 (by decide) (hts (.fieldLink RX0 15 "BoatRuns$Boat" "open" "I") (by decide +kernel)) (fun _ h9 => h9) rfl dX0_throwOne_24 ?_
      obtain ⟨v9, ev9, hf⟩ := x_bind hf
      refine xc_ri (As := [.int (iI (g0_opn b))]) (rest := [.int (iI v1), .ref (a 0)]) ⟨hx, hb, hml, hown, hts⟩ (c0_lastAt l dC dI cs a b (g0_opn b)  _ ev9) (cwV 1 hts gX0_throwOne_X0_lastAt rfl rfl rfl cdX0_lastAt ⟨Nat.le_of_ble_eq_true rfl, Nat.le_of_ble_eq_true rfl⟩) hK hP [0, 1, 2, 3, 4, 5, 6, 7, 8, 9, 10, 11, 12, 13, 14] rfl 0 rfl rfl rfl hl.1 rfl (Nat.le_of_ble_eq_true rfl) dX0_throwOne_27 ⟨Nat.zero_le _, Nat.zero_le _⟩ ?_
      obtain ⟨v10, ev10, hf⟩ := x_bind hf
      refine xc_ri (As := [.int (iI v1), .int (iI v9)]) (rest := []) ⟨hx, hb, hml, hown, hts⟩ (c0_isLess l dC dI cs a b v1 v9  _ ev10) (cwV 2 hts gX0_throwOne_X0_isLess rfl rfl rfl cdX0_isLess ⟨Nat.le_of_ble_eq_true rfl, Nat.le_of_ble_eq_true rfl⟩) hK hP [0, 1, 2, 3, 4, 5, 6, 7, 8, 9, 10, 11, 12, 13, 14] rfl 0 rfl rfl rfl hl.1 rfl (Nat.le_of_ble_eq_true rfl) dX0_throwOne_30 ⟨Nat.zero_le _, Nat.zero_le _⟩ ?_
      obtain ⟨c11a, c11b, c11t, c11f⟩ := x_eqE hf
      refine xk_if_eq (tgt := 44) hx hb c11a dX0_throwOne_33 (by decide) (fun c11 => ?_) (fun c11 => ?_)
      · have hf := c11t c11
        refine lv_aload_n hx hb dX0_throwOne_44 rfl (lv_at hl 1 rfl) ?_
        refine lv_iload_n hx hb dX0_throwOne_45 rfl (lv_at hl 0 rfl) ?_
        refine lv_aload_n hx hb dX0_throwOne_46 rfl (lv_at hl 1 rfl) ?_
        refine va_get (D := (dC, dI)) (ci := 0) (v := .ref (a 5)) (C := RX0) (T := TX0) (N := 14) hx hb hts hin0 hown hK hP 0 rfl rfl 5 (by decide) (hts (.fieldLink RX0 36 "BoatRuns$Boat" "floats" "LBoatRuns$Row;") (by decide +kernel)) (fun _ h9 => h9) rfl dX0_throwOne_47 ?_
        refine lv_aload_n hx hb dX0_throwOne_50 rfl (lv_at hl 1 rfl) ?_
        refine va_get (D := (dC, dI)) (ci := 0) (v := .int (iI (g0_opn b))) (C := RX0) (T := TX0) (N := 14) hx hb hts hin0 hown hK hP 0 rfl rfl 8 (by decide) (hts (.fieldLink RX0 15 "BoatRuns$Boat" "open" "I") (by decide +kernel)) (fun _ h9 => h9) rfl dX0_throwOne_51 ?_
        obtain ⟨v12, ev12, hf⟩ := x_bind hf
        refine xc_ri (As := [.int (iI (g0_opn b))]) (rest := [.int (iI v1), .ref (a 0)]) ⟨hx, hb, hml, hown, hts⟩ (c2_indexOf l dC dI cs (a 5) (a 12) 120 (g0_flts b) (g0_opn b) (by decide) _ ev12) (cwV 1 hts gX0_throwOne_X2_indexOf rfl rfl rfl cdX2_indexOf ⟨Nat.le_of_ble_eq_true rfl, Nat.le_of_ble_eq_true rfl⟩) hK hP [5, 12] rfl 5 rfl rfl rfl hl.1 rfl (Nat.le_of_ble_eq_true rfl) dX0_throwOne_54 ⟨Nat.zero_le _, Nat.zero_le _⟩ ?_
        obtain ⟨b13, eb13, hf⟩ := x_bind hf
        refine xc_wv (As := [.int (iI v1), .int (iI v12)]) (rest := []) ⟨hx, hb, hml, hown, hts⟩ (c0_tie l dC dI cs a _ b v1 v12  _ eb13) (cwV 2 hts gX0_throwOne_X0_tie rfl rfl rfl cdX0_tie ⟨Nat.le_of_ble_eq_true rfl, Nat.le_of_ble_eq_true rfl⟩) hK hP (x_addr hD rfl) hS hA [0, 1, 2, 3, 4, 5, 6, 7, 8, 9, 10, 11, 12, 13, 14] rfl (by decide) rfl 0 rfl rfl rfl hl.1 rfl (Nat.le_of_ble_eq_true rfl) dX0_throwOne_57 ⟨Nat.zero_le _, Nat.zero_le _⟩ (fun H locs hP hS => ?_)
        have hP : va_P (dC, dI) vwCl (w0 cs a b13) H := hP
        refine lv_aload_n hx hb dX0_throwOne_60 rfl (lv_at hl 1 rfl) ?_
        refine va_get (D := (dC, dI)) (ci := 0) (v := .int (iI (g0_opn b13))) (C := RX0) (T := TX0) (N := 14) hx hb hts hin0 hown hK hP 0 rfl rfl 8 (by decide) (hts (.fieldLink RX0 15 "BoatRuns$Boat" "open" "I") (by decide +kernel)) (fun _ h9 => h9) rfl dX0_throwOne_61 ?_
        obtain rfl := Option.some.inj hf
        exact xe_wi hx hb hr hlocks hS hP dX0_throwOne_64
      · have hf := c11f c11
        refine lv_aload_n hx hb dX0_throwOne_36 rfl (lv_at hl 1 rfl) ?_
        refine lv_aload_n hx hb dX0_throwOne_37 rfl (lv_at hl 1 rfl) ?_
        obtain ⟨⟨v15, b14⟩, eb14, hf⟩ := x_bind hf
        refine xc_wi (As := []) (rest := [.ref (a 0)]) ⟨hx, hb, hml, hown, hts⟩ (c0_newFloat l dC dI cs a _ b  _ eb14) (cwV 0 hts gX0_throwOne_X0_newFloat rfl rfl rfl cdX0_newFloat ⟨Nat.le_of_ble_eq_true rfl, Nat.le_of_ble_eq_true rfl⟩) hK hP (x_addr hD rfl) hS hA [0, 1, 2, 3, 4, 5, 6, 7, 8, 9, 10, 11, 12, 13, 14] rfl (by decide) rfl 0 rfl rfl rfl hl.1 rfl (Nat.le_of_ble_eq_true rfl) dX0_throwOne_38 ⟨Nat.zero_le _, Nat.zero_le _⟩ (fun H locs hP hS => ?_)
        have hP : va_P (dC, dI) vwCl (w0 cs a b14) H := hP
        refine va_put (D := (dC, dI)) (ci := 0) (v := .int (iI v15)) (ty := .int) (C := RX0) (T := TX0) (N := 14) hx hb hts hin0 tyX0 tyX0_ok nmX0 hown hK hP (x_addr hD rfl) hS 0 rfl rfl 8 (by decide) (hts (.fieldLink RX0 15 "BoatRuns$Boat" "open" "I") (by decide +kernel)) (fun _ h9 => h9) rfl (by decide +kernel) rfl rfl (Nat.le_of_ble_eq_true rfl) dX0_throwOne_41 (fun H locs hP _ hS => ?_)
        have hP : va_P (dC, dI) vwCl (w0C cs a (g0_room b14) v15 (g0_flo b14) (g0_cst b14) (g0_mrg b14) (g0_stm b14) (g0_brk b14) (g0_keys b14) (g0_weis b14) (g0_homs b14) (g0_ords b14) (g0_flts b14) (g0_strs b14) (g0_rwts b14)) H := hP
        refine lv_aload_n hx hb dX0_throwOne_44 rfl (lv_at hl 1 rfl) ?_
        refine lv_iload_n hx hb dX0_throwOne_45 rfl (lv_at hl 0 rfl) ?_
        refine lv_aload_n hx hb dX0_throwOne_46 rfl (lv_at hl 1 rfl) ?_
        refine va_get (D := (dC, dI)) (ci := 0) (v := .ref (a 5)) (C := RX0) (T := TX0) (N := 14) hx hb hts hin0 hown hK hP 0 rfl rfl 5 (by decide) (hts (.fieldLink RX0 36 "BoatRuns$Boat" "floats" "LBoatRuns$Row;") (by decide +kernel)) (fun _ h9 => h9) rfl dX0_throwOne_47 ?_
        refine lv_aload_n hx hb dX0_throwOne_50 rfl (lv_at hl 1 rfl) ?_
        refine va_get (D := (dC, dI)) (ci := 0) (v := .int (iI v15)) (C := RX0) (T := TX0) (N := 14) hx hb hts hin0 hown hK hP 0 rfl rfl 8 (by decide) (hts (.fieldLink RX0 15 "BoatRuns$Boat" "open" "I") (by decide +kernel)) (fun _ h9 => h9) rfl dX0_throwOne_51 ?_
        obtain ⟨v17, ev17, hf⟩ := x_bind hf
        refine xc_ri (As := [.int (iI v15)]) (rest := [.int (iI v1), .ref (a 0)]) ⟨hx, hb, hml, hown, hts⟩ (c2_indexOf l dC dI cs (a 5) (a 12) 120 (g0_flts b14) v15 (by decide) _ ev17) (cwV 1 hts gX0_throwOne_X2_indexOf rfl rfl rfl cdX2_indexOf ⟨Nat.le_of_ble_eq_true rfl, Nat.le_of_ble_eq_true rfl⟩) hK hP [5, 12] rfl 5 rfl rfl rfl hl.1 rfl (Nat.le_of_ble_eq_true rfl) dX0_throwOne_54 ⟨Nat.zero_le _, Nat.zero_le _⟩ ?_
        obtain ⟨b18, eb18, hf⟩ := x_bind hf
        refine xc_wv (As := [.int (iI v1), .int (iI v17)]) (rest := []) ⟨hx, hb, hml, hown, hts⟩ (c0_tie l dC dI cs a _ (s0_opn b14 v15) v1 v17  _ eb18) (cwV 2 hts gX0_throwOne_X0_tie rfl rfl rfl cdX0_tie ⟨Nat.le_of_ble_eq_true rfl, Nat.le_of_ble_eq_true rfl⟩) hK hP (x_addr hD rfl) hS hA [0, 1, 2, 3, 4, 5, 6, 7, 8, 9, 10, 11, 12, 13, 14] rfl (by decide) rfl 0 rfl rfl rfl hl.1 rfl (Nat.le_of_ble_eq_true rfl) dX0_throwOne_57 ⟨Nat.zero_le _, Nat.zero_le _⟩ (fun H locs hP hS => ?_)
        have hP : va_P (dC, dI) vwCl (w0 cs a b18) H := hP
        refine lv_aload_n hx hb dX0_throwOne_60 rfl (lv_at hl 1 rfl) ?_
        refine va_get (D := (dC, dI)) (ci := 0) (v := .int (iI (g0_opn b18))) (C := RX0) (T := TX0) (N := 14) hx hb hts hin0 hown hK hP 0 rfl rfl 8 (by decide) (hts (.fieldLink RX0 15 "BoatRuns$Boat" "open" "I") (by decide +kernel)) (fun _ h9 => h9) rfl dX0_throwOne_61 ?_
        obtain rfl := Option.some.inj hf
        exact xe_wi hx hb hr hlocks hS hP dX0_throwOne_64
theorem cdX0_throwOne : yX0_throwOne.cls = RX0 ∧ yX0_throwOne.cls ≠ "java/lang/invoke/MethodHandle" ∧ yX0_throwOne.cls ≠ "java/lang/invoke/VarHandle" ∧ (parseMethodDescriptor yX0_throwOne.desc).map (fun d => d.parameters.length) = some 0 := by decide +kernel

set_option maxHeartbeats 4000000 in
set_option maxRecDepth 100000 in
theorem c0_notGreater (l : Launch) (dC : Nat → ClassId) (dI : Nat → Nat → Nat) (cs : Nat → ClassId) (a : Nat → Nat) (b : BoatS) (p0 : Int) (res : Int) (hf : f0_notGreater b p0 = some res) : Met l yX0_notGreater wsX0_notGreater ({ frames := 1, cells := 0, slots := 0, locals := 21 } : Room) (va_Pc [.ref (a 0), .int (iI p0)] (xPR (dC, dI) vwCl (w0 cs a b) (xT cs))) (vp_Si (fun r => r = iI res)) 0 0 (fun _ => False) := by
  refine Met.ofW (cc := cX0_notGreater) (maxL := 4) (ret := (some .int)) (by decide) rfl ?_
  intro p e s m args below meth c s₁ B hml hv
  obtain ⟨rfl, hP, hK⟩ := hv
  have hx := B.exec
  have hb := B.bytes
  have hr := B.returns
  have hts := atoms_spec (ws := wsX0_notGreater) B.pre
  have hown : s.vm.findClass RX0 = some m.cls := findClass_of_methodNamed B.named
  have hlocks := B.notSynchronized
  have hin0 : ∀ w ∈ wsX00, w ∈ wsX0_notGreater := by decide +kernel
  have hl := lv_entry [.ref (a 0), .int (iI p0)] (n := 4) (Nat.le_of_ble_eq_true rfl)
  rw [lg_entry_eq]
  generalize (lg_sl [.ref (a 0), .int (iI p0)] ++ List.replicate (4 - (lg_sl [.ref (a 0), .int (iI p0)]).length) Slot.unset).toArray = ls at hl ⊢
  have hl : lv_has ls 4 [(0, .ref (a 0)), (1, .int (iI p0))] := hl
  unfold f0_notGreater at hf
  refine xk_iconst hx hb dX0_notGreater_0 ?_
  refine lv_istore_n (lv' := [(2, .int (iI 0)), (0, .ref (a 0)), (1, .int (iI p0))]) hx hb dX0_notGreater_1 rfl hl (by decide) rfl (fun ls hl => ?_)
  refine xk_iconst hx hb dX0_notGreater_2 ?_
  refine lv_istore_n (lv' := [(3, .int (iI 0)), (2, .int (iI 0)), (0, .ref (a 0)), (1, .int (iI p0))]) hx hb dX0_notGreater_3 rfl hl (by decide) rfl (fun ls hl => ?_)
  have hL4 : ∀ (n1 : Nat) (l2 : Int) (l3 : Int), f0_notGreater_L4 b p0 n1 l2 l3 = some res → ∀ (ls : Array Slot), lv_has ls 4 [(0, .ref (a 0)), (1, .int (iI p0)), (2, .int (iI l2)), (3, .int (iI l3))] → W p l e (headSpec wsX0_notGreater ({ frames := 1, cells := 0, slots := 0, locals := 21 } : Room)).room s m ([.ref (a 0), .int (iI p0)] : List Value).toArray below meth c s.heap [] 0 0 (MQ below (vp_Si (fun r => r = iI res)) ([.ref (a 0), .int (iI p0)] : List Value).toArray s 0 0 (fun _ => False)) (F0 m 4 ls []) := by
    intro  n1
    induction n1 with
    | zero => intro l2 l3 hf; have hf : (none : Option (Int)) = some res := hf; cases hf
    | succ n1 ih4 =>
      intro l2 l3 hf ls hl
      rw [f0_notGreater_L4] at hf
      refine lv_iload_n hx hb dX0_notGreater_4 rfl (lv_at hl 3 rfl) ?_
      refine lv_aload_n hx hb dX0_notGreater_5 rfl (lv_at hl 0 rfl) ?_
      refine va_get (D := (dC, dI)) (ci := 0) (v := .ref (a 1)) (C := RX0) (T := TX0) (N := 14) hx hb hts hin0 hown hK hP 0 rfl rfl 1 (by decide) (hts (.fieldLink RX0 23 "BoatRuns$Boat" "keys" "LBoatRuns$Row;") (by decide +kernel)) (fun _ h9 => h9) rfl dX0_notGreater_6 ?_
      obtain ⟨v2, ev2, hf⟩ := x_bind hf
      refine xc_ri (As := []) (rest := [.int (iI l3)]) ⟨hx, hb, hml, hown, hts⟩ (c2_size l dC dI cs (a 1) (a 8) 120 (g0_keys b) (by decide) _ ev2) (cwV 0 hts gX0_notGreater_X2_size rfl rfl rfl cdX2_size ⟨Nat.le_of_ble_eq_true rfl, Nat.le_of_ble_eq_true rfl⟩) hK hP [1, 8] rfl 1 rfl rfl rfl hl.1 rfl (Nat.le_of_ble_eq_true rfl) dX0_notGreater_9 ⟨Nat.zero_le _, Nat.zero_le _⟩ ?_
      obtain ⟨c3a, c3b, c3t, c3f⟩ := x_ltE hf
      refine xk_icmp_ge (tgt := 36) hx hb c3a c3b dX0_notGreater_12 (by decide) (fun c3 => ?_) (fun c3 => ?_)
      · have hf := c3t c3
        refine lv_aload_n hx hb dX0_notGreater_15 rfl (lv_at hl 0 rfl) ?_
        refine va_get (D := (dC, dI)) (ci := 0) (v := .ref (a 1)) (C := RX0) (T := TX0) (N := 14) hx hb hts hin0 hown hK hP 0 rfl rfl 1 (by decide) (hts (.fieldLink RX0 23 "BoatRuns$Boat" "keys" "LBoatRuns$Row;") (by decide +kernel)) (fun _ h9 => h9) rfl dX0_notGreater_16 ?_
        refine lv_iload_n hx hb dX0_notGreater_19 rfl (lv_at hl 3 rfl) ?_
        obtain ⟨v4, ev4, hf⟩ := x_bind hf
        refine xc_ri (As := [.int (iI l3)]) (rest := []) ⟨hx, hb, hml, hown, hts⟩ (c2_get l dC dI cs (a 1) (a 8) 120 (g0_keys b) l3 (by decide) _ ev4) (cwV 1 hts gX0_notGreater_X2_get rfl rfl rfl cdX2_get ⟨Nat.le_of_ble_eq_true rfl, Nat.le_of_ble_eq_true rfl⟩) hK hP [1, 8] rfl 1 rfl rfl rfl hl.1 rfl (Nat.le_of_ble_eq_true rfl) dX0_notGreater_20 ⟨Nat.zero_le _, Nat.zero_le _⟩ ?_
        refine lv_iload_n hx hb dX0_notGreater_23 rfl (lv_at hl 1 rfl) ?_
        obtain ⟨c5a, c5b, c5t, c5f⟩ := x_ltE hf
        refine xk_icmp_gt (tgt := 30) hx hb c5b c5a dX0_notGreater_24 (by decide) (fun c5 => ?_) (fun c5 => ?_)
        · have hf := c5t c5
          refine xk_iinc (lv' := [(3, .int (iI (l3 + 1))), (0, .ref (a 0)), (1, .int (iI p0)), (2, .int (iI l2))]) hx hb dX0_notGreater_30 hl (k := 3) rfl (by decide) rfl (fun ls hl => ?_)
          refine lv_goto (tgt := 4) hx hb dX0_notGreater_33 (by decide) ?_
          exact ih4 l2 (l3 + 1) hf ls (lv_sub hl [1, 2, 3, 0] rfl)
        · have hf := c5f c5
          refine xk_iinc (lv' := [(2, .int (iI (l2 + 1))), (0, .ref (a 0)), (1, .int (iI p0)), (3, .int (iI l3))]) hx hb dX0_notGreater_27 hl (k := 2) rfl (by decide) rfl (fun ls hl => ?_)
          refine xk_iinc (lv' := [(3, .int (iI (l3 + 1))), (2, .int (iI (l2 + 1))), (0, .ref (a 0)), (1, .int (iI p0))]) hx hb dX0_notGreater_30 hl (k := 3) rfl (by decide) rfl (fun ls hl => ?_)
          refine lv_goto (tgt := 4) hx hb dX0_notGreater_33 (by decide) ?_
          exact ih4 (l2 + 1) (l3 + 1) hf ls (lv_sub hl [2, 3, 1, 0] rfl)
      · have hf := c3f c3
        refine lv_iload_n hx hb dX0_notGreater_36 rfl (lv_at hl 2 rfl) ?_
        obtain rfl := Option.some.inj hf
        exact xe_ri hx hb hr hlocks dX0_notGreater_37 rfl
  exact hL4  xFU 0 0 hf ls (lv_sub hl [2, 3, 1, 0] rfl)
theorem cdX0_notGreater : yX0_notGreater.cls = RX0 ∧ yX0_notGreater.cls ≠ "java/lang/invoke/MethodHandle" ∧ yX0_notGreater.cls ≠ "java/lang/invoke/VarHandle" ∧ (parseMethodDescriptor yX0_notGreater.desc).map (fun d => d.parameters.length) = some 1 := by decide +kernel

set_option maxHeartbeats 4000000 in
set_option maxRecDepth 100000 in
theorem c0_take (l : Launch) (dC : Nat → ClassId) (dI : Nat → Nat → Nat) (cs : Nat → ClassId) (a : Nat → Nat) (sz : Nat) (b : BoatS) (p0 : Int) (p1 : Int) (res : Int × BoatS) (hf : f0_take b p0 p1 = some res) : Met l yX0_take wsX0_take ({ frames := 4, cells := 0, slots := 0, locals := 90 } : Room) (va_Pc [.ref (a 0), .int (iI p0), .int (iI p1)] (xPW (dC, dI) vwCl (w0 cs a b) (xT cs) sz)) (xQi (dC, dI) vwCl (w0 cs a b) (w0 cs a res.2) sz res.1) 0 0 (va_A (w0 cs a b) sz) := by
  refine Met.ofW (cc := cX0_take) (maxL := 4) (ret := (some .int)) (by decide) rfl ?_
  intro p e s m args below meth c s₁ B hml hv
  obtain ⟨rfl, hsz, hP, hK, hD0⟩ := hv
  have hx := B.exec
  have hb := B.bytes
  have hr := B.returns
  have hts := atoms_spec (ws := wsX0_take) B.pre
  have hown : s.vm.findClass RX0 = some m.cls := findClass_of_methodNamed B.named
  have hlocks := B.notSynchronized
  have hin0 : ∀ w ∈ wsX00, w ∈ wsX0_take := by decide +kernel
  subst hsz
  have hD := hD0.self (sz := s.heap.size)
  have hA : ∀ z9 : Nat, s.heap.size ≤ z9 → va_A (w0 cs a b) s.heap.size z9 := fun z9 h => Or.inr h
  have hS : va_S (va_A (w0 cs a b) s.heap.size) s.heap s.heap [] := va_S.rf
  have hl := lv_entry [.ref (a 0), .int (iI p0), .int (iI p1)] (n := 4) (Nat.le_of_ble_eq_true rfl)
  rw [lg_entry_eq]
  generalize (lg_sl [.ref (a 0), .int (iI p0), .int (iI p1)] ++ List.replicate (4 - (lg_sl [.ref (a 0), .int (iI p0), .int (iI p1)]).length) Slot.unset).toArray = ls at hl ⊢
  have hl : lv_has ls 4 [(0, .ref (a 0)), (1, .int (iI p0)), (2, .int (iI p1))] := hl
  unfold f0_take at hf
  refine lv_aload_n hx hb dX0_take_0 rfl (lv_at hl 0 rfl) ?_
  refine xk_iconst hx hb dX0_take_1 ?_
  obtain ⟨v1, ev1, hf⟩ := x_bind hf
  refine xc_ri (As := [.int (iI (-1))]) (rest := []) ⟨hx, hb, hml, hown, hts⟩ (c0_countAt l dC dI cs a b (-1)  _ ev1) (cwV 1 hts gX0_take_X0_countAt rfl rfl rfl cdX0_countAt ⟨Nat.le_of_ble_eq_true rfl, Nat.le_of_ble_eq_true rfl⟩) hK hP [0, 1, 2, 3, 4, 5, 6, 7, 8, 9, 10, 11, 12, 13, 14] rfl 0 rfl rfl rfl hl.1 rfl (Nat.le_of_ble_eq_true rfl) dX0_take_2 ⟨Nat.zero_le _, Nat.zero_le _⟩ ?_
  refine lv_aload_n hx hb dX0_take_5 rfl (lv_at hl 0 rfl) ?_
  refine va_get (D := (dC, dI)) (ci := 0) (v := .int (iI (g0_room b))) (C := RX0) (T := TX0) (N := 14) hx hb hts hin0 hown hK hP 0 rfl rfl 0 (by decide) (hts (.fieldLink RX0 9 "BoatRuns$Boat" "room" "I") (by decide +kernel)) (fun _ h9 => h9) rfl dX0_take_6 ?_
  obtain ⟨c2a, c2b, c2t, c2f⟩ := x_ltE hf
  refine xk_icmp_lt (tgt := 19) hx hb c2a c2b dX0_take_9 (by decide) (fun c2 => ?_) (fun c2 => ?_)
  · have hf := c2t c2
    refine xk_iconst hx hb dX0_take_19 ?_
    refine lv_istore_n (lv' := [(3, .int (iI (-1))), (0, .ref (a 0)), (1, .int (iI p0)), (2, .int (iI p1))]) hx hb dX0_take_20 rfl hl (by decide) rfl (fun ls hl => ?_)
    refine lv_aload_n hx hb dX0_take_21 rfl (lv_at hl 1 rfl) ?_
    refine va_get (D := (dC, dI)) (ci := 0) (v := .ref (a 4)) (C := RX0) (T := TX0) (N := 14) hx hb hts hin0 hown hK hP 0 rfl rfl 4 (by decide) (hts (.fieldLink RX0 33 "BoatRuns$Boat" "order" "LBoatRuns$Row;") (by decide +kernel)) (fun _ h9 => h9) rfl dX0_take_22 ?_
    refine lv_aload_n hx hb dX0_take_25 rfl (lv_at hl 1 rfl) ?_
    refine lv_iload_n hx hb dX0_take_26 rfl (lv_at hl 2 rfl) ?_
    obtain ⟨v3, ev3, hf⟩ := x_bind hf
    refine xc_ri (As := [.int (iI p0)]) (rest := [.ref (a 4)]) ⟨hx, hb, hml, hown, hts⟩ (c0_notGreater l dC dI cs a b p0  _ ev3) (cwV 1 hts gX0_take_X0_notGreater rfl rfl rfl cdX0_notGreater ⟨Nat.le_of_ble_eq_true rfl, Nat.le_of_ble_eq_true rfl⟩) hK hP [0, 1, 2, 3, 4, 5, 6, 7, 8, 9, 10, 11, 12, 13, 14] rfl 0 rfl rfl rfl hl.1 rfl (Nat.le_of_ble_eq_true rfl) dX0_take_27 ⟨Nat.zero_le _, Nat.zero_le _⟩ ?_
    refine lv_aload_n hx hb dX0_take_30 rfl (lv_at hl 1 rfl) ?_
    refine va_get (D := (dC, dI)) (ci := 0) (v := .ref (a 1)) (C := RX0) (T := TX0) (N := 14) hx hb hts hin0 hown hK hP 0 rfl rfl 1 (by decide) (hts (.fieldLink RX0 23 "BoatRuns$Boat" "keys" "LBoatRuns$Row;") (by decide +kernel)) (fun _ h9 => h9) rfl dX0_take_31 ?_
    obtain ⟨v4, ev4, hf⟩ := x_bind hf
    refine xc_ri (As := []) (rest := [.int (iI v3), .ref (a 4)]) ⟨hx, hb, hml, hown, hts⟩ (c2_size l dC dI cs (a 1) (a 8) 120 (g0_keys b) (by decide) _ ev4) (cwV 0 hts gX0_take_X2_size rfl rfl rfl cdX2_size ⟨Nat.le_of_ble_eq_true rfl, Nat.le_of_ble_eq_true rfl⟩) hK hP [1, 8] rfl 1 rfl rfl rfl hl.1 rfl (Nat.le_of_ble_eq_true rfl) dX0_take_34 ⟨Nat.zero_le _, Nat.zero_le _⟩ ?_
    obtain ⟨r5, er5, hf⟩ := x_bind hf
    refine xc_wv (As := [.int (iI v3), .int (iI v4)]) (rest := []) ⟨hx, hb, hml, hown, hts⟩ (c2_insert l dC dI cs (a 4) (a 11) _ 120 (g0_ords b) v3 v4 (by decide) _ er5) (cwV 2 hts gX0_take_X2_insert rfl rfl rfl cdX2_insert ⟨Nat.le_of_ble_eq_true rfl, Nat.le_of_ble_eq_true rfl⟩) hK hP (x_addr hD rfl) hS hA [4, 11] rfl (by decide) rfl 4 rfl rfl rfl hl.1 rfl (Nat.le_of_ble_eq_true rfl) dX0_take_37 ⟨Nat.zero_le _, Nat.zero_le _⟩ (fun H locs hP hS => ?_)
    have hP : va_P (dC, dI) vwCl (w0C cs a (g0_room b) (g0_opn b) (g0_flo b) (g0_cst b) (g0_mrg b) (g0_stm b) (g0_brk b) (g0_keys b) (g0_weis b) (g0_homs b) r5 (g0_flts b) (g0_strs b) (g0_rwts b)) H := hP
    refine lv_aload_n hx hb dX0_take_40 rfl (lv_at hl 1 rfl) ?_
    refine va_get (D := (dC, dI)) (ci := 0) (v := .ref (a 1)) (C := RX0) (T := TX0) (N := 14) hx hb hts hin0 hown hK hP 0 rfl rfl 1 (by decide) (hts (.fieldLink RX0 23 "BoatRuns$Boat" "keys" "LBoatRuns$Row;") (by decide +kernel)) (fun _ h9 => h9) rfl dX0_take_41 ?_
    refine lv_iload_n hx hb dX0_take_44 rfl (lv_at hl 2 rfl) ?_
    obtain ⟨r6, er6, hf⟩ := x_bind hf
    refine xc_wv (As := [.int (iI p0)]) (rest := []) ⟨hx, hb, hml, hown, hts⟩ (c2_add l dC dI cs (a 1) (a 8) _ 120 (g0_keys b) p0 (by decide) _ er6) (cwV 1 hts gX0_take_X2_add rfl rfl rfl cdX2_add ⟨Nat.le_of_ble_eq_true rfl, Nat.le_of_ble_eq_true rfl⟩) hK hP (x_addr hD rfl) hS hA [1, 8] rfl (by decide) rfl 1 rfl rfl rfl hl.1 rfl (Nat.le_of_ble_eq_true rfl) dX0_take_45 ⟨Nat.zero_le _, Nat.zero_le _⟩ (fun H locs hP hS => ?_)
    have hP : va_P (dC, dI) vwCl (w0C cs a (g0_room b) (g0_opn b) (g0_flo b) (g0_cst b) (g0_mrg b) (g0_stm b) (g0_brk b) r6 (g0_weis b) (g0_homs b) r5 (g0_flts b) (g0_strs b) (g0_rwts b)) H := hP
    refine lv_aload_n hx hb dX0_take_48 rfl (lv_at hl 1 rfl) ?_
    refine va_get (D := (dC, dI)) (ci := 0) (v := .ref (a 2)) (C := RX0) (T := TX0) (N := 14) hx hb hts hin0 hown hK hP 0 rfl rfl 2 (by decide) (hts (.fieldLink RX0 27 "BoatRuns$Boat" "weights" "LBoatRuns$Row;") (by decide +kernel)) (fun _ h9 => h9) rfl dX0_take_49 ?_
    refine lv_iload_n hx hb dX0_take_52 rfl (lv_at hl 3 rfl) ?_
    obtain ⟨r7, er7, hf⟩ := x_bind hf
    refine xc_wv (As := [.int (iI p1)]) (rest := []) ⟨hx, hb, hml, hown, hts⟩ (c2_add l dC dI cs (a 2) (a 9) _ 120 (g0_weis b) p1 (by decide) _ er7) (cwV 1 hts gX0_take_X2_add rfl rfl rfl cdX2_add ⟨Nat.le_of_ble_eq_true rfl, Nat.le_of_ble_eq_true rfl⟩) hK hP (x_addr hD rfl) hS hA [2, 9] rfl (by decide) rfl 2 rfl rfl rfl hl.1 rfl (Nat.le_of_ble_eq_true rfl) dX0_take_53 ⟨Nat.zero_le _, Nat.zero_le _⟩ (fun H locs hP hS => ?_)
    have hP : va_P (dC, dI) vwCl (w0C cs a (g0_room b) (g0_opn b) (g0_flo b) (g0_cst b) (g0_mrg b) (g0_stm b) (g0_brk b) r6 r7 (g0_homs b) r5 (g0_flts b) (g0_strs b) (g0_rwts b)) H := hP
    refine lv_aload_n hx hb dX0_take_56 rfl (lv_at hl 1 rfl) ?_
    refine va_get (D := (dC, dI)) (ci := 0) (v := .ref (a 3)) (C := RX0) (T := TX0) (N := 14) hx hb hts hin0 hown hK hP 0 rfl rfl 3 (by decide) (hts (.fieldLink RX0 30 "BoatRuns$Boat" "homes" "LBoatRuns$Row;") (by decide +kernel)) (fun _ h9 => h9) rfl dX0_take_57 ?_
    refine xk_iconst hx hb dX0_take_60 ?_
    obtain ⟨r8, er8, hf⟩ := x_bind hf
    refine xc_wv (As := [.int (iI (-1))]) (rest := []) ⟨hx, hb, hml, hown, hts⟩ (c2_add l dC dI cs (a 3) (a 10) _ 120 (g0_homs b) (-1) (by decide) _ er8) (cwV 1 hts gX0_take_X2_add rfl rfl rfl cdX2_add ⟨Nat.le_of_ble_eq_true rfl, Nat.le_of_ble_eq_true rfl⟩) hK hP (x_addr hD rfl) hS hA [3, 10] rfl (by decide) rfl 3 rfl rfl rfl hl.1 rfl (Nat.le_of_ble_eq_true rfl) dX0_take_61 ⟨Nat.zero_le _, Nat.zero_le _⟩ (fun H locs hP hS => ?_)
    have hP : va_P (dC, dI) vwCl (w0C cs a (g0_room b) (g0_opn b) (g0_flo b) (g0_cst b) (g0_mrg b) (g0_stm b) (g0_brk b) r6 r7 r8 r5 (g0_flts b) (g0_strs b) (g0_rwts b)) H := hP
    refine lv_iload_n hx hb dX0_take_64 rfl (lv_at hl 0 rfl) ?_
    obtain rfl := Option.some.inj hf
    exact xe_wi hx hb hr hlocks hS hP dX0_take_65
  · have hf := c2f c2
    refine lv_aload_n hx hb dX0_take_12 rfl (lv_at hl 0 rfl) ?_
    obtain ⟨⟨v10, b9⟩, eb9, hf⟩ := x_bind hf
    refine xc_wi (As := []) (rest := []) ⟨hx, hb, hml, hown, hts⟩ (c0_throwOne l dC dI cs a _ b  _ eb9) (cwV 0 hts gX0_take_X0_throwOne rfl rfl rfl cdX0_throwOne ⟨Nat.le_of_ble_eq_true rfl, Nat.le_of_ble_eq_true rfl⟩) hK hP (x_addr hD rfl) hS hA [0, 1, 2, 3, 4, 5, 6, 7, 8, 9, 10, 11, 12, 13, 14] rfl (by decide) rfl 0 rfl rfl rfl hl.1 rfl (Nat.le_of_ble_eq_true rfl) dX0_take_13 ⟨Nat.zero_le _, Nat.zero_le _⟩ (fun H locs hP hS => ?_)
    have hP : va_P (dC, dI) vwCl (w0 cs a b9) H := hP
    refine lv_goto (tgt := 20) hx hb dX0_take_16 (by decide) ?_
    refine lv_istore_n (lv' := [(3, .int (iI v10)), (0, .ref (a 0)), (1, .int (iI p0)), (2, .int (iI p1))]) hx hb dX0_take_20 rfl hl (by decide) rfl (fun ls hl => ?_)
    refine lv_aload_n hx hb dX0_take_21 rfl (lv_at hl 1 rfl) ?_
    refine va_get (D := (dC, dI)) (ci := 0) (v := .ref (a 4)) (C := RX0) (T := TX0) (N := 14) hx hb hts hin0 hown hK hP 0 rfl rfl 4 (by decide) (hts (.fieldLink RX0 33 "BoatRuns$Boat" "order" "LBoatRuns$Row;") (by decide +kernel)) (fun _ h9 => h9) rfl dX0_take_22 ?_
    refine lv_aload_n hx hb dX0_take_25 rfl (lv_at hl 1 rfl) ?_
    refine lv_iload_n hx hb dX0_take_26 rfl (lv_at hl 2 rfl) ?_
    obtain ⟨v12, ev12, hf⟩ := x_bind hf
    refine xc_ri (As := [.int (iI p0)]) (rest := [.ref (a 4)]) ⟨hx, hb, hml, hown, hts⟩ (c0_notGreater l dC dI cs a b9 p0  _ ev12) (cwV 1 hts gX0_take_X0_notGreater rfl rfl rfl cdX0_notGreater ⟨Nat.le_of_ble_eq_true rfl, Nat.le_of_ble_eq_true rfl⟩) hK hP [0, 1, 2, 3, 4, 5, 6, 7, 8, 9, 10, 11, 12, 13, 14] rfl 0 rfl rfl rfl hl.1 rfl (Nat.le_of_ble_eq_true rfl) dX0_take_27 ⟨Nat.zero_le _, Nat.zero_le _⟩ ?_
    refine lv_aload_n hx hb dX0_take_30 rfl (lv_at hl 1 rfl) ?_
    refine va_get (D := (dC, dI)) (ci := 0) (v := .ref (a 1)) (C := RX0) (T := TX0) (N := 14) hx hb hts hin0 hown hK hP 0 rfl rfl 1 (by decide) (hts (.fieldLink RX0 23 "BoatRuns$Boat" "keys" "LBoatRuns$Row;") (by decide +kernel)) (fun _ h9 => h9) rfl dX0_take_31 ?_
    obtain ⟨v13, ev13, hf⟩ := x_bind hf
    refine xc_ri (As := []) (rest := [.int (iI v12), .ref (a 4)]) ⟨hx, hb, hml, hown, hts⟩ (c2_size l dC dI cs (a 1) (a 8) 120 (g0_keys b9) (by decide) _ ev13) (cwV 0 hts gX0_take_X2_size rfl rfl rfl cdX2_size ⟨Nat.le_of_ble_eq_true rfl, Nat.le_of_ble_eq_true rfl⟩) hK hP [1, 8] rfl 1 rfl rfl rfl hl.1 rfl (Nat.le_of_ble_eq_true rfl) dX0_take_34 ⟨Nat.zero_le _, Nat.zero_le _⟩ ?_
    obtain ⟨r14, er14, hf⟩ := x_bind hf
    refine xc_wv (As := [.int (iI v12), .int (iI v13)]) (rest := []) ⟨hx, hb, hml, hown, hts⟩ (c2_insert l dC dI cs (a 4) (a 11) _ 120 (g0_ords b9) v12 v13 (by decide) _ er14) (cwV 2 hts gX0_take_X2_insert rfl rfl rfl cdX2_insert ⟨Nat.le_of_ble_eq_true rfl, Nat.le_of_ble_eq_true rfl⟩) hK hP (x_addr hD rfl) hS hA [4, 11] rfl (by decide) rfl 4 rfl rfl rfl hl.1 rfl (Nat.le_of_ble_eq_true rfl) dX0_take_37 ⟨Nat.zero_le _, Nat.zero_le _⟩ (fun H locs hP hS => ?_)
    have hP : va_P (dC, dI) vwCl (w0C cs a (g0_room b9) (g0_opn b9) (g0_flo b9) (g0_cst b9) (g0_mrg b9) (g0_stm b9) (g0_brk b9) (g0_keys b9) (g0_weis b9) (g0_homs b9) r14 (g0_flts b9) (g0_strs b9) (g0_rwts b9)) H := hP
    refine lv_aload_n hx hb dX0_take_40 rfl (lv_at hl 1 rfl) ?_
    refine va_get (D := (dC, dI)) (ci := 0) (v := .ref (a 1)) (C := RX0) (T := TX0) (N := 14) hx hb hts hin0 hown hK hP 0 rfl rfl 1 (by decide) (hts (.fieldLink RX0 23 "BoatRuns$Boat" "keys" "LBoatRuns$Row;") (by decide +kernel)) (fun _ h9 => h9) rfl dX0_take_41 ?_
    refine lv_iload_n hx hb dX0_take_44 rfl (lv_at hl 2 rfl) ?_
    obtain ⟨r15, er15, hf⟩ := x_bind hf
    refine xc_wv (As := [.int (iI p0)]) (rest := []) ⟨hx, hb, hml, hown, hts⟩ (c2_add l dC dI cs (a 1) (a 8) _ 120 (g0_keys b9) p0 (by decide) _ er15) (cwV 1 hts gX0_take_X2_add rfl rfl rfl cdX2_add ⟨Nat.le_of_ble_eq_true rfl, Nat.le_of_ble_eq_true rfl⟩) hK hP (x_addr hD rfl) hS hA [1, 8] rfl (by decide) rfl 1 rfl rfl rfl hl.1 rfl (Nat.le_of_ble_eq_true rfl) dX0_take_45 ⟨Nat.zero_le _, Nat.zero_le _⟩ (fun H locs hP hS => ?_)
    have hP : va_P (dC, dI) vwCl (w0C cs a (g0_room b9) (g0_opn b9) (g0_flo b9) (g0_cst b9) (g0_mrg b9) (g0_stm b9) (g0_brk b9) r15 (g0_weis b9) (g0_homs b9) r14 (g0_flts b9) (g0_strs b9) (g0_rwts b9)) H := hP
    refine lv_aload_n hx hb dX0_take_48 rfl (lv_at hl 1 rfl) ?_
    refine va_get (D := (dC, dI)) (ci := 0) (v := .ref (a 2)) (C := RX0) (T := TX0) (N := 14) hx hb hts hin0 hown hK hP 0 rfl rfl 2 (by decide) (hts (.fieldLink RX0 27 "BoatRuns$Boat" "weights" "LBoatRuns$Row;") (by decide +kernel)) (fun _ h9 => h9) rfl dX0_take_49 ?_
    refine lv_iload_n hx hb dX0_take_52 rfl (lv_at hl 3 rfl) ?_
    obtain ⟨r16, er16, hf⟩ := x_bind hf
    refine xc_wv (As := [.int (iI p1)]) (rest := []) ⟨hx, hb, hml, hown, hts⟩ (c2_add l dC dI cs (a 2) (a 9) _ 120 (g0_weis b9) p1 (by decide) _ er16) (cwV 1 hts gX0_take_X2_add rfl rfl rfl cdX2_add ⟨Nat.le_of_ble_eq_true rfl, Nat.le_of_ble_eq_true rfl⟩) hK hP (x_addr hD rfl) hS hA [2, 9] rfl (by decide) rfl 2 rfl rfl rfl hl.1 rfl (Nat.le_of_ble_eq_true rfl) dX0_take_53 ⟨Nat.zero_le _, Nat.zero_le _⟩ (fun H locs hP hS => ?_)
    have hP : va_P (dC, dI) vwCl (w0C cs a (g0_room b9) (g0_opn b9) (g0_flo b9) (g0_cst b9) (g0_mrg b9) (g0_stm b9) (g0_brk b9) r15 r16 (g0_homs b9) r14 (g0_flts b9) (g0_strs b9) (g0_rwts b9)) H := hP
    refine lv_aload_n hx hb dX0_take_56 rfl (lv_at hl 1 rfl) ?_
    refine va_get (D := (dC, dI)) (ci := 0) (v := .ref (a 3)) (C := RX0) (T := TX0) (N := 14) hx hb hts hin0 hown hK hP 0 rfl rfl 3 (by decide) (hts (.fieldLink RX0 30 "BoatRuns$Boat" "homes" "LBoatRuns$Row;") (by decide +kernel)) (fun _ h9 => h9) rfl dX0_take_57 ?_
    refine xk_iconst hx hb dX0_take_60 ?_
    obtain ⟨r17, er17, hf⟩ := x_bind hf
    refine xc_wv (As := [.int (iI (-1))]) (rest := []) ⟨hx, hb, hml, hown, hts⟩ (c2_add l dC dI cs (a 3) (a 10) _ 120 (g0_homs b9) (-1) (by decide) _ er17) (cwV 1 hts gX0_take_X2_add rfl rfl rfl cdX2_add ⟨Nat.le_of_ble_eq_true rfl, Nat.le_of_ble_eq_true rfl⟩) hK hP (x_addr hD rfl) hS hA [3, 10] rfl (by decide) rfl 3 rfl rfl rfl hl.1 rfl (Nat.le_of_ble_eq_true rfl) dX0_take_61 ⟨Nat.zero_le _, Nat.zero_le _⟩ (fun H locs hP hS => ?_)
    have hP : va_P (dC, dI) vwCl (w0C cs a (g0_room b9) (g0_opn b9) (g0_flo b9) (g0_cst b9) (g0_mrg b9) (g0_stm b9) (g0_brk b9) r15 r16 r17 r14 (g0_flts b9) (g0_strs b9) (g0_rwts b9)) H := hP
    refine lv_iload_n hx hb dX0_take_64 rfl (lv_at hl 0 rfl) ?_
    obtain rfl := Option.some.inj hf
    exact xe_wi hx hb hr hlocks hS hP dX0_take_65
theorem cdX0_take : yX0_take.cls = RX0 ∧ yX0_take.cls ≠ "java/lang/invoke/MethodHandle" ∧ yX0_take.cls ≠ "java/lang/invoke/VarHandle" ∧ (parseMethodDescriptor yX0_take.desc).map (fun d => d.parameters.length) = some 2 := by decide +kernel

set_option maxHeartbeats 4000000 in
set_option maxRecDepth 100000 in
theorem c0_throwAll (l : Launch) (dC : Nat → ClassId) (dI : Nat → Nat → Nat) (cs : Nat → ClassId) (a : Nat → Nat) (sz : Nat) (b : BoatS) (res : Int × BoatS) (hf : f0_throwAll b = some res) : Met l yX0_throwAll wsX0_throwAll ({ frames := 4, cells := 0, slots := 0, locals := 90 } : Room) (va_Pc [.ref (a 0)] (xPW (dC, dI) vwCl (w0 cs a b) (xT cs) sz)) (xQi (dC, dI) vwCl (w0 cs a b) (w0 cs a res.2) sz res.1) 0 0 (va_A (w0 cs a b) sz) := by
  refine Met.ofW (cc := cX0_throwAll) (maxL := 2) (ret := (some .int)) (by decide) rfl ?_
  intro p e s m args below meth c s₁ B hml hv
  obtain ⟨rfl, hsz, hP, hK, hD0⟩ := hv
  have hx := B.exec
  have hb := B.bytes
  have hr := B.returns
  have hts := atoms_spec (ws := wsX0_throwAll) B.pre
  have hown : s.vm.findClass RX0 = some m.cls := findClass_of_methodNamed B.named
  have hlocks := B.notSynchronized
  have hin0 : ∀ w ∈ wsX00, w ∈ wsX0_throwAll := by decide +kernel
  subst hsz
  have hD := hD0.self (sz := s.heap.size)
  have hA : ∀ z9 : Nat, s.heap.size ≤ z9 → va_A (w0 cs a b) s.heap.size z9 := fun z9 h => Or.inr h
  have hS : va_S (va_A (w0 cs a b) s.heap.size) s.heap s.heap [] := va_S.rf
  have hl := lv_entry [.ref (a 0)] (n := 2) (Nat.le_of_ble_eq_true rfl)
  rw [lg_entry_eq]
  generalize (lg_sl [.ref (a 0)] ++ List.replicate (2 - (lg_sl [.ref (a 0)]).length) Slot.unset).toArray = ls at hl ⊢
  have hl : lv_has ls 2 [(0, .ref (a 0))] := hl
  unfold f0_throwAll at hf
  refine lv_aload_n hx hb dX0_throwAll_0 rfl (lv_at hl 0 rfl) ?_
  refine xk_iconst hx hb dX0_throwAll_1 ?_
  obtain ⟨v1, ev1, hf⟩ := x_bind hf
  refine xc_ri (As := [.int (iI (-1))]) (rest := []) ⟨hx, hb, hml, hown, hts⟩ (c0_countAt l dC dI cs a b (-1)  _ ev1) (cwV 1 hts gX0_throwAll_X0_countAt rfl rfl rfl cdX0_countAt ⟨Nat.le_of_ble_eq_true rfl, Nat.le_of_ble_eq_true rfl⟩) hK hP [0, 1, 2, 3, 4, 5, 6, 7, 8, 9, 10, 11, 12, 13, 14] rfl 0 rfl rfl rfl hl.1 rfl (Nat.le_of_ble_eq_true rfl) dX0_throwAll_2 ⟨Nat.zero_le _, Nat.zero_le _⟩ ?_
  refine lv_istore_n (lv' := [(1, .int (iI v1)), (0, .ref (a 0))]) hx hb dX0_throwAll_5 rfl hl (by decide) rfl (fun ls hl => ?_)
  have hL6 : ∀ (n3 : Nat) (l1 : Int) (b2 : BoatS), f0_throwAll_L6  n3 l1 b2 = some res → ∀ (H : Heap) (locs : List Loc), va_P (dC, dI) vwCl (w0 cs a b2) H → va_S (va_A (w0 cs a b) s.heap.size) s.heap H locs → ∀ (ls : Array Slot), lv_has ls 2 [(0, .ref (a 0)), (1, .int (iI l1))] → W p l e (headSpec wsX0_throwAll ({ frames := 4, cells := 0, slots := 0, locals := 90 } : Room)).room s m ([.ref (a 0)] : List Value).toArray below meth c H locs 0 0 (MQ below (xQi (dC, dI) vwCl (w0 cs a b) (w0 cs a res.2) s.heap.size res.1) ([.ref (a 0)] : List Value).toArray s 0 0 (va_A (w0 cs a b) s.heap.size)) (F0 m 6 ls []) := by
    intro  n3
    induction n3 with
    | zero => intro l1 b2 hf; have hf : (none : Option (Int × BoatS)) = some res := hf; cases hf
    | succ n3 ih6 =>
      intro l1 b2 hf H locs hP hS ls hl
      rw [f0_throwAll_L6] at hf
      refine lv_iload_n hx hb dX0_throwAll_6 rfl (lv_at hl 1 rfl) ?_
      obtain ⟨c4a, c4b, c4t, c4f⟩ := x_ltE hf
      refine xk_if_le (tgt := 21) hx hb c4b dX0_throwAll_7 (by decide) (fun c4 => ?_) (fun c4 => ?_)
      · have hf := c4t c4
        refine lv_aload_n hx hb dX0_throwAll_10 rfl (lv_at hl 0 rfl) ?_
        obtain ⟨⟨v6, b5⟩, eb5, hf⟩ := x_bind hf
        refine xc_wi (As := []) (rest := []) ⟨hx, hb, hml, hown, hts⟩ (c0_throwOne l dC dI cs a _ b2  _ eb5) (cwV 0 hts gX0_throwAll_X0_throwOne rfl rfl rfl cdX0_throwOne ⟨Nat.le_of_ble_eq_true rfl, Nat.le_of_ble_eq_true rfl⟩) hK hP (x_addr hD rfl) hS hA [0, 1, 2, 3, 4, 5, 6, 7, 8, 9, 10, 11, 12, 13, 14] rfl (by decide) rfl 0 rfl rfl rfl hl.1 rfl (Nat.le_of_ble_eq_true rfl) dX0_throwAll_11 ⟨Nat.zero_le _, Nat.zero_le _⟩ (fun H locs hP hS => ?_)
        have hP : va_P (dC, dI) vwCl (w0 cs a b5) H := hP
        refine lv_pop hx hb dX0_throwAll_14 rfl ?_
        refine xk_iinc (lv' := [(1, .int (iI (l1 + (-1)))), (0, .ref (a 0))]) hx hb dX0_throwAll_15 hl (k := 1) rfl (by decide) rfl (fun ls hl => ?_)
        refine lv_goto (tgt := 6) hx hb dX0_throwAll_18 (by decide) ?_
        exact ih6 (l1 + (-1)) b5 hf _ _ hP hS ls (lv_sub hl [1, 0] rfl)
      · have hf := c4f c4
        refine lv_aload_n hx hb dX0_throwAll_21 rfl (lv_at hl 0 rfl) ?_
        refine xk_iconst hx hb dX0_throwAll_22 ?_
        refine va_put (D := (dC, dI)) (ci := 0) (v := .int (iI (-1))) (ty := .int) (C := RX0) (T := TX0) (N := 14) hx hb hts hin0 tyX0 tyX0_ok nmX0 hown hK hP (x_addr hD rfl) hS 0 rfl rfl 8 (by decide) (hts (.fieldLink RX0 15 "BoatRuns$Boat" "open" "I") (by decide +kernel)) (fun _ h9 => h9) rfl (by decide +kernel) rfl rfl (Nat.le_of_ble_eq_true rfl) dX0_throwAll_23 (fun H locs hP _ hS => ?_)
        have hP : va_P (dC, dI) vwCl (w0C cs a (g0_room b2) (-1) (g0_flo b2) (g0_cst b2) (g0_mrg b2) (g0_stm b2) (g0_brk b2) (g0_keys b2) (g0_weis b2) (g0_homs b2) (g0_ords b2) (g0_flts b2) (g0_strs b2) (g0_rwts b2)) H := hP
        refine lv_aload_n hx hb dX0_throwAll_26 rfl (lv_at hl 0 rfl) ?_
        refine va_get (D := (dC, dI)) (ci := 0) (v := .ref (a 5)) (C := RX0) (T := TX0) (N := 14) hx hb hts hin0 hown hK hP 0 rfl rfl 5 (by decide) (hts (.fieldLink RX0 36 "BoatRuns$Boat" "floats" "LBoatRuns$Row;") (by decide +kernel)) (fun _ h9 => h9) rfl dX0_throwAll_27 ?_
        obtain ⟨v8, ev8, hf⟩ := x_bind hf
        refine xc_ri (As := []) (rest := []) ⟨hx, hb, hml, hown, hts⟩ (c2_size l dC dI cs (a 5) (a 12) 120 (g0_flts b2) (by decide) _ ev8) (cwV 0 hts gX0_throwAll_X2_size rfl rfl rfl cdX2_size ⟨Nat.le_of_ble_eq_true rfl, Nat.le_of_ble_eq_true rfl⟩) hK hP [5, 12] rfl 5 rfl rfl rfl hl.1 rfl (Nat.le_of_ble_eq_true rfl) dX0_throwAll_30 ⟨Nat.zero_le _, Nat.zero_le _⟩ ?_
        obtain rfl := Option.some.inj hf
        exact xe_wi hx hb hr hlocks hS hP dX0_throwAll_33
  exact hL6  xFU v1 b hf _ _ hP hS ls (lv_sub hl [1, 0] rfl)
theorem cdX0_throwAll : yX0_throwAll.cls = RX0 ∧ yX0_throwAll.cls ≠ "java/lang/invoke/MethodHandle" ∧ yX0_throwAll.cls ≠ "java/lang/invoke/VarHandle" ∧ (parseMethodDescriptor yX0_throwAll.desc).map (fun d => d.parameters.length) = some 0 := by decide +kernel

set_option maxHeartbeats 4000000 in
set_option maxRecDepth 100000 in
theorem c0_move (l : Launch) (dC : Nat → ClassId) (dI : Nat → Nat → Nat) (cs : Nat → ClassId) (a : Nat → Nat) (sz : Nat) (b : BoatS) (p0 : Int) (p1 : Int) (res : BoatS) (hf : f0_move b p0 p1 = some res) : Met l yX0_move wsX0_move ({ frames := 1, cells := 0, slots := 0, locals := 22 } : Room) (va_Pc [.ref (a 0), .int (iI p0), .int (iI p1)] (xPW (dC, dI) vwCl (w0 cs a b) (xT cs) sz)) (xQv (dC, dI) vwCl (w0 cs a b) (w0 cs a res) sz) 0 0 (va_A (w0 cs a b) sz) := by
  refine Met.ofW (cc := cX0_move) (maxL := 4) (ret := none) (by decide) rfl ?_
  intro p e s m args below meth c s₁ B hml hv
  obtain ⟨rfl, hsz, hP, hK, hD0⟩ := hv
  have hx := B.exec
  have hb := B.bytes
  have hr := B.returns
  have hts := atoms_spec (ws := wsX0_move) B.pre
  have hown : s.vm.findClass RX0 = some m.cls := findClass_of_methodNamed B.named
  have hlocks := B.notSynchronized
  have hin0 : ∀ w ∈ wsX00, w ∈ wsX0_move := by decide +kernel
  subst hsz
  have hD := hD0.self (sz := s.heap.size)
  have hA : ∀ z9 : Nat, s.heap.size ≤ z9 → va_A (w0 cs a b) s.heap.size z9 := fun z9 h => Or.inr h
  have hS : va_S (va_A (w0 cs a b) s.heap.size) s.heap s.heap [] := va_S.rf
  have hl := lv_entry [.ref (a 0), .int (iI p0), .int (iI p1)] (n := 4) (Nat.le_of_ble_eq_true rfl)
  rw [lg_entry_eq]
  generalize (lg_sl [.ref (a 0), .int (iI p0), .int (iI p1)] ++ List.replicate (4 - (lg_sl [.ref (a 0), .int (iI p0), .int (iI p1)]).length) Slot.unset).toArray = ls at hl ⊢
  have hl : lv_has ls 4 [(0, .ref (a 0)), (1, .int (iI p0)), (2, .int (iI p1))] := hl
  unfold f0_move at hf
  refine xk_iconst hx hb dX0_move_0 ?_
  refine lv_istore_n (lv' := [(3, .int (iI 0)), (0, .ref (a 0)), (1, .int (iI p0)), (2, .int (iI p1))]) hx hb dX0_move_1 rfl hl (by decide) rfl (fun ls hl => ?_)
  have hL2 : ∀ (n2 : Nat) (l3 : Int) (b1 : BoatS), f0_move_L2 p0 p1 n2 l3 b1 = some res → ∀ (H : Heap) (locs : List Loc), va_P (dC, dI) vwCl (w0 cs a b1) H → va_S (va_A (w0 cs a b) s.heap.size) s.heap H locs → ∀ (ls : Array Slot), lv_has ls 4 [(0, .ref (a 0)), (1, .int (iI p0)), (2, .int (iI p1)), (3, .int (iI l3))] → W p l e (headSpec wsX0_move ({ frames := 1, cells := 0, slots := 0, locals := 22 } : Room)).room s m ([.ref (a 0), .int (iI p0), .int (iI p1)] : List Value).toArray below meth c H locs 0 0 (MQ below (xQv (dC, dI) vwCl (w0 cs a b) (w0 cs a res) s.heap.size) ([.ref (a 0), .int (iI p0), .int (iI p1)] : List Value).toArray s 0 0 (va_A (w0 cs a b) s.heap.size)) (F0 m 2 ls []) := by
    intro  n2
    induction n2 with
    | zero => intro l3 b1 hf; have hf : (none : Option (BoatS)) = some res := hf; cases hf
    | succ n2 ih2 =>
      intro l3 b1 hf H locs hP hS ls hl
      rw [f0_move_L2] at hf
      refine lv_iload_n hx hb dX0_move_2 rfl (lv_at hl 3 rfl) ?_
      refine lv_aload_n hx hb dX0_move_3 rfl (lv_at hl 0 rfl) ?_
      refine va_get (D := (dC, dI)) (ci := 0) (v := .ref (a 3)) (C := RX0) (T := TX0) (N := 14) hx hb hts hin0 hown hK hP 0 rfl rfl 3 (by decide) (hts (.fieldLink RX0 30 "BoatRuns$Boat" "homes" "LBoatRuns$Row;") (by decide +kernel)) (fun _ h9 => h9) rfl dX0_move_4 ?_
      obtain ⟨v3, ev3, hf⟩ := x_bind hf
      refine xc_ri (As := []) (rest := [.int (iI l3)]) ⟨hx, hb, hml, hown, hts⟩ (c2_size l dC dI cs (a 3) (a 10) 120 (g0_homs b1) (by decide) _ ev3) (cwV 0 hts gX0_move_X2_size rfl rfl rfl cdX2_size ⟨Nat.le_of_ble_eq_true rfl, Nat.le_of_ble_eq_true rfl⟩) hK hP [3, 10] rfl 3 rfl rfl rfl hl.1 rfl (Nat.le_of_ble_eq_true rfl) dX0_move_7 ⟨Nat.zero_le _, Nat.zero_le _⟩ ?_
      obtain ⟨c4a, c4b, c4t, c4f⟩ := x_ltE hf
      refine xk_icmp_ge (tgt := 40) hx hb c4a c4b dX0_move_10 (by decide) (fun c4 => ?_) (fun c4 => ?_)
      · have hf := c4t c4
        refine lv_aload_n hx hb dX0_move_13 rfl (lv_at hl 0 rfl) ?_
        refine va_get (D := (dC, dI)) (ci := 0) (v := .ref (a 3)) (C := RX0) (T := TX0) (N := 14) hx hb hts hin0 hown hK hP 0 rfl rfl 3 (by decide) (hts (.fieldLink RX0 30 "BoatRuns$Boat" "homes" "LBoatRuns$Row;") (by decide +kernel)) (fun _ h9 => h9) rfl dX0_move_14 ?_
        refine lv_iload_n hx hb dX0_move_17 rfl (lv_at hl 3 rfl) ?_
        obtain ⟨v5, ev5, hf⟩ := x_bind hf
        refine xc_ri (As := [.int (iI l3)]) (rest := []) ⟨hx, hb, hml, hown, hts⟩ (c2_get l dC dI cs (a 3) (a 10) 120 (g0_homs b1) l3 (by decide) _ ev5) (cwV 1 hts gX0_move_X2_get rfl rfl rfl cdX2_get ⟨Nat.le_of_ble_eq_true rfl, Nat.le_of_ble_eq_true rfl⟩) hK hP [3, 10] rfl 3 rfl rfl rfl hl.1 rfl (Nat.le_of_ble_eq_true rfl) dX0_move_18 ⟨Nat.zero_le _, Nat.zero_le _⟩ ?_
        refine lv_iload_n hx hb dX0_move_21 rfl (lv_at hl 1 rfl) ?_
        obtain ⟨c6a, c6b, c6t, c6f⟩ := x_eqE hf
        refine xk_icmp_ne (tgt := 34) hx hb c6a c6b dX0_move_22 (by decide) (fun c6 => ?_) (fun c6 => ?_)
        · have hf := c6t c6
          refine lv_aload_n hx hb dX0_move_25 rfl (lv_at hl 0 rfl) ?_
          refine va_get (D := (dC, dI)) (ci := 0) (v := .ref (a 3)) (C := RX0) (T := TX0) (N := 14) hx hb hts hin0 hown hK hP 0 rfl rfl 3 (by decide) (hts (.fieldLink RX0 30 "BoatRuns$Boat" "homes" "LBoatRuns$Row;") (by decide +kernel)) (fun _ h9 => h9) rfl dX0_move_26 ?_
          refine lv_iload_n hx hb dX0_move_29 rfl (lv_at hl 3 rfl) ?_
          refine lv_iload_n hx hb dX0_move_30 rfl (lv_at hl 2 rfl) ?_
          obtain ⟨r7, er7, hf⟩ := x_bind hf
          refine xc_wv (As := [.int (iI l3), .int (iI p1)]) (rest := []) ⟨hx, hb, hml, hown, hts⟩ (c2_set l dC dI cs (a 3) (a 10) _ 120 (g0_homs b1) l3 p1 (by decide) _ er7) (cwV 2 hts gX0_move_X2_set rfl rfl rfl cdX2_set ⟨Nat.le_of_ble_eq_true rfl, Nat.le_of_ble_eq_true rfl⟩) hK hP (x_addr hD rfl) hS hA [3, 10] rfl (by decide) rfl 3 rfl rfl rfl hl.1 rfl (Nat.le_of_ble_eq_true rfl) dX0_move_31 ⟨Nat.zero_le _, Nat.zero_le _⟩ (fun H locs hP hS => ?_)
          have hP : va_P (dC, dI) vwCl (w0C cs a (g0_room b1) (g0_opn b1) (g0_flo b1) (g0_cst b1) (g0_mrg b1) (g0_stm b1) (g0_brk b1) (g0_keys b1) (g0_weis b1) r7 (g0_ords b1) (g0_flts b1) (g0_strs b1) (g0_rwts b1)) H := hP
          refine xk_iinc (lv' := [(3, .int (iI (l3 + 1))), (0, .ref (a 0)), (1, .int (iI p0)), (2, .int (iI p1))]) hx hb dX0_move_34 hl (k := 3) rfl (by decide) rfl (fun ls hl => ?_)
          refine lv_goto (tgt := 2) hx hb dX0_move_37 (by decide) ?_
          exact ih2 (l3 + 1) (s0_homs b1 r7) hf _ _ hP hS ls (lv_sub hl [1, 2, 3, 0] rfl)
        · have hf := c6f c6
          refine xk_iinc (lv' := [(3, .int (iI (l3 + 1))), (0, .ref (a 0)), (1, .int (iI p0)), (2, .int (iI p1))]) hx hb dX0_move_34 hl (k := 3) rfl (by decide) rfl (fun ls hl => ?_)
          refine lv_goto (tgt := 2) hx hb dX0_move_37 (by decide) ?_
          exact ih2 (l3 + 1) b1 hf _ _ hP hS ls (lv_sub hl [1, 2, 3, 0] rfl)
      · have hf := c4f c4
        obtain rfl := Option.some.inj hf
        exact xe_wv hx hb hr hlocks hS hP dX0_move_40
  exact hL2  xFU 0 b hf _ _ hP hS ls (lv_sub hl [1, 2, 3, 0] rfl)
theorem cdX0_move : yX0_move.cls = RX0 ∧ yX0_move.cls ≠ "java/lang/invoke/MethodHandle" ∧ yX0_move.cls ≠ "java/lang/invoke/VarHandle" ∧ (parseMethodDescriptor yX0_move.desc).map (fun d => d.parameters.length) = some 2 := by decide +kernel

set_option maxHeartbeats 4000000 in
set_option maxRecDepth 100000 in
theorem c0_removeFloat (l : Launch) (dC : Nat → ClassId) (dI : Nat → Nat → Nat) (cs : Nat → ClassId) (a : Nat → Nat) (sz : Nat) (b : BoatS) (p0 : Int) (res : BoatS) (hf : f0_removeFloat b p0 = some res) : Met l yX0_removeFloat wsX0_removeFloat ({ frames := 1, cells := 0, slots := 0, locals := 22 } : Room) (va_Pc [.ref (a 0), .int (iI p0)] (xPW (dC, dI) vwCl (w0 cs a b) (xT cs) sz)) (xQv (dC, dI) vwCl (w0 cs a b) (w0 cs a res) sz) 0 0 (va_A (w0 cs a b) sz) := by
  refine Met.ofW (cc := cX0_removeFloat) (maxL := 2) (ret := none) (by decide) rfl ?_
  intro p e s m args below meth c s₁ B hml hv
  obtain ⟨rfl, hsz, hP, hK, hD0⟩ := hv
  have hx := B.exec
  have hb := B.bytes
  have hr := B.returns
  have hts := atoms_spec (ws := wsX0_removeFloat) B.pre
  have hown : s.vm.findClass RX0 = some m.cls := findClass_of_methodNamed B.named
  have hlocks := B.notSynchronized
  have hin0 : ∀ w ∈ wsX00, w ∈ wsX0_removeFloat := by decide +kernel
  subst hsz
  have hD := hD0.self (sz := s.heap.size)
  have hA : ∀ z9 : Nat, s.heap.size ≤ z9 → va_A (w0 cs a b) s.heap.size z9 := fun z9 h => Or.inr h
  have hS : va_S (va_A (w0 cs a b) s.heap.size) s.heap s.heap [] := va_S.rf
  have hl := lv_entry [.ref (a 0), .int (iI p0)] (n := 2) (Nat.le_of_ble_eq_true rfl)
  rw [lg_entry_eq]
  generalize (lg_sl [.ref (a 0), .int (iI p0)] ++ List.replicate (2 - (lg_sl [.ref (a 0), .int (iI p0)]).length) Slot.unset).toArray = ls at hl ⊢
  have hl : lv_has ls 2 [(0, .ref (a 0)), (1, .int (iI p0))] := hl
  unfold f0_removeFloat at hf
  refine lv_aload_n hx hb dX0_removeFloat_0 rfl (lv_at hl 0 rfl) ?_
  refine va_get (D := (dC, dI)) (ci := 0) (v := .ref (a 5)) (C := RX0) (T := TX0) (N := 14) hx hb hts hin0 hown hK hP 0 rfl rfl 5 (by decide) (hts (.fieldLink RX0 36 "BoatRuns$Boat" "floats" "LBoatRuns$Row;") (by decide +kernel)) (fun _ h9 => h9) rfl dX0_removeFloat_1 ?_
  refine lv_iload_n hx hb dX0_removeFloat_4 rfl (lv_at hl 1 rfl) ?_
  obtain ⟨r1, er1, hf⟩ := x_bind hf
  refine xc_wv (As := [.int (iI p0)]) (rest := []) ⟨hx, hb, hml, hown, hts⟩ (c2_remove l dC dI cs (a 5) (a 12) _ 120 (g0_flts b) p0 (by decide) _ er1) (cwV 1 hts gX0_removeFloat_X2_remove rfl rfl rfl cdX2_remove ⟨Nat.le_of_ble_eq_true rfl, Nat.le_of_ble_eq_true rfl⟩) hK hP (x_addr hD rfl) hS hA [5, 12] rfl (by decide) rfl 5 rfl rfl rfl hl.1 rfl (Nat.le_of_ble_eq_true rfl) dX0_removeFloat_5 ⟨Nat.zero_le _, Nat.zero_le _⟩ (fun H locs hP hS => ?_)
  have hP : va_P (dC, dI) vwCl (w0C cs a (g0_room b) (g0_opn b) (g0_flo b) (g0_cst b) (g0_mrg b) (g0_stm b) (g0_brk b) (g0_keys b) (g0_weis b) (g0_homs b) (g0_ords b) r1 (g0_strs b) (g0_rwts b)) H := hP
  refine lv_aload_n hx hb dX0_removeFloat_8 rfl (lv_at hl 0 rfl) ?_
  refine va_get (D := (dC, dI)) (ci := 0) (v := .ref (a 6)) (C := RX0) (T := TX0) (N := 14) hx hb hts hin0 hown hK hP 0 rfl rfl 6 (by decide) (hts (.fieldLink RX0 39 "BoatRuns$Boat" "strengths" "LBoatRuns$Row;") (by decide +kernel)) (fun _ h9 => h9) rfl dX0_removeFloat_9 ?_
  refine lv_iload_n hx hb dX0_removeFloat_12 rfl (lv_at hl 1 rfl) ?_
  obtain ⟨r2, er2, hf⟩ := x_bind hf
  refine xc_wv (As := [.int (iI p0)]) (rest := []) ⟨hx, hb, hml, hown, hts⟩ (c2_remove l dC dI cs (a 6) (a 13) _ 120 (g0_strs b) p0 (by decide) _ er2) (cwV 1 hts gX0_removeFloat_X2_remove rfl rfl rfl cdX2_remove ⟨Nat.le_of_ble_eq_true rfl, Nat.le_of_ble_eq_true rfl⟩) hK hP (x_addr hD rfl) hS hA [6, 13] rfl (by decide) rfl 6 rfl rfl rfl hl.1 rfl (Nat.le_of_ble_eq_true rfl) dX0_removeFloat_13 ⟨Nat.zero_le _, Nat.zero_le _⟩ (fun H locs hP hS => ?_)
  have hP : va_P (dC, dI) vwCl (w0C cs a (g0_room b) (g0_opn b) (g0_flo b) (g0_cst b) (g0_mrg b) (g0_stm b) (g0_brk b) (g0_keys b) (g0_weis b) (g0_homs b) (g0_ords b) r1 r2 (g0_rwts b)) H := hP
  refine lv_aload_n hx hb dX0_removeFloat_16 rfl (lv_at hl 0 rfl) ?_
  refine va_get (D := (dC, dI)) (ci := 0) (v := .ref (a 7)) (C := RX0) (T := TX0) (N := 14) hx hb hts hin0 hown hK hP 0 rfl rfl 7 (by decide) (hts (.fieldLink RX0 42 "BoatRuns$Boat" "runWeights" "LBoatRuns$Row;") (by decide +kernel)) (fun _ h9 => h9) rfl dX0_removeFloat_17 ?_
  refine lv_iload_n hx hb dX0_removeFloat_20 rfl (lv_at hl 1 rfl) ?_
  obtain ⟨r3, er3, hf⟩ := x_bind hf
  refine xc_wv (As := [.int (iI p0)]) (rest := []) ⟨hx, hb, hml, hown, hts⟩ (c2_remove l dC dI cs (a 7) (a 14) _ 120 (g0_rwts b) p0 (by decide) _ er3) (cwV 1 hts gX0_removeFloat_X2_remove rfl rfl rfl cdX2_remove ⟨Nat.le_of_ble_eq_true rfl, Nat.le_of_ble_eq_true rfl⟩) hK hP (x_addr hD rfl) hS hA [7, 14] rfl (by decide) rfl 7 rfl rfl rfl hl.1 rfl (Nat.le_of_ble_eq_true rfl) dX0_removeFloat_21 ⟨Nat.zero_le _, Nat.zero_le _⟩ (fun H locs hP hS => ?_)
  have hP : va_P (dC, dI) vwCl (w0C cs a (g0_room b) (g0_opn b) (g0_flo b) (g0_cst b) (g0_mrg b) (g0_stm b) (g0_brk b) (g0_keys b) (g0_weis b) (g0_homs b) (g0_ords b) r1 r2 r3) H := hP
  obtain rfl := Option.some.inj hf
  exact xe_wv hx hb hr hlocks hS hP dX0_removeFloat_24
theorem cdX0_removeFloat : yX0_removeFloat.cls = RX0 ∧ yX0_removeFloat.cls ≠ "java/lang/invoke/MethodHandle" ∧ yX0_removeFloat.cls ≠ "java/lang/invoke/VarHandle" ∧ (parseMethodDescriptor yX0_removeFloat.desc).map (fun d => d.parameters.length) = some 1 := by decide +kernel

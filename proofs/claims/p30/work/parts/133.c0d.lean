set_option maxHeartbeats 4000000 in
set_option maxRecDepth 100000 in
theorem c0_join (l : Launch) (dC : Nat → ClassId) (dI : Nat → Nat → Nat) (cs : Nat → ClassId) (a : Nat → Nat) (sz : Nat) (b : BoatS) (p0 : Int) (p1 : Int) (res : Int × BoatS) (hf : f0_join b p0 p1 = some res) : Met l yX0_join wsX0_join ({ frames := 2, cells := 0, slots := 0, locals := 45 } : Room) (va_Pc [.ref (a 0), .int (iI p0), .int (iI p1)] (xPW (dC, dI) vwCl (w0 cs a b) (xT cs) sz)) (xQi (dC, dI) vwCl (w0 cs a b) (w0 cs a res.2) sz res.1) 0 0 (va_A (w0 cs a b) sz) := by
  refine Met.ofW (cc := cX0_join) (maxL := 8) (ret := (some .int)) (by decide) rfl ?_
  intro p e s m args below meth c s₁ B hml hv
  obtain ⟨rfl, hsz, hP, hK, hD0⟩ := hv
  have hx := B.exec
  have hb := B.bytes
  have hr := B.returns
  have hts := atoms_spec (ws := wsX0_join) B.pre
  have hown : s.vm.findClass RX0 = some m.cls := findClass_of_methodNamed B.named
  have hlocks := B.notSynchronized
  have hin0 : ∀ w ∈ wsX00, w ∈ wsX0_join := by decide +kernel
  subst hsz
  have hD := hD0.self (sz := s.heap.size)
  have hA : ∀ z9 : Nat, s.heap.size ≤ z9 → va_A (w0 cs a b) s.heap.size z9 := fun z9 h => Or.inr h
  have hS : va_S (va_A (w0 cs a b) s.heap.size) s.heap s.heap [] := va_S.rf
  have hl := lv_entry [.ref (a 0), .int (iI p0), .int (iI p1)] (n := 8) (Nat.le_of_ble_eq_true rfl)
  rw [lg_entry_eq]
  generalize (lg_sl [.ref (a 0), .int (iI p0), .int (iI p1)] ++ List.replicate (8 - (lg_sl [.ref (a 0), .int (iI p0), .int (iI p1)]).length) Slot.unset).toArray = ls at hl ⊢
  have hl : lv_has ls 8 [(0, .ref (a 0)), (1, .int (iI p0)), (2, .int (iI p1))] := hl
  unfold f0_join at hf
  refine lv_iload_n hx hb dX0_join_0 rfl (lv_at hl 1 rfl) ?_
  refine lv_iload_n hx hb dX0_join_1 rfl (lv_at hl 2 rfl) ?_
  obtain ⟨v1, ev1, hf⟩ := x_bind hf
  refine xk_mmin hx hb (by rw [hml]; exact hl.1.symm) hown (hts (.methodLink RX0 136 Lib.Math.min.name) (by decide +kernel)) (hts (.static Lib.Math.min.name) (by decide +kernel)) (hts (.initialized "java/lang/Math") (by decide +kernel)) (hts (.code Lib.Math.min.name Lib.Math.min.code 2 (some .int)) (by decide +kernel)) (Nat.le_of_ble_eq_true rfl) (Nat.le_of_ble_eq_true rfl) (Nat.zero_le _) (Nat.zero_le _) ev1 dX0_join_2 ?_
  refine lv_istore_n (lv' := [(3, .int (iI v1)), (0, .ref (a 0)), (1, .int (iI p0)), (2, .int (iI p1))]) hx hb dX0_join_5 rfl hl (by decide) rfl (fun ls hl => ?_)
  refine lv_iload_n hx hb dX0_join_6 rfl (lv_at hl 2 rfl) ?_
  refine lv_iload_n hx hb dX0_join_7 rfl (lv_at hl 3 rfl) ?_
  obtain ⟨v2, ev2, hf⟩ := x_bind hf
  refine xk_mmax hx hb (by rw [hml]; exact hl.1.symm) hown (hts (.methodLink RX0 141 Lib.Math.max.name) (by decide +kernel)) (hts (.static Lib.Math.max.name) (by decide +kernel)) (hts (.initialized "java/lang/Math") (by decide +kernel)) (hts (.code Lib.Math.max.name Lib.Math.max.code 2 (some .int)) (by decide +kernel)) (Nat.le_of_ble_eq_true rfl) (Nat.le_of_ble_eq_true rfl) (Nat.zero_le _) (Nat.zero_le _) ev2 dX0_join_8 ?_
  refine lv_istore (lv' := [(4, .int (iI v2)), (3, .int (iI v1)), (0, .ref (a 0)), (1, .int (iI p0)), (2, .int (iI p1))]) hx hb dX0_join_11 hl (by decide) rfl (fun ls hl => ?_)
  refine lv_aload_n hx hb dX0_join_13 rfl (lv_at hl 2 rfl) ?_
  refine lv_iload hx hb dX0_join_14 (lv_at hl 0 rfl) ?_
  refine lv_iload_n hx hb dX0_join_16 rfl (lv_at hl 1 rfl) ?_
  obtain ⟨b3, eb3, hf⟩ := x_bind hf
  refine xc_wv (As := [.int (iI v2), .int (iI v1)]) (rest := []) ⟨hx, hb, hml, hown, hts⟩ (c0_move l dC dI cs a _ b v2 v1  _ eb3) (cwV 2 hts gX0_join_X0_move rfl rfl rfl cdX0_move ⟨Nat.le_of_ble_eq_true rfl, Nat.le_of_ble_eq_true rfl⟩) hK hP (x_addr hD rfl) hS hA [0, 1, 2, 3, 4, 5, 6, 7, 8, 9, 10, 11, 12, 13, 14] rfl (by decide) rfl 0 rfl rfl rfl hl.1 rfl (Nat.le_of_ble_eq_true rfl) dX0_join_17 ⟨Nat.zero_le _, Nat.zero_le _⟩ (fun H locs hP hS => ?_)
  have hP : va_P (dC, dI) vwCl (w0 cs a b3) H := hP
  refine lv_aload_n hx hb dX0_join_20 rfl (lv_at hl 2 rfl) ?_
  refine va_get (D := (dC, dI)) (ci := 0) (v := .ref (a 5)) (C := RX0) (T := TX0) (N := 14) hx hb hts hin0 hown hK hP 0 rfl rfl 5 (by decide) (hts (.fieldLink RX0 36 "BoatRuns$Boat" "floats" "LBoatRuns$Row;") (by decide +kernel)) (fun _ h9 => h9) rfl dX0_join_21 ?_
  refine lv_iload_n hx hb dX0_join_24 rfl (lv_at hl 1 rfl) ?_
  obtain ⟨v4, ev4, hf⟩ := x_bind hf
  refine xc_ri (As := [.int (iI v1)]) (rest := []) ⟨hx, hb, hml, hown, hts⟩ (c2_indexOf l dC dI cs (a 5) (a 12) 120 (g0_flts b3) v1 (by decide) _ ev4) (cwV 1 hts gX0_join_X2_indexOf rfl rfl rfl cdX2_indexOf ⟨Nat.le_of_ble_eq_true rfl, Nat.le_of_ble_eq_true rfl⟩) hK hP [5, 12] rfl 5 rfl rfl rfl hl.1 rfl (Nat.le_of_ble_eq_true rfl) dX0_join_25 ⟨Nat.zero_le _, Nat.zero_le _⟩ ?_
  refine lv_istore (lv' := [(5, .int (iI v4)), (4, .int (iI v2)), (3, .int (iI v1)), (0, .ref (a 0)), (1, .int (iI p0)), (2, .int (iI p1))]) hx hb dX0_join_28 hl (by decide) rfl (fun ls hl => ?_)
  refine lv_aload_n hx hb dX0_join_30 rfl (lv_at hl 3 rfl) ?_
  refine va_get (D := (dC, dI)) (ci := 0) (v := .ref (a 5)) (C := RX0) (T := TX0) (N := 14) hx hb hts hin0 hown hK hP 0 rfl rfl 5 (by decide) (hts (.fieldLink RX0 36 "BoatRuns$Boat" "floats" "LBoatRuns$Row;") (by decide +kernel)) (fun _ h9 => h9) rfl dX0_join_31 ?_
  refine lv_iload hx hb dX0_join_34 (lv_at hl 1 rfl) ?_
  obtain ⟨v5, ev5, hf⟩ := x_bind hf
  refine xc_ri (As := [.int (iI v2)]) (rest := []) ⟨hx, hb, hml, hown, hts⟩ (c2_indexOf l dC dI cs (a 5) (a 12) 120 (g0_flts b3) v2 (by decide) _ ev5) (cwV 1 hts gX0_join_X2_indexOf rfl rfl rfl cdX2_indexOf ⟨Nat.le_of_ble_eq_true rfl, Nat.le_of_ble_eq_true rfl⟩) hK hP [5, 12] rfl 5 rfl rfl rfl hl.1 rfl (Nat.le_of_ble_eq_true rfl) dX0_join_36 ⟨Nat.zero_le _, Nat.zero_le _⟩ ?_
  refine lv_istore (lv' := [(6, .int (iI v5)), (5, .int (iI v4)), (4, .int (iI v2)), (3, .int (iI v1)), (0, .ref (a 0)), (1, .int (iI p0)), (2, .int (iI p1))]) hx hb dX0_join_39 hl (by decide) rfl (fun ls hl => ?_)
  refine lv_aload_n hx hb dX0_join_41 rfl (lv_at hl 4 rfl) ?_
  refine va_get (D := (dC, dI)) (ci := 0) (v := .ref (a 7)) (C := RX0) (T := TX0) (N := 14) hx hb hts hin0 hown hK hP 0 rfl rfl 7 (by decide) (hts (.fieldLink RX0 42 "BoatRuns$Boat" "runWeights" "LBoatRuns$Row;") (by decide +kernel)) (fun _ h9 => h9) rfl dX0_join_42 ?_
  refine lv_iload hx hb dX0_join_45 (lv_at hl 1 rfl) ?_
  refine lv_aload_n hx hb dX0_join_47 rfl (lv_at hl 4 rfl) ?_
  refine va_get (D := (dC, dI)) (ci := 0) (v := .ref (a 7)) (C := RX0) (T := TX0) (N := 14) hx hb hts hin0 hown hK hP 0 rfl rfl 7 (by decide) (hts (.fieldLink RX0 42 "BoatRuns$Boat" "runWeights" "LBoatRuns$Row;") (by decide +kernel)) (fun _ h9 => h9) rfl dX0_join_48 ?_
  refine lv_iload hx hb dX0_join_51 (lv_at hl 0 rfl) ?_
  obtain ⟨v6, ev6, hf⟩ := x_bind hf
  refine xc_ri (As := [.int (iI v5)]) (rest := [.int (iI v4), .ref (a 7)]) ⟨hx, hb, hml, hown, hts⟩ (c2_get l dC dI cs (a 7) (a 14) 120 (g0_rwts b3) v5 (by decide) _ ev6) (cwV 1 hts gX0_join_X2_get rfl rfl rfl cdX2_get ⟨Nat.le_of_ble_eq_true rfl, Nat.le_of_ble_eq_true rfl⟩) hK hP [7, 14] rfl 7 rfl rfl rfl hl.1 rfl (Nat.le_of_ble_eq_true rfl) dX0_join_53 ⟨Nat.zero_le _, Nat.zero_le _⟩ ?_
  obtain ⟨r7, er7, hf⟩ := x_bind hf
  refine xc_wv (As := [.int (iI v4), .int (iI v6)]) (rest := []) ⟨hx, hb, hml, hown, hts⟩ (c2_increase l dC dI cs (a 7) (a 14) _ 120 (g0_rwts b3) v4 v6 (by decide) _ er7) (cwV 2 hts gX0_join_X2_increase rfl rfl rfl cdX2_increase ⟨Nat.le_of_ble_eq_true rfl, Nat.le_of_ble_eq_true rfl⟩) hK hP (x_addr hD rfl) hS hA [7, 14] rfl (by decide) rfl 7 rfl rfl rfl hl.1 rfl (Nat.le_of_ble_eq_true rfl) dX0_join_56 ⟨Nat.zero_le _, Nat.zero_le _⟩ (fun H locs hP hS => ?_)
  have hP : va_P (dC, dI) vwCl (w0C cs a (g0_room b3) (g0_opn b3) (g0_flo b3) (g0_cst b3) (g0_mrg b3) (g0_stm b3) (g0_brk b3) (g0_keys b3) (g0_weis b3) (g0_homs b3) (g0_ords b3) (g0_flts b3) (g0_strs b3) r7) H := hP
  refine lv_aload_n hx hb dX0_join_59 rfl (lv_at hl 4 rfl) ?_
  refine lv_iload hx hb dX0_join_60 (lv_at hl 0 rfl) ?_
  obtain ⟨b8, eb8, hf⟩ := x_bind hf
  refine xc_wv (As := [.int (iI v5)]) (rest := []) ⟨hx, hb, hml, hown, hts⟩ (c0_removeFloat l dC dI cs a _ (s0_rwts b3 r7) v5  _ eb8) (cwV 1 hts gX0_join_X0_removeFloat rfl rfl rfl cdX0_removeFloat ⟨Nat.le_of_ble_eq_true rfl, Nat.le_of_ble_eq_true rfl⟩) hK hP (x_addr hD rfl) hS hA [0, 1, 2, 3, 4, 5, 6, 7, 8, 9, 10, 11, 12, 13, 14] rfl (by decide) rfl 0 rfl rfl rfl hl.1 rfl (Nat.le_of_ble_eq_true rfl) dX0_join_62 ⟨Nat.zero_le _, Nat.zero_le _⟩ (fun H locs hP hS => ?_)
  have hP : va_P (dC, dI) vwCl (w0 cs a b8) H := hP
  refine lv_aload_n hx hb dX0_join_65 rfl (lv_at hl 4 rfl) ?_
  refine va_get (D := (dC, dI)) (ci := 0) (v := .int (iI (g0_opn b8))) (C := RX0) (T := TX0) (N := 14) hx hb hts hin0 hown hK hP 0 rfl rfl 8 (by decide) (hts (.fieldLink RX0 15 "BoatRuns$Boat" "open" "I") (by decide +kernel)) (fun _ h9 => h9) rfl dX0_join_66 ?_
  refine lv_iload_n hx hb dX0_join_69 rfl (lv_at hl 5 rfl) ?_
  obtain ⟨c9a, c9b, c9t, c9f⟩ := x_eqE hf
  refine xk_icmp_eq (tgt := 81) hx hb c9a c9b dX0_join_70 (by decide) (fun c9 => ?_) (fun c9 => ?_)
  · have hf := c9t c9
    refine lv_aload_n hx hb dX0_join_81 rfl (lv_at hl 4 rfl) ?_
    refine xk_iconst hx hb dX0_join_82 ?_
    refine va_put (D := (dC, dI)) (ci := 0) (v := .int (iI (-1))) (ty := .int) (C := RX0) (T := TX0) (N := 14) hx hb hts hin0 tyX0 tyX0_ok nmX0 hown hK hP (x_addr hD rfl) hS 0 rfl rfl 8 (by decide) (hts (.fieldLink RX0 15 "BoatRuns$Boat" "open" "I") (by decide +kernel)) (fun _ h9 => h9) rfl (by decide +kernel) rfl rfl (Nat.le_of_ble_eq_true rfl) dX0_join_83 (fun H locs hP _ hS => ?_)
    have hP : va_P (dC, dI) vwCl (w0C cs a (g0_room b8) (-1) (g0_flo b8) (g0_cst b8) (g0_mrg b8) (g0_stm b8) (g0_brk b8) (g0_keys b8) (g0_weis b8) (g0_homs b8) (g0_ords b8) (g0_flts b8) (g0_strs b8) (g0_rwts b8)) H := hP
    refine lv_aload_n hx hb dX0_join_86 rfl (lv_at hl 4 rfl) ?_
    refine va_get (D := (dC, dI)) (ci := 0) (v := .ref (a 7)) (C := RX0) (T := TX0) (N := 14) hx hb hts hin0 hown hK hP 0 rfl rfl 7 (by decide) (hts (.fieldLink RX0 42 "BoatRuns$Boat" "runWeights" "LBoatRuns$Row;") (by decide +kernel)) (fun _ h9 => h9) rfl dX0_join_87 ?_
    refine lv_iload hx hb dX0_join_90 (lv_at hl 1 rfl) ?_
    obtain ⟨v10, ev10, hf⟩ := x_bind hf
    refine xc_ri (As := [.int (iI v4)]) (rest := []) ⟨hx, hb, hml, hown, hts⟩ (c2_get l dC dI cs (a 7) (a 14) 120 (g0_rwts b8) v4 (by decide) _ ev10) (cwV 1 hts gX0_join_X2_get rfl rfl rfl cdX2_get ⟨Nat.le_of_ble_eq_true rfl, Nat.le_of_ble_eq_true rfl⟩) hK hP [7, 14] rfl 7 rfl rfl rfl hl.1 rfl (Nat.le_of_ble_eq_true rfl) dX0_join_92 ⟨Nat.zero_le _, Nat.zero_le _⟩ ?_
    refine lv_istore (lv' := [(7, .int (iI v10)), (6, .int (iI v5)), (5, .int (iI v4)), (4, .int (iI v2)), (3, .int (iI v1)), (0, .ref (a 0)), (1, .int (iI p0)), (2, .int (iI p1))]) hx hb dX0_join_95 hl (by decide) rfl (fun ls hl => ?_)
    refine lv_aload_n hx hb dX0_join_97 rfl (lv_at hl 5 rfl) ?_
    refine lv_dup hx hb dX0_join_98 rfl ?_
    refine va_get (D := (dC, dI)) (ci := 0) (v := .int (iI (g0_cst b8))) (C := RX0) (T := TX0) (N := 14) hx hb hts hin0 hown hK hP 0 rfl rfl 10 (by decide) (hts (.fieldLink RX0 51 "BoatRuns$Boat" "costs" "I") (by decide +kernel)) (fun _ h9 => h9) rfl dX0_join_99 ?_
    refine lv_iload hx hb dX0_join_102 (lv_at hl 0 rfl) ?_
    refine xk_iadd hx hb dX0_join_104 ?_
    refine va_put (D := (dC, dI)) (ci := 0) (v := .int (iI (g0_cst b8 + v10))) (ty := .int) (C := RX0) (T := TX0) (N := 14) hx hb hts hin0 tyX0 tyX0_ok nmX0 hown hK hP (x_addr hD rfl) hS 0 rfl rfl 10 (by decide) (hts (.fieldLink RX0 51 "BoatRuns$Boat" "costs" "I") (by decide +kernel)) (fun _ h9 => h9) rfl (by decide +kernel) rfl rfl (Nat.le_of_ble_eq_true rfl) dX0_join_105 (fun H locs hP _ hS => ?_)
    have hP : va_P (dC, dI) vwCl (w0C cs a (g0_room b8) (-1) (g0_flo b8) (g0_cst b8 + v10) (g0_mrg b8) (g0_stm b8) (g0_brk b8) (g0_keys b8) (g0_weis b8) (g0_homs b8) (g0_ords b8) (g0_flts b8) (g0_strs b8) (g0_rwts b8)) H := hP
    refine lv_aload_n hx hb dX0_join_108 rfl (lv_at hl 5 rfl) ?_
    refine lv_dup hx hb dX0_join_109 rfl ?_
    refine va_get (D := (dC, dI)) (ci := 0) (v := .int (iI (g0_mrg b8))) (C := RX0) (T := TX0) (N := 14) hx hb hts hin0 hown hK hP 0 rfl rfl 11 (by decide) (hts (.fieldLink RX0 54 "BoatRuns$Boat" "merges" "I") (by decide +kernel)) (fun _ h9 => h9) rfl dX0_join_110 ?_
    refine xk_iconst hx hb dX0_join_113 ?_
    refine xk_iadd hx hb dX0_join_114 ?_
    refine va_put (D := (dC, dI)) (ci := 0) (v := .int (iI (g0_mrg b8 + 1))) (ty := .int) (C := RX0) (T := TX0) (N := 14) hx hb hts hin0 tyX0 tyX0_ok nmX0 hown hK hP (x_addr hD rfl) hS 0 rfl rfl 11 (by decide) (hts (.fieldLink RX0 54 "BoatRuns$Boat" "merges" "I") (by decide +kernel)) (fun _ h9 => h9) rfl (by decide +kernel) rfl rfl (Nat.le_of_ble_eq_true rfl) dX0_join_115 (fun H locs hP _ hS => ?_)
    have hP : va_P (dC, dI) vwCl (w0C cs a (g0_room b8) (-1) (g0_flo b8) (g0_cst b8 + v10) (g0_mrg b8 + 1) (g0_stm b8) (g0_brk b8) (g0_keys b8) (g0_weis b8) (g0_homs b8) (g0_ords b8) (g0_flts b8) (g0_strs b8) (g0_rwts b8)) H := hP
    refine lv_iload hx hb dX0_join_118 (lv_at hl 0 rfl) ?_
    obtain rfl := Option.some.inj hf
    exact xe_wi hx hb hr hlocks hS hP dX0_join_120
  · have hf := c9f c9
    refine lv_aload_n hx hb dX0_join_73 rfl (lv_at hl 4 rfl) ?_
    refine va_get (D := (dC, dI)) (ci := 0) (v := .int (iI (g0_opn b8))) (C := RX0) (T := TX0) (N := 14) hx hb hts hin0 hown hK hP 0 rfl rfl 8 (by decide) (hts (.fieldLink RX0 15 "BoatRuns$Boat" "open" "I") (by decide +kernel)) (fun _ h9 => h9) rfl dX0_join_74 ?_
    refine lv_iload_n hx hb dX0_join_77 rfl (lv_at hl 6 rfl) ?_
    obtain ⟨c11a, c11b, c11t, c11f⟩ := x_eqE hf
    refine xk_icmp_ne (tgt := 86) hx hb c11a c11b dX0_join_78 (by decide) (fun c11 => ?_) (fun c11 => ?_)
    · have hf := c11t c11
      refine lv_aload_n hx hb dX0_join_81 rfl (lv_at hl 4 rfl) ?_
      refine xk_iconst hx hb dX0_join_82 ?_
      refine va_put (D := (dC, dI)) (ci := 0) (v := .int (iI (-1))) (ty := .int) (C := RX0) (T := TX0) (N := 14) hx hb hts hin0 tyX0 tyX0_ok nmX0 hown hK hP (x_addr hD rfl) hS 0 rfl rfl 8 (by decide) (hts (.fieldLink RX0 15 "BoatRuns$Boat" "open" "I") (by decide +kernel)) (fun _ h9 => h9) rfl (by decide +kernel) rfl rfl (Nat.le_of_ble_eq_true rfl) dX0_join_83 (fun H locs hP _ hS => ?_)
      have hP : va_P (dC, dI) vwCl (w0C cs a (g0_room b8) (-1) (g0_flo b8) (g0_cst b8) (g0_mrg b8) (g0_stm b8) (g0_brk b8) (g0_keys b8) (g0_weis b8) (g0_homs b8) (g0_ords b8) (g0_flts b8) (g0_strs b8) (g0_rwts b8)) H := hP
      refine lv_aload_n hx hb dX0_join_86 rfl (lv_at hl 4 rfl) ?_
      refine va_get (D := (dC, dI)) (ci := 0) (v := .ref (a 7)) (C := RX0) (T := TX0) (N := 14) hx hb hts hin0 hown hK hP 0 rfl rfl 7 (by decide) (hts (.fieldLink RX0 42 "BoatRuns$Boat" "runWeights" "LBoatRuns$Row;") (by decide +kernel)) (fun _ h9 => h9) rfl dX0_join_87 ?_
      refine lv_iload hx hb dX0_join_90 (lv_at hl 1 rfl) ?_
      obtain ⟨v12, ev12, hf⟩ := x_bind hf
      refine xc_ri (As := [.int (iI v4)]) (rest := []) ⟨hx, hb, hml, hown, hts⟩ (c2_get l dC dI cs (a 7) (a 14) 120 (g0_rwts b8) v4 (by decide) _ ev12) (cwV 1 hts gX0_join_X2_get rfl rfl rfl cdX2_get ⟨Nat.le_of_ble_eq_true rfl, Nat.le_of_ble_eq_true rfl⟩) hK hP [7, 14] rfl 7 rfl rfl rfl hl.1 rfl (Nat.le_of_ble_eq_true rfl) dX0_join_92 ⟨Nat.zero_le _, Nat.zero_le _⟩ ?_
      refine lv_istore (lv' := [(7, .int (iI v12)), (6, .int (iI v5)), (5, .int (iI v4)), (4, .int (iI v2)), (3, .int (iI v1)), (0, .ref (a 0)), (1, .int (iI p0)), (2, .int (iI p1))]) hx hb dX0_join_95 hl (by decide) rfl (fun ls hl => ?_)
      refine lv_aload_n hx hb dX0_join_97 rfl (lv_at hl 5 rfl) ?_
      refine lv_dup hx hb dX0_join_98 rfl ?_
      refine va_get (D := (dC, dI)) (ci := 0) (v := .int (iI (g0_cst b8))) (C := RX0) (T := TX0) (N := 14) hx hb hts hin0 hown hK hP 0 rfl rfl 10 (by decide) (hts (.fieldLink RX0 51 "BoatRuns$Boat" "costs" "I") (by decide +kernel)) (fun _ h9 => h9) rfl dX0_join_99 ?_
      refine lv_iload hx hb dX0_join_102 (lv_at hl 0 rfl) ?_
      refine xk_iadd hx hb dX0_join_104 ?_
      refine va_put (D := (dC, dI)) (ci := 0) (v := .int (iI (g0_cst b8 + v12))) (ty := .int) (C := RX0) (T := TX0) (N := 14) hx hb hts hin0 tyX0 tyX0_ok nmX0 hown hK hP (x_addr hD rfl) hS 0 rfl rfl 10 (by decide) (hts (.fieldLink RX0 51 "BoatRuns$Boat" "costs" "I") (by decide +kernel)) (fun _ h9 => h9) rfl (by decide +kernel) rfl rfl (Nat.le_of_ble_eq_true rfl) dX0_join_105 (fun H locs hP _ hS => ?_)
      have hP : va_P (dC, dI) vwCl (w0C cs a (g0_room b8) (-1) (g0_flo b8) (g0_cst b8 + v12) (g0_mrg b8) (g0_stm b8) (g0_brk b8) (g0_keys b8) (g0_weis b8) (g0_homs b8) (g0_ords b8) (g0_flts b8) (g0_strs b8) (g0_rwts b8)) H := hP
      refine lv_aload_n hx hb dX0_join_108 rfl (lv_at hl 5 rfl) ?_
      refine lv_dup hx hb dX0_join_109 rfl ?_
      refine va_get (D := (dC, dI)) (ci := 0) (v := .int (iI (g0_mrg b8))) (C := RX0) (T := TX0) (N := 14) hx hb hts hin0 hown hK hP 0 rfl rfl 11 (by decide) (hts (.fieldLink RX0 54 "BoatRuns$Boat" "merges" "I") (by decide +kernel)) (fun _ h9 => h9) rfl dX0_join_110 ?_
      refine xk_iconst hx hb dX0_join_113 ?_
      refine xk_iadd hx hb dX0_join_114 ?_
      refine va_put (D := (dC, dI)) (ci := 0) (v := .int (iI (g0_mrg b8 + 1))) (ty := .int) (C := RX0) (T := TX0) (N := 14) hx hb hts hin0 tyX0 tyX0_ok nmX0 hown hK hP (x_addr hD rfl) hS 0 rfl rfl 11 (by decide) (hts (.fieldLink RX0 54 "BoatRuns$Boat" "merges" "I") (by decide +kernel)) (fun _ h9 => h9) rfl (by decide +kernel) rfl rfl (Nat.le_of_ble_eq_true rfl) dX0_join_115 (fun H locs hP _ hS => ?_)
      have hP : va_P (dC, dI) vwCl (w0C cs a (g0_room b8) (-1) (g0_flo b8) (g0_cst b8 + v12) (g0_mrg b8 + 1) (g0_stm b8) (g0_brk b8) (g0_keys b8) (g0_weis b8) (g0_homs b8) (g0_ords b8) (g0_flts b8) (g0_strs b8) (g0_rwts b8)) H := hP
      refine lv_iload hx hb dX0_join_118 (lv_at hl 0 rfl) ?_
      obtain rfl := Option.some.inj hf
      exact xe_wi hx hb hr hlocks hS hP dX0_join_120
    · have hf := c11f c11
      refine lv_aload_n hx hb dX0_join_86 rfl (lv_at hl 4 rfl) ?_
      refine va_get (D := (dC, dI)) (ci := 0) (v := .ref (a 7)) (C := RX0) (T := TX0) (N := 14) hx hb hts hin0 hown hK hP 0 rfl rfl 7 (by decide) (hts (.fieldLink RX0 42 "BoatRuns$Boat" "runWeights" "LBoatRuns$Row;") (by decide +kernel)) (fun _ h9 => h9) rfl dX0_join_87 ?_
      refine lv_iload hx hb dX0_join_90 (lv_at hl 1 rfl) ?_
      obtain ⟨v13, ev13, hf⟩ := x_bind hf
      refine xc_ri (As := [.int (iI v4)]) (rest := []) ⟨hx, hb, hml, hown, hts⟩ (c2_get l dC dI cs (a 7) (a 14) 120 (g0_rwts b8) v4 (by decide) _ ev13) (cwV 1 hts gX0_join_X2_get rfl rfl rfl cdX2_get ⟨Nat.le_of_ble_eq_true rfl, Nat.le_of_ble_eq_true rfl⟩) hK hP [7, 14] rfl 7 rfl rfl rfl hl.1 rfl (Nat.le_of_ble_eq_true rfl) dX0_join_92 ⟨Nat.zero_le _, Nat.zero_le _⟩ ?_
      refine lv_istore (lv' := [(7, .int (iI v13)), (6, .int (iI v5)), (5, .int (iI v4)), (4, .int (iI v2)), (3, .int (iI v1)), (0, .ref (a 0)), (1, .int (iI p0)), (2, .int (iI p1))]) hx hb dX0_join_95 hl (by decide) rfl (fun ls hl => ?_)
      refine lv_aload_n hx hb dX0_join_97 rfl (lv_at hl 5 rfl) ?_
      refine lv_dup hx hb dX0_join_98 rfl ?_
      refine va_get (D := (dC, dI)) (ci := 0) (v := .int (iI (g0_cst b8))) (C := RX0) (T := TX0) (N := 14) hx hb hts hin0 hown hK hP 0 rfl rfl 10 (by decide) (hts (.fieldLink RX0 51 "BoatRuns$Boat" "costs" "I") (by decide +kernel)) (fun _ h9 => h9) rfl dX0_join_99 ?_
      refine lv_iload hx hb dX0_join_102 (lv_at hl 0 rfl) ?_
      refine xk_iadd hx hb dX0_join_104 ?_
      refine va_put (D := (dC, dI)) (ci := 0) (v := .int (iI (g0_cst b8 + v13))) (ty := .int) (C := RX0) (T := TX0) (N := 14) hx hb hts hin0 tyX0 tyX0_ok nmX0 hown hK hP (x_addr hD rfl) hS 0 rfl rfl 10 (by decide) (hts (.fieldLink RX0 51 "BoatRuns$Boat" "costs" "I") (by decide +kernel)) (fun _ h9 => h9) rfl (by decide +kernel) rfl rfl (Nat.le_of_ble_eq_true rfl) dX0_join_105 (fun H locs hP _ hS => ?_)
      have hP : va_P (dC, dI) vwCl (w0C cs a (g0_room b8) (g0_opn b8) (g0_flo b8) (g0_cst b8 + v13) (g0_mrg b8) (g0_stm b8) (g0_brk b8) (g0_keys b8) (g0_weis b8) (g0_homs b8) (g0_ords b8) (g0_flts b8) (g0_strs b8) (g0_rwts b8)) H := hP
      refine lv_aload_n hx hb dX0_join_108 rfl (lv_at hl 5 rfl) ?_
      refine lv_dup hx hb dX0_join_109 rfl ?_
      refine va_get (D := (dC, dI)) (ci := 0) (v := .int (iI (g0_mrg b8))) (C := RX0) (T := TX0) (N := 14) hx hb hts hin0 hown hK hP 0 rfl rfl 11 (by decide) (hts (.fieldLink RX0 54 "BoatRuns$Boat" "merges" "I") (by decide +kernel)) (fun _ h9 => h9) rfl dX0_join_110 ?_
      refine xk_iconst hx hb dX0_join_113 ?_
      refine xk_iadd hx hb dX0_join_114 ?_
      refine va_put (D := (dC, dI)) (ci := 0) (v := .int (iI (g0_mrg b8 + 1))) (ty := .int) (C := RX0) (T := TX0) (N := 14) hx hb hts hin0 tyX0 tyX0_ok nmX0 hown hK hP (x_addr hD rfl) hS 0 rfl rfl 11 (by decide) (hts (.fieldLink RX0 54 "BoatRuns$Boat" "merges" "I") (by decide +kernel)) (fun _ h9 => h9) rfl (by decide +kernel) rfl rfl (Nat.le_of_ble_eq_true rfl) dX0_join_115 (fun H locs hP _ hS => ?_)
      have hP : va_P (dC, dI) vwCl (w0C cs a (g0_room b8) (g0_opn b8) (g0_flo b8) (g0_cst b8 + v13) (g0_mrg b8 + 1) (g0_stm b8) (g0_brk b8) (g0_keys b8) (g0_weis b8) (g0_homs b8) (g0_ords b8) (g0_flts b8) (g0_strs b8) (g0_rwts b8)) H := hP
      refine lv_iload hx hb dX0_join_118 (lv_at hl 0 rfl) ?_
      obtain rfl := Option.some.inj hf
      exact xe_wi hx hb hr hlocks hS hP dX0_join_120
theorem cdX0_join : yX0_join.cls = RX0 ∧ yX0_join.cls ≠ "java/lang/invoke/MethodHandle" ∧ yX0_join.cls ≠ "java/lang/invoke/VarHandle" ∧ (parseMethodDescriptor yX0_join.desc).map (fun d => d.parameters.length) = some 2 := by decide +kernel

set_option maxHeartbeats 4000000 in
set_option maxRecDepth 100000 in
theorem c0_lightestBut (l : Launch) (dC : Nat → ClassId) (dI : Nat → Nat → Nat) (cs : Nat → ClassId) (a : Nat → Nat) (b : BoatS) (p0 : Int) (res : Int) (hf : f0_lightestBut b p0 = some res) : Met l yX0_lightestBut wsX0_lightestBut ({ frames := 1, cells := 0, slots := 0, locals := 21 } : Room) (va_Pc [.ref (a 0), .int (iI p0)] (xPR (dC, dI) vwCl (w0 cs a b) (xT cs))) (vp_Si (fun r => r = iI res)) 0 0 (fun _ => False) := by
  refine Met.ofW (cc := cX0_lightestBut) (maxL := 4) (ret := (some .int)) (by decide) rfl ?_
  intro p e s m args below meth c s₁ B hml hv
  obtain ⟨rfl, hP, hK⟩ := hv
  have hx := B.exec
  have hb := B.bytes
  have hr := B.returns
  have hts := atoms_spec (ws := wsX0_lightestBut) B.pre
  have hown : s.vm.findClass RX0 = some m.cls := findClass_of_methodNamed B.named
  have hlocks := B.notSynchronized
  have hin0 : ∀ w ∈ wsX00, w ∈ wsX0_lightestBut := by decide +kernel
  have hl := lv_entry [.ref (a 0), .int (iI p0)] (n := 4) (Nat.le_of_ble_eq_true rfl)
  rw [lg_entry_eq]
  generalize (lg_sl [.ref (a 0), .int (iI p0)] ++ List.replicate (4 - (lg_sl [.ref (a 0), .int (iI p0)]).length) Slot.unset).toArray = ls at hl ⊢
  have hl : lv_has ls 4 [(0, .ref (a 0)), (1, .int (iI p0))] := hl
  unfold f0_lightestBut at hf
  refine xk_iconst hx hb dX0_lightestBut_0 ?_
  refine lv_istore_n (lv' := [(2, .int (iI (-1))), (0, .ref (a 0)), (1, .int (iI p0))]) hx hb dX0_lightestBut_1 rfl hl (by decide) rfl (fun ls hl => ?_)
  refine xk_iconst hx hb dX0_lightestBut_2 ?_
  refine lv_istore_n (lv' := [(3, .int (iI 0)), (2, .int (iI (-1))), (0, .ref (a 0)), (1, .int (iI p0))]) hx hb dX0_lightestBut_3 rfl hl (by decide) rfl (fun ls hl => ?_)
  have hL4 : ∀ (n1 : Nat) (l2 : Int) (l3 : Int), f0_lightestBut_L4 b p0 n1 l2 l3 = some res → ∀ (ls : Array Slot), lv_has ls 4 [(0, .ref (a 0)), (1, .int (iI p0)), (2, .int (iI l2)), (3, .int (iI l3))] → W p l e (headSpec wsX0_lightestBut ({ frames := 1, cells := 0, slots := 0, locals := 21 } : Room)).room s m ([.ref (a 0), .int (iI p0)] : List Value).toArray below meth c s.heap [] 0 0 (MQ below (vp_Si (fun r => r = iI res)) ([.ref (a 0), .int (iI p0)] : List Value).toArray s 0 0 (fun _ => False)) (F0 m 4 ls []) := by
    intro  n1
    induction n1 with
    | zero => intro l2 l3 hf; have hf : (none : Option (Int)) = some res := hf; cases hf
    | succ n1 ih4 =>
      intro l2 l3 hf ls hl
      rw [f0_lightestBut_L4] at hf
      refine lv_iload_n hx hb dX0_lightestBut_4 rfl (lv_at hl 3 rfl) ?_
      refine lv_aload_n hx hb dX0_lightestBut_5 rfl (lv_at hl 0 rfl) ?_
      refine va_get (D := (dC, dI)) (ci := 0) (v := .ref (a 5)) (C := RX0) (T := TX0) (N := 14) hx hb hts hin0 hown hK hP 0 rfl rfl 5 (by decide) (hts (.fieldLink RX0 36 "BoatRuns$Boat" "floats" "LBoatRuns$Row;") (by decide +kernel)) (fun _ h9 => h9) rfl dX0_lightestBut_6 ?_
      obtain ⟨v2, ev2, hf⟩ := x_bind hf
      refine xc_ri (As := []) (rest := [.int (iI l3)]) ⟨hx, hb, hml, hown, hts⟩ (c2_size l dC dI cs (a 5) (a 12) 120 (g0_flts b) (by decide) _ ev2) (cwV 0 hts gX0_lightestBut_X2_size rfl rfl rfl cdX2_size ⟨Nat.le_of_ble_eq_true rfl, Nat.le_of_ble_eq_true rfl⟩) hK hP [5, 12] rfl 5 rfl rfl rfl hl.1 rfl (Nat.le_of_ble_eq_true rfl) dX0_lightestBut_9 ⟨Nat.zero_le _, Nat.zero_le _⟩ ?_
      obtain ⟨c3a, c3b, c3t, c3f⟩ := x_ltE hf
      refine xk_icmp_ge (tgt := 52) hx hb c3a c3b dX0_lightestBut_12 (by decide) (fun c3 => ?_) (fun c3 => ?_)
      · have hf := c3t c3
        refine lv_iload_n hx hb dX0_lightestBut_15 rfl (lv_at hl 3 rfl) ?_
        refine lv_iload_n hx hb dX0_lightestBut_16 rfl (lv_at hl 1 rfl) ?_
        obtain ⟨c4a, c4b, c4t, c4f⟩ := x_eqE hf
        refine xk_icmp_eq (tgt := 46) hx hb c4a c4b dX0_lightestBut_17 (by decide) (fun c4 => ?_) (fun c4 => ?_)
        · have hf := c4t c4
          refine xk_iinc (lv' := [(3, .int (iI (l3 + 1))), (0, .ref (a 0)), (1, .int (iI p0)), (2, .int (iI l2))]) hx hb dX0_lightestBut_46 hl (k := 3) rfl (by decide) rfl (fun ls hl => ?_)
          refine lv_goto (tgt := 4) hx hb dX0_lightestBut_49 (by decide) ?_
          exact ih4 l2 (l3 + 1) hf ls (lv_sub hl [1, 2, 3, 0] rfl)
        · have hf := c4f c4
          refine lv_iload_n hx hb dX0_lightestBut_20 rfl (lv_at hl 2 rfl) ?_
          refine xk_iconst hx hb dX0_lightestBut_21 ?_
          obtain ⟨c5a, c5b, c5t, c5f⟩ := x_eqE hf
          refine xk_icmp_eq (tgt := 44) hx hb c5a c5b dX0_lightestBut_22 (by decide) (fun c5 => ?_) (fun c5 => ?_)
          · have hf := c5t c5
            refine lv_iload_n hx hb dX0_lightestBut_44 rfl (lv_at hl 3 rfl) ?_
            refine lv_istore_n (lv' := [(2, .int (iI l3)), (0, .ref (a 0)), (1, .int (iI p0)), (3, .int (iI l3))]) hx hb dX0_lightestBut_45 rfl hl (by decide) rfl (fun ls hl => ?_)
            refine xk_iinc (lv' := [(3, .int (iI (l3 + 1))), (2, .int (iI l3)), (0, .ref (a 0)), (1, .int (iI p0))]) hx hb dX0_lightestBut_46 hl (k := 3) rfl (by decide) rfl (fun ls hl => ?_)
            refine lv_goto (tgt := 4) hx hb dX0_lightestBut_49 (by decide) ?_
            exact ih4 l3 (l3 + 1) hf ls (lv_sub hl [2, 3, 1, 0] rfl)
          · have hf := c5f c5
            refine lv_aload_n hx hb dX0_lightestBut_25 rfl (lv_at hl 0 rfl) ?_
            refine va_get (D := (dC, dI)) (ci := 0) (v := .ref (a 7)) (C := RX0) (T := TX0) (N := 14) hx hb hts hin0 hown hK hP 0 rfl rfl 7 (by decide) (hts (.fieldLink RX0 42 "BoatRuns$Boat" "runWeights" "LBoatRuns$Row;") (by decide +kernel)) (fun _ h9 => h9) rfl dX0_lightestBut_26 ?_
            refine lv_iload_n hx hb dX0_lightestBut_29 rfl (lv_at hl 3 rfl) ?_
            obtain ⟨v6, ev6, hf⟩ := x_bind hf
            refine xc_ri (As := [.int (iI l3)]) (rest := []) ⟨hx, hb, hml, hown, hts⟩ (c2_get l dC dI cs (a 7) (a 14) 120 (g0_rwts b) l3 (by decide) _ ev6) (cwV 1 hts gX0_lightestBut_X2_get rfl rfl rfl cdX2_get ⟨Nat.le_of_ble_eq_true rfl, Nat.le_of_ble_eq_true rfl⟩) hK hP [7, 14] rfl 7 rfl rfl rfl hl.1 rfl (Nat.le_of_ble_eq_true rfl) dX0_lightestBut_30 ⟨Nat.zero_le _, Nat.zero_le _⟩ ?_
            refine lv_aload_n hx hb dX0_lightestBut_33 rfl (lv_at hl 0 rfl) ?_
            refine va_get (D := (dC, dI)) (ci := 0) (v := .ref (a 7)) (C := RX0) (T := TX0) (N := 14) hx hb hts hin0 hown hK hP 0 rfl rfl 7 (by decide) (hts (.fieldLink RX0 42 "BoatRuns$Boat" "runWeights" "LBoatRuns$Row;") (by decide +kernel)) (fun _ h9 => h9) rfl dX0_lightestBut_34 ?_
            refine lv_iload_n hx hb dX0_lightestBut_37 rfl (lv_at hl 2 rfl) ?_
            obtain ⟨v7, ev7, hf⟩ := x_bind hf
            refine xc_ri (As := [.int (iI l2)]) (rest := [.int (iI v6)]) ⟨hx, hb, hml, hown, hts⟩ (c2_get l dC dI cs (a 7) (a 14) 120 (g0_rwts b) l2 (by decide) _ ev7) (cwV 1 hts gX0_lightestBut_X2_get rfl rfl rfl cdX2_get ⟨Nat.le_of_ble_eq_true rfl, Nat.le_of_ble_eq_true rfl⟩) hK hP [7, 14] rfl 7 rfl rfl rfl hl.1 rfl (Nat.le_of_ble_eq_true rfl) dX0_lightestBut_38 ⟨Nat.zero_le _, Nat.zero_le _⟩ ?_
            obtain ⟨c8a, c8b, c8t, c8f⟩ := x_ltE hf
            refine xk_icmp_ge (tgt := 46) hx hb c8a c8b dX0_lightestBut_41 (by decide) (fun c8 => ?_) (fun c8 => ?_)
            · have hf := c8t c8
              refine lv_iload_n hx hb dX0_lightestBut_44 rfl (lv_at hl 3 rfl) ?_
              refine lv_istore_n (lv' := [(2, .int (iI l3)), (0, .ref (a 0)), (1, .int (iI p0)), (3, .int (iI l3))]) hx hb dX0_lightestBut_45 rfl hl (by decide) rfl (fun ls hl => ?_)
              refine xk_iinc (lv' := [(3, .int (iI (l3 + 1))), (2, .int (iI l3)), (0, .ref (a 0)), (1, .int (iI p0))]) hx hb dX0_lightestBut_46 hl (k := 3) rfl (by decide) rfl (fun ls hl => ?_)
              refine lv_goto (tgt := 4) hx hb dX0_lightestBut_49 (by decide) ?_
              exact ih4 l3 (l3 + 1) hf ls (lv_sub hl [2, 3, 1, 0] rfl)
            · have hf := c8f c8
              refine xk_iinc (lv' := [(3, .int (iI (l3 + 1))), (0, .ref (a 0)), (1, .int (iI p0)), (2, .int (iI l2))]) hx hb dX0_lightestBut_46 hl (k := 3) rfl (by decide) rfl (fun ls hl => ?_)
              refine lv_goto (tgt := 4) hx hb dX0_lightestBut_49 (by decide) ?_
              exact ih4 l2 (l3 + 1) hf ls (lv_sub hl [1, 2, 3, 0] rfl)
      · have hf := c3f c3
        refine lv_iload_n hx hb dX0_lightestBut_52 rfl (lv_at hl 2 rfl) ?_
        obtain rfl := Option.some.inj hf
        exact xe_ri hx hb hr hlocks dX0_lightestBut_53 rfl
  exact hL4  xFU (-1) 0 hf ls (lv_sub hl [2, 3, 1, 0] rfl)
theorem cdX0_lightestBut : yX0_lightestBut.cls = RX0 ∧ yX0_lightestBut.cls ≠ "java/lang/invoke/MethodHandle" ∧ yX0_lightestBut.cls ≠ "java/lang/invoke/VarHandle" ∧ (parseMethodDescriptor yX0_lightestBut.desc).map (fun d => d.parameters.length) = some 1 := by decide +kernel

set_option maxHeartbeats 4000000 in
set_option maxRecDepth 100000 in
theorem c0_joinLightest (l : Launch) (dC : Nat → ClassId) (dI : Nat → Nat → Nat) (cs : Nat → ClassId) (a : Nat → Nat) (sz : Nat) (b : BoatS) (res : Int × BoatS) (hf : f0_joinLightest b = some res) : Met l yX0_joinLightest wsX0_joinLightest ({ frames := 3, cells := 0, slots := 0, locals := 72 } : Room) (va_Pc [.ref (a 0)] (xPW (dC, dI) vwCl (w0 cs a b) (xT cs) sz)) (xQi (dC, dI) vwCl (w0 cs a b) (w0 cs a res.2) sz res.1) 0 0 (va_A (w0 cs a b) sz) := by
  refine Met.ofW (cc := cX0_joinLightest) (maxL := 5) (ret := (some .int)) (by decide) rfl ?_
  intro p e s m args below meth c s₁ B hml hv
  obtain ⟨rfl, hsz, hP, hK, hD0⟩ := hv
  have hx := B.exec
  have hb := B.bytes
  have hr := B.returns
  have hts := atoms_spec (ws := wsX0_joinLightest) B.pre
  have hown : s.vm.findClass RX0 = some m.cls := findClass_of_methodNamed B.named
  have hlocks := B.notSynchronized
  have hin0 : ∀ w ∈ wsX00, w ∈ wsX0_joinLightest := by decide +kernel
  subst hsz
  have hD := hD0.self (sz := s.heap.size)
  have hA : ∀ z9 : Nat, s.heap.size ≤ z9 → va_A (w0 cs a b) s.heap.size z9 := fun z9 h => Or.inr h
  have hS : va_S (va_A (w0 cs a b) s.heap.size) s.heap s.heap [] := va_S.rf
  have hl := lv_entry [.ref (a 0)] (n := 5) (Nat.le_of_ble_eq_true rfl)
  rw [lg_entry_eq]
  generalize (lg_sl [.ref (a 0)] ++ List.replicate (5 - (lg_sl [.ref (a 0)]).length) Slot.unset).toArray = ls at hl ⊢
  have hl : lv_has ls 5 [(0, .ref (a 0))] := hl
  unfold f0_joinLightest at hf
  refine lv_aload_n hx hb dX0_joinLightest_0 rfl (lv_at hl 0 rfl) ?_
  refine xk_iconst hx hb dX0_joinLightest_1 ?_
  obtain ⟨v1, ev1, hf⟩ := x_bind hf
  refine xc_ri (As := [.int (iI (-1))]) (rest := []) ⟨hx, hb, hml, hown, hts⟩ (c0_lightestBut l dC dI cs a b (-1)  _ ev1) (cwV 1 hts gX0_joinLightest_X0_lightestBut rfl rfl rfl cdX0_lightestBut ⟨Nat.le_of_ble_eq_true rfl, Nat.le_of_ble_eq_true rfl⟩) hK hP [0, 1, 2, 3, 4, 5, 6, 7, 8, 9, 10, 11, 12, 13, 14] rfl 0 rfl rfl rfl hl.1 rfl (Nat.le_of_ble_eq_true rfl) dX0_joinLightest_2 ⟨Nat.zero_le _, Nat.zero_le _⟩ ?_
  refine lv_istore_n (lv' := [(1, .int (iI v1)), (0, .ref (a 0))]) hx hb dX0_joinLightest_5 rfl hl (by decide) rfl (fun ls hl => ?_)
  refine lv_aload_n hx hb dX0_joinLightest_6 rfl (lv_at hl 1 rfl) ?_
  refine lv_iload_n hx hb dX0_joinLightest_7 rfl (lv_at hl 0 rfl) ?_
  obtain ⟨v2, ev2, hf⟩ := x_bind hf
  refine xc_ri (As := [.int (iI v1)]) (rest := []) ⟨hx, hb, hml, hown, hts⟩ (c0_lightestBut l dC dI cs a b v1  _ ev2) (cwV 1 hts gX0_joinLightest_X0_lightestBut rfl rfl rfl cdX0_lightestBut ⟨Nat.le_of_ble_eq_true rfl, Nat.le_of_ble_eq_true rfl⟩) hK hP [0, 1, 2, 3, 4, 5, 6, 7, 8, 9, 10, 11, 12, 13, 14] rfl 0 rfl rfl rfl hl.1 rfl (Nat.le_of_ble_eq_true rfl) dX0_joinLightest_8 ⟨Nat.zero_le _, Nat.zero_le _⟩ ?_
  refine lv_istore_n (lv' := [(2, .int (iI v2)), (1, .int (iI v1)), (0, .ref (a 0))]) hx hb dX0_joinLightest_11 rfl hl (by decide) rfl (fun ls hl => ?_)
  refine lv_aload_n hx hb dX0_joinLightest_12 rfl (lv_at hl 2 rfl) ?_
  refine va_get (D := (dC, dI)) (ci := 0) (v := .ref (a 5)) (C := RX0) (T := TX0) (N := 14) hx hb hts hin0 hown hK hP 0 rfl rfl 5 (by decide) (hts (.fieldLink RX0 36 "BoatRuns$Boat" "floats" "LBoatRuns$Row;") (by decide +kernel)) (fun _ h9 => h9) rfl dX0_joinLightest_13 ?_
  refine lv_iload_n hx hb dX0_joinLightest_16 rfl (lv_at hl 1 rfl) ?_
  obtain ⟨v3, ev3, hf⟩ := x_bind hf
  refine xc_ri (As := [.int (iI v1)]) (rest := []) ⟨hx, hb, hml, hown, hts⟩ (c2_get l dC dI cs (a 5) (a 12) 120 (g0_flts b) v1 (by decide) _ ev3) (cwV 1 hts gX0_joinLightest_X2_get rfl rfl rfl cdX2_get ⟨Nat.le_of_ble_eq_true rfl, Nat.le_of_ble_eq_true rfl⟩) hK hP [5, 12] rfl 5 rfl rfl rfl hl.1 rfl (Nat.le_of_ble_eq_true rfl) dX0_joinLightest_17 ⟨Nat.zero_le _, Nat.zero_le _⟩ ?_
  refine lv_istore_n (lv' := [(3, .int (iI v3)), (2, .int (iI v2)), (1, .int (iI v1)), (0, .ref (a 0))]) hx hb dX0_joinLightest_20 rfl hl (by decide) rfl (fun ls hl => ?_)
  refine lv_aload_n hx hb dX0_joinLightest_21 rfl (lv_at hl 3 rfl) ?_
  refine va_get (D := (dC, dI)) (ci := 0) (v := .ref (a 5)) (C := RX0) (T := TX0) (N := 14) hx hb hts hin0 hown hK hP 0 rfl rfl 5 (by decide) (hts (.fieldLink RX0 36 "BoatRuns$Boat" "floats" "LBoatRuns$Row;") (by decide +kernel)) (fun _ h9 => h9) rfl dX0_joinLightest_22 ?_
  refine lv_iload_n hx hb dX0_joinLightest_25 rfl (lv_at hl 1 rfl) ?_
  obtain ⟨v4, ev4, hf⟩ := x_bind hf
  refine xc_ri (As := [.int (iI v2)]) (rest := []) ⟨hx, hb, hml, hown, hts⟩ (c2_get l dC dI cs (a 5) (a 12) 120 (g0_flts b) v2 (by decide) _ ev4) (cwV 1 hts gX0_joinLightest_X2_get rfl rfl rfl cdX2_get ⟨Nat.le_of_ble_eq_true rfl, Nat.le_of_ble_eq_true rfl⟩) hK hP [5, 12] rfl 5 rfl rfl rfl hl.1 rfl (Nat.le_of_ble_eq_true rfl) dX0_joinLightest_26 ⟨Nat.zero_le _, Nat.zero_le _⟩ ?_
  refine lv_istore (lv' := [(4, .int (iI v4)), (3, .int (iI v3)), (2, .int (iI v2)), (1, .int (iI v1)), (0, .ref (a 0))]) hx hb dX0_joinLightest_29 hl (by decide) rfl (fun ls hl => ?_)
  refine lv_aload_n hx hb dX0_joinLightest_31 rfl (lv_at hl 4 rfl) ?_
  refine lv_iload_n hx hb dX0_joinLightest_32 rfl (lv_at hl 1 rfl) ?_
  refine lv_iload hx hb dX0_joinLightest_33 (lv_at hl 0 rfl) ?_
  obtain ⟨⟨v6, b5⟩, eb5, hf⟩ := x_bind hf
  refine xc_wi (As := [.int (iI v3), .int (iI v4)]) (rest := []) ⟨hx, hb, hml, hown, hts⟩ (c0_join l dC dI cs a _ b v3 v4  _ eb5) (cwV 2 hts gX0_joinLightest_X0_join rfl rfl rfl cdX0_join ⟨Nat.le_of_ble_eq_true rfl, Nat.le_of_ble_eq_true rfl⟩) hK hP (x_addr hD rfl) hS hA [0, 1, 2, 3, 4, 5, 6, 7, 8, 9, 10, 11, 12, 13, 14] rfl (by decide) rfl 0 rfl rfl rfl hl.1 rfl (Nat.le_of_ble_eq_true rfl) dX0_joinLightest_35 ⟨Nat.zero_le _, Nat.zero_le _⟩ (fun H locs hP hS => ?_)
  have hP : va_P (dC, dI) vwCl (w0 cs a b5) H := hP
  refine lv_pop hx hb dX0_joinLightest_38 rfl ?_
  refine lv_iload_n hx hb dX0_joinLightest_39 rfl (lv_at hl 1 rfl) ?_
  refine lv_iload hx hb dX0_joinLightest_40 (lv_at hl 0 rfl) ?_
  obtain ⟨v8, ev8, hf⟩ := x_bind hf
  refine xk_mmin hx hb (by rw [hml]; exact hl.1.symm) hown (hts (.methodLink RX0 136 Lib.Math.min.name) (by decide +kernel)) (hts (.static Lib.Math.min.name) (by decide +kernel)) (hts (.initialized "java/lang/Math") (by decide +kernel)) (hts (.code Lib.Math.min.name Lib.Math.min.code 2 (some .int)) (by decide +kernel)) (Nat.le_of_ble_eq_true rfl) (Nat.le_of_ble_eq_true rfl) (Nat.zero_le _) (Nat.zero_le _) ev8 dX0_joinLightest_42 ?_
  obtain rfl := Option.some.inj hf
  exact xe_wi hx hb hr hlocks hS hP dX0_joinLightest_45
theorem cdX0_joinLightest : yX0_joinLightest.cls = RX0 ∧ yX0_joinLightest.cls ≠ "java/lang/invoke/MethodHandle" ∧ yX0_joinLightest.cls ≠ "java/lang/invoke/VarHandle" ∧ (parseMethodDescriptor yX0_joinLightest.desc).map (fun d => d.parameters.length) = some 0 := by decide +kernel

set_option maxHeartbeats 4000000 in
set_option maxRecDepth 100000 in
theorem c0_breakRun (l : Launch) (dC : Nat → ClassId) (dI : Nat → Nat → Nat) (cs : Nat → ClassId) (a : Nat → Nat) (sz : Nat) (b : BoatS) (p0 : Int) (res : BoatS) (hf : f0_breakRun b p0 = some res) : Met l yX0_breakRun wsX0_breakRun ({ frames := 3, cells := 0, slots := 0, locals := 66 } : Room) (va_Pc [.ref (a 0), .int (iI p0)] (xPW (dC, dI) vwCl (w0 cs a b) (xT cs) sz)) (xQv (dC, dI) vwCl (w0 cs a b) (w0 cs a res) sz) 0 0 (va_A (w0 cs a b) sz) := by
  refine Met.ofW (cc := cX0_breakRun) (maxL := 7) (ret := none) (by decide) rfl ?_
  intro p e s m args below meth c s₁ B hml hv
  obtain ⟨rfl, hsz, hP, hK, hD0⟩ := hv
  have hx := B.exec
  have hb := B.bytes
  have hr := B.returns
  have hts := atoms_spec (ws := wsX0_breakRun) B.pre
  have hown : s.vm.findClass RX0 = some m.cls := findClass_of_methodNamed B.named
  have hlocks := B.notSynchronized
  have hin0 : ∀ w ∈ wsX00, w ∈ wsX0_breakRun := by decide +kernel
  subst hsz
  have hD := hD0.self (sz := s.heap.size)
  have hA : ∀ z9 : Nat, s.heap.size ≤ z9 → va_A (w0 cs a b) s.heap.size z9 := fun z9 h => Or.inr h
  have hS : va_S (va_A (w0 cs a b) s.heap.size) s.heap s.heap [] := va_S.rf
  have hl := lv_entry [.ref (a 0), .int (iI p0)] (n := 7) (Nat.le_of_ble_eq_true rfl)
  rw [lg_entry_eq]
  generalize (lg_sl [.ref (a 0), .int (iI p0)] ++ List.replicate (7 - (lg_sl [.ref (a 0), .int (iI p0)]).length) Slot.unset).toArray = ls at hl ⊢
  have hl : lv_has ls 7 [(0, .ref (a 0)), (1, .int (iI p0))] := hl
  unfold f0_breakRun at hf
  refine lv_aload_n hx hb dX0_breakRun_0 rfl (lv_at hl 0 rfl) ?_
  refine va_get (D := (dC, dI)) (ci := 0) (v := .ref (a 5)) (C := RX0) (T := TX0) (N := 14) hx hb hts hin0 hown hK hP 0 rfl rfl 5 (by decide) (hts (.fieldLink RX0 36 "BoatRuns$Boat" "floats" "LBoatRuns$Row;") (by decide +kernel)) (fun _ h9 => h9) rfl dX0_breakRun_1 ?_
  refine lv_iload_n hx hb dX0_breakRun_4 rfl (lv_at hl 1 rfl) ?_
  obtain ⟨v1, ev1, hf⟩ := x_bind hf
  refine xc_ri (As := [.int (iI p0)]) (rest := []) ⟨hx, hb, hml, hown, hts⟩ (c2_get l dC dI cs (a 5) (a 12) 120 (g0_flts b) p0 (by decide) _ ev1) (cwV 1 hts gX0_breakRun_X2_get rfl rfl rfl cdX2_get ⟨Nat.le_of_ble_eq_true rfl, Nat.le_of_ble_eq_true rfl⟩) hK hP [5, 12] rfl 5 rfl rfl rfl hl.1 rfl (Nat.le_of_ble_eq_true rfl) dX0_breakRun_5 ⟨Nat.zero_le _, Nat.zero_le _⟩ ?_
  refine lv_istore_n (lv' := [(2, .int (iI v1)), (0, .ref (a 0)), (1, .int (iI p0))]) hx hb dX0_breakRun_8 rfl hl (by decide) rfl (fun ls hl => ?_)
  refine lv_aload_n hx hb dX0_breakRun_9 rfl (lv_at hl 1 rfl) ?_
  refine lv_iload_n hx hb dX0_breakRun_10 rfl (lv_at hl 0 rfl) ?_
  obtain ⟨v2, ev2, hf⟩ := x_bind hf
  refine xc_ri (As := [.int (iI v1)]) (rest := []) ⟨hx, hb, hml, hown, hts⟩ (c0_countAt l dC dI cs a b v1  _ ev2) (cwV 1 hts gX0_breakRun_X0_countAt rfl rfl rfl cdX0_countAt ⟨Nat.le_of_ble_eq_true rfl, Nat.le_of_ble_eq_true rfl⟩) hK hP [0, 1, 2, 3, 4, 5, 6, 7, 8, 9, 10, 11, 12, 13, 14] rfl 0 rfl rfl rfl hl.1 rfl (Nat.le_of_ble_eq_true rfl) dX0_breakRun_11 ⟨Nat.zero_le _, Nat.zero_le _⟩ ?_
  refine xk_iconst hx hb dX0_breakRun_14 ?_
  refine xk_iadd hx hb dX0_breakRun_15 ?_
  refine xk_iconst hx hb dX0_breakRun_16 ?_
  obtain ⟨v3, ev3, hf⟩ := x_bind hf
  refine xk_idiv hx hb ev3 dX0_breakRun_17 ?_
  refine lv_istore_n (lv' := [(3, .int (iI v3)), (2, .int (iI v1)), (0, .ref (a 0)), (1, .int (iI p0))]) hx hb dX0_breakRun_18 rfl hl (by decide) rfl (fun ls hl => ?_)
  refine lv_aload_n hx hb dX0_breakRun_19 rfl (lv_at hl 2 rfl) ?_
  obtain ⟨⟨v5, b4⟩, eb4, hf⟩ := x_bind hf
  refine xc_wi (As := []) (rest := []) ⟨hx, hb, hml, hown, hts⟩ (c0_newFloat l dC dI cs a _ b  _ eb4) (cwV 0 hts gX0_breakRun_X0_newFloat rfl rfl rfl cdX0_newFloat ⟨Nat.le_of_ble_eq_true rfl, Nat.le_of_ble_eq_true rfl⟩) hK hP (x_addr hD rfl) hS hA [0, 1, 2, 3, 4, 5, 6, 7, 8, 9, 10, 11, 12, 13, 14] rfl (by decide) rfl 0 rfl rfl rfl hl.1 rfl (Nat.le_of_ble_eq_true rfl) dX0_breakRun_20 ⟨Nat.zero_le _, Nat.zero_le _⟩ (fun H locs hP hS => ?_)
  have hP : va_P (dC, dI) vwCl (w0 cs a b4) H := hP
  refine lv_pop hx hb dX0_breakRun_23 rfl ?_
  refine lv_aload_n hx hb dX0_breakRun_24 rfl (lv_at hl 2 rfl) ?_
  refine va_get (D := (dC, dI)) (ci := 0) (v := .ref (a 5)) (C := RX0) (T := TX0) (N := 14) hx hb hts hin0 hown hK hP 0 rfl rfl 5 (by decide) (hts (.fieldLink RX0 36 "BoatRuns$Boat" "floats" "LBoatRuns$Row;") (by decide +kernel)) (fun _ h9 => h9) rfl dX0_breakRun_25 ?_
  obtain ⟨v7, ev7, hf⟩ := x_bind hf
  refine xc_ri (As := []) (rest := []) ⟨hx, hb, hml, hown, hts⟩ (c2_size l dC dI cs (a 5) (a 12) 120 (g0_flts b4) (by decide) _ ev7) (cwV 0 hts gX0_breakRun_X2_size rfl rfl rfl cdX2_size ⟨Nat.le_of_ble_eq_true rfl, Nat.le_of_ble_eq_true rfl⟩) hK hP [5, 12] rfl 5 rfl rfl rfl hl.1 rfl (Nat.le_of_ble_eq_true rfl) dX0_breakRun_28 ⟨Nat.zero_le _, Nat.zero_le _⟩ ?_
  refine xk_iconst hx hb dX0_breakRun_31 ?_
  refine xk_isub hx hb dX0_breakRun_32 ?_
  refine lv_istore (lv' := [(4, .int (iI (v7 - 1))), (3, .int (iI v3)), (2, .int (iI v1)), (0, .ref (a 0)), (1, .int (iI p0))]) hx hb dX0_breakRun_33 hl (by decide) rfl (fun ls hl => ?_)
  refine xk_iconst hx hb dX0_breakRun_35 ?_
  refine lv_istore (lv' := [(5, .int (iI 0)), (4, .int (iI (v7 - 1))), (3, .int (iI v3)), (2, .int (iI v1)), (0, .ref (a 0)), (1, .int (iI p0))]) hx hb dX0_breakRun_36 hl (by decide) rfl (fun ls hl => ?_)
  have hL38 : ∀ (n9 : Nat) (l3 : Int) (l5 : Int) (b8 : BoatS), f0_breakRun_L38 p0 v1 v7 n9 l3 l5 b8 = some res → ∀ (H : Heap) (locs : List Loc), va_P (dC, dI) vwCl (w0 cs a b8) H → va_S (va_A (w0 cs a b) s.heap.size) s.heap H locs → ∀ (ls : Array Slot), lv_has ls 7 [(0, .ref (a 0)), (1, .int (iI p0)), (2, .int (iI v1)), (3, .int (iI l3)), (4, .int (iI (v7 - 1))), (5, .int (iI l5))] → W p l e (headSpec wsX0_breakRun ({ frames := 3, cells := 0, slots := 0, locals := 66 } : Room)).room s m ([.ref (a 0), .int (iI p0)] : List Value).toArray below meth c H locs 0 0 (MQ below (xQv (dC, dI) vwCl (w0 cs a b) (w0 cs a res) s.heap.size) ([.ref (a 0), .int (iI p0)] : List Value).toArray s 0 0 (va_A (w0 cs a b) s.heap.size)) (F0 m 38 ls []) := by
    intro  n9
    induction n9 with
    | zero => intro l3 l5 b8 hf; have hf : (none : Option (BoatS)) = some res := hf; cases hf
    | succ n9 ih38 =>
      intro l3 l5 b8 hf H locs hP hS ls hl
      rw [f0_breakRun_L38] at hf
      refine lv_iload hx hb dX0_breakRun_38 (lv_at hl 5 rfl) ?_
      refine lv_aload_n hx hb dX0_breakRun_40 rfl (lv_at hl 0 rfl) ?_
      refine va_get (D := (dC, dI)) (ci := 0) (v := .ref (a 4)) (C := RX0) (T := TX0) (N := 14) hx hb hts hin0 hown hK hP 0 rfl rfl 4 (by decide) (hts (.fieldLink RX0 33 "BoatRuns$Boat" "order" "LBoatRuns$Row;") (by decide +kernel)) (fun _ h9 => h9) rfl dX0_breakRun_41 ?_
      obtain ⟨v10, ev10, hf⟩ := x_bind hf
      refine xc_ri (As := []) (rest := [.int (iI l5)]) ⟨hx, hb, hml, hown, hts⟩ (c2_size l dC dI cs (a 4) (a 11) 120 (g0_ords b8) (by decide) _ ev10) (cwV 0 hts gX0_breakRun_X2_size rfl rfl rfl cdX2_size ⟨Nat.le_of_ble_eq_true rfl, Nat.le_of_ble_eq_true rfl⟩) hK hP [4, 11] rfl 4 rfl rfl rfl hl.1 rfl (Nat.le_of_ble_eq_true rfl) dX0_breakRun_44 ⟨Nat.zero_le _, Nat.zero_le _⟩ ?_
      obtain ⟨c11a, c11b, c11t, c11f⟩ := x_ltE hf
      refine xk_icmp_ge (tgt := 116) hx hb c11a c11b dX0_breakRun_47 (by decide) (fun c11 => ?_) (fun c11 => ?_)
      · have hf := c11t c11
        refine lv_aload_n hx hb dX0_breakRun_50 rfl (lv_at hl 0 rfl) ?_
        refine va_get (D := (dC, dI)) (ci := 0) (v := .ref (a 4)) (C := RX0) (T := TX0) (N := 14) hx hb hts hin0 hown hK hP 0 rfl rfl 4 (by decide) (hts (.fieldLink RX0 33 "BoatRuns$Boat" "order" "LBoatRuns$Row;") (by decide +kernel)) (fun _ h9 => h9) rfl dX0_breakRun_51 ?_
        refine lv_iload hx hb dX0_breakRun_54 (lv_at hl 5 rfl) ?_
        obtain ⟨v12, ev12, hf⟩ := x_bind hf
        refine xc_ri (As := [.int (iI l5)]) (rest := []) ⟨hx, hb, hml, hown, hts⟩ (c2_get l dC dI cs (a 4) (a 11) 120 (g0_ords b8) l5 (by decide) _ ev12) (cwV 1 hts gX0_breakRun_X2_get rfl rfl rfl cdX2_get ⟨Nat.le_of_ble_eq_true rfl, Nat.le_of_ble_eq_true rfl⟩) hK hP [4, 11] rfl 4 rfl rfl rfl hl.1 rfl (Nat.le_of_ble_eq_true rfl) dX0_breakRun_56 ⟨Nat.zero_le _, Nat.zero_le _⟩ ?_
        refine lv_istore (lv' := [(6, .int (iI v12)), (0, .ref (a 0)), (1, .int (iI p0)), (2, .int (iI v1)), (3, .int (iI l3)), (4, .int (iI (v7 - 1))), (5, .int (iI l5))]) hx hb dX0_breakRun_59 hl (by decide) rfl (fun ls hl => ?_)
        refine lv_aload_n hx hb dX0_breakRun_61 rfl (lv_at hl 1 rfl) ?_
        refine va_get (D := (dC, dI)) (ci := 0) (v := .ref (a 3)) (C := RX0) (T := TX0) (N := 14) hx hb hts hin0 hown hK hP 0 rfl rfl 3 (by decide) (hts (.fieldLink RX0 30 "BoatRuns$Boat" "homes" "LBoatRuns$Row;") (by decide +kernel)) (fun _ h9 => h9) rfl dX0_breakRun_62 ?_
        refine lv_iload hx hb dX0_breakRun_65 (lv_at hl 0 rfl) ?_
        obtain ⟨v13, ev13, hf⟩ := x_bind hf
        refine xc_ri (As := [.int (iI v12)]) (rest := []) ⟨hx, hb, hml, hown, hts⟩ (c2_get l dC dI cs (a 3) (a 10) 120 (g0_homs b8) v12 (by decide) _ ev13) (cwV 1 hts gX0_breakRun_X2_get rfl rfl rfl cdX2_get ⟨Nat.le_of_ble_eq_true rfl, Nat.le_of_ble_eq_true rfl⟩) hK hP [3, 10] rfl 3 rfl rfl rfl hl.1 rfl (Nat.le_of_ble_eq_true rfl) dX0_breakRun_67 ⟨Nat.zero_le _, Nat.zero_le _⟩ ?_
        refine lv_iload_n hx hb dX0_breakRun_70 rfl (lv_at hl 3 rfl) ?_
        obtain ⟨c14a, c14b, c14t, c14f⟩ := x_eqE hf
        refine xk_icmp_ne (tgt := 110) hx hb c14a c14b dX0_breakRun_71 (by decide) (fun c14 => ?_) (fun c14 => ?_)
        · have hf := c14t c14
          refine lv_iload_n hx hb dX0_breakRun_74 rfl (lv_at hl 4 rfl) ?_
          obtain ⟨c15a, c15b, c15t, c15f⟩ := x_ltE hf
          refine xk_if_le (tgt := 84) hx hb c15b dX0_breakRun_75 (by decide) (fun c15 => ?_) (fun c15 => ?_)
          · have hf := c15t c15
            refine xk_iinc (lv' := [(3, .int (iI (l3 + (-1)))), (6, .int (iI v12)), (0, .ref (a 0)), (1, .int (iI p0)), (2, .int (iI v1)), (4, .int (iI (v7 - 1))), (5, .int (iI l5))]) hx hb dX0_breakRun_78 hl (k := 4) rfl (by decide) rfl (fun ls hl => ?_)
            refine lv_goto (tgt := 110) hx hb dX0_breakRun_81 (by decide) ?_
            refine xk_iinc (lv' := [(5, .int (iI (l5 + 1))), (3, .int (iI (l3 + (-1)))), (6, .int (iI v12)), (0, .ref (a 0)), (1, .int (iI p0)), (2, .int (iI v1)), (4, .int (iI (v7 - 1)))]) hx hb dX0_breakRun_110 hl (k := 6) rfl (by decide) rfl (fun ls hl => ?_)
            refine lv_goto (tgt := 38) hx hb dX0_breakRun_113 (by decide) ?_
            exact ih38 (l3 + (-1)) (l5 + 1) b8 hf _ _ hP hS ls (lv_sub hl [3, 4, 5, 1, 6, 0] rfl)
          · have hf := c15f c15
            refine lv_aload_n hx hb dX0_breakRun_84 rfl (lv_at hl 1 rfl) ?_
            refine va_get (D := (dC, dI)) (ci := 0) (v := .ref (a 7)) (C := RX0) (T := TX0) (N := 14) hx hb hts hin0 hown hK hP 0 rfl rfl 7 (by decide) (hts (.fieldLink RX0 42 "BoatRuns$Boat" "runWeights" "LBoatRuns$Row;") (by decide +kernel)) (fun _ h9 => h9) rfl dX0_breakRun_85 ?_
            refine lv_iload_n hx hb dX0_breakRun_88 rfl (lv_at hl 2 rfl) ?_
            refine lv_aload_n hx hb dX0_breakRun_89 rfl (lv_at hl 1 rfl) ?_
            refine va_get (D := (dC, dI)) (ci := 0) (v := .ref (a 2)) (C := RX0) (T := TX0) (N := 14) hx hb hts hin0 hown hK hP 0 rfl rfl 2 (by decide) (hts (.fieldLink RX0 27 "BoatRuns$Boat" "weights" "LBoatRuns$Row;") (by decide +kernel)) (fun _ h9 => h9) rfl dX0_breakRun_90 ?_
            refine lv_iload hx hb dX0_breakRun_93 (lv_at hl 0 rfl) ?_
            obtain ⟨v16, ev16, hf⟩ := x_bind hf
            refine xc_ri (As := [.int (iI v12)]) (rest := [.int (iI p0), .ref (a 7)]) ⟨hx, hb, hml, hown, hts⟩ (c2_get l dC dI cs (a 2) (a 9) 120 (g0_weis b8) v12 (by decide) _ ev16) (cwV 1 hts gX0_breakRun_X2_get rfl rfl rfl cdX2_get ⟨Nat.le_of_ble_eq_true rfl, Nat.le_of_ble_eq_true rfl⟩) hK hP [2, 9] rfl 2 rfl rfl rfl hl.1 rfl (Nat.le_of_ble_eq_true rfl) dX0_breakRun_95 ⟨Nat.zero_le _, Nat.zero_le _⟩ ?_
            refine xk_ineg hx hb dX0_breakRun_98 ?_
            obtain ⟨r17, er17, hf⟩ := x_bind hf
            refine xc_wv (As := [.int (iI p0), .int (iI (-v16))]) (rest := []) ⟨hx, hb, hml, hown, hts⟩ (c2_increase l dC dI cs (a 7) (a 14) _ 120 (g0_rwts b8) p0 (-v16) (by decide) _ er17) (cwV 2 hts gX0_breakRun_X2_increase rfl rfl rfl cdX2_increase ⟨Nat.le_of_ble_eq_true rfl, Nat.le_of_ble_eq_true rfl⟩) hK hP (x_addr hD rfl) hS hA [7, 14] rfl (by decide) rfl 7 rfl rfl rfl hl.1 rfl (Nat.le_of_ble_eq_true rfl) dX0_breakRun_99 ⟨Nat.zero_le _, Nat.zero_le _⟩ (fun H locs hP hS => ?_)
            have hP : va_P (dC, dI) vwCl (w0C cs a (g0_room b8) (g0_opn b8) (g0_flo b8) (g0_cst b8) (g0_mrg b8) (g0_stm b8) (g0_brk b8) (g0_keys b8) (g0_weis b8) (g0_homs b8) (g0_ords b8) (g0_flts b8) (g0_strs b8) r17) H := hP
            refine lv_aload_n hx hb dX0_breakRun_102 rfl (lv_at hl 1 rfl) ?_
            refine lv_iload hx hb dX0_breakRun_103 (lv_at hl 0 rfl) ?_
            refine lv_iload hx hb dX0_breakRun_105 (lv_at hl 5 rfl) ?_
            obtain ⟨b18, eb18, hf⟩ := x_bind hf
            refine xc_wv (As := [.int (iI v12), .int (iI (v7 - 1))]) (rest := []) ⟨hx, hb, hml, hown, hts⟩ (c0_tie l dC dI cs a _ (s0_rwts b8 r17) v12 (v7 - 1)  _ eb18) (cwV 2 hts gX0_breakRun_X0_tie rfl rfl rfl cdX0_tie ⟨Nat.le_of_ble_eq_true rfl, Nat.le_of_ble_eq_true rfl⟩) hK hP (x_addr hD rfl) hS hA [0, 1, 2, 3, 4, 5, 6, 7, 8, 9, 10, 11, 12, 13, 14] rfl (by decide) rfl 0 rfl rfl rfl hl.1 rfl (Nat.le_of_ble_eq_true rfl) dX0_breakRun_107 ⟨Nat.zero_le _, Nat.zero_le _⟩ (fun H locs hP hS => ?_)
            have hP : va_P (dC, dI) vwCl (w0 cs a b18) H := hP
            refine xk_iinc (lv' := [(5, .int (iI (l5 + 1))), (6, .int (iI v12)), (0, .ref (a 0)), (1, .int (iI p0)), (2, .int (iI v1)), (3, .int (iI l3)), (4, .int (iI (v7 - 1)))]) hx hb dX0_breakRun_110 hl (k := 6) rfl (by decide) rfl (fun ls hl => ?_)
            refine lv_goto (tgt := 38) hx hb dX0_breakRun_113 (by decide) ?_
            exact ih38 l3 (l5 + 1) b18 hf _ _ hP hS ls (lv_sub hl [2, 3, 4, 5, 6, 0] rfl)
        · have hf := c14f c14
          refine xk_iinc (lv' := [(5, .int (iI (l5 + 1))), (6, .int (iI v12)), (0, .ref (a 0)), (1, .int (iI p0)), (2, .int (iI v1)), (3, .int (iI l3)), (4, .int (iI (v7 - 1)))]) hx hb dX0_breakRun_110 hl (k := 6) rfl (by decide) rfl (fun ls hl => ?_)
          refine lv_goto (tgt := 38) hx hb dX0_breakRun_113 (by decide) ?_
          exact ih38 l3 (l5 + 1) b8 hf _ _ hP hS ls (lv_sub hl [2, 3, 4, 5, 6, 0] rfl)
      · have hf := c11f c11
        obtain rfl := Option.some.inj hf
        exact xe_wv hx hb hr hlocks hS hP dX0_breakRun_116
  exact hL38  xFU v3 0 b4 hf _ _ hP hS ls (lv_sub hl [4, 5, 3, 2, 1, 0] rfl)
theorem cdX0_breakRun : yX0_breakRun.cls = RX0 ∧ yX0_breakRun.cls ≠ "java/lang/invoke/MethodHandle" ∧ yX0_breakRun.cls ≠ "java/lang/invoke/VarHandle" ∧ (parseMethodDescriptor yX0_breakRun.desc).map (fun d => d.parameters.length) = some 1 := by decide +kernel

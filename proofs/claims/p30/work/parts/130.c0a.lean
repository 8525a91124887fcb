set_option maxHeartbeats 4000000 in
set_option maxRecDepth 100000 in
theorem c0_startAgain (l : Launch) (dC : Nat → ClassId) (dI : Nat → Nat → Nat) (cs : Nat → ClassId) (a : Nat → Nat) (sz : Nat) (b : BoatS) (p0 : Int) (res : BoatS) (hf : f0_startAgain b p0 = some res) : Met l yX0_startAgain wsX0_startAgain ({ frames := 1, cells := 0, slots := 0, locals := 20 } : Room) (va_Pc [.ref (a 0), .int (iI p0)] (xPW (dC, dI) vwCl (w0 cs a b) (xT cs) sz)) (xQv (dC, dI) vwCl (w0 cs a b) (w0 cs a res) sz) 0 0 (va_A (w0 cs a b) sz) := by
  refine Met.ofW (cc := cX0_startAgain) (maxL := 2) (ret := none) (by decide) rfl ?_
  intro p e s m args below meth c s₁ B hml hv
  obtain ⟨rfl, hsz, hP, hK, hD0⟩ := hv
  have hx := B.exec
  have hb := B.bytes
  have hr := B.returns
  have hts := atoms_spec (ws := wsX0_startAgain) B.pre
  have hown : s.vm.findClass RX0 = some m.cls := findClass_of_methodNamed B.named
  have hlocks := B.notSynchronized
  have hin0 : ∀ w ∈ wsX00, w ∈ wsX0_startAgain := by decide +kernel
  subst hsz
  have hD := hD0.self (sz := s.heap.size)
  have hA : ∀ z9 : Nat, s.heap.size ≤ z9 → va_A (w0 cs a b) s.heap.size z9 := fun z9 h => Or.inr h
  have hS : va_S (va_A (w0 cs a b) s.heap.size) s.heap s.heap [] := va_S.rf
  have hl := lv_entry [.ref (a 0), .int (iI p0)] (n := 2) (Nat.le_of_ble_eq_true rfl)
  rw [lg_entry_eq]
  generalize (lg_sl [.ref (a 0), .int (iI p0)] ++ List.replicate (2 - (lg_sl [.ref (a 0), .int (iI p0)]).length) Slot.unset).toArray = ls at hl ⊢
  have hl : lv_has ls 2 [(0, .ref (a 0)), (1, .int (iI p0))] := hl
  unfold f0_startAgain at hf
  refine lv_aload_n hx hb dX0_startAgain_0 rfl (lv_at hl 0 rfl) ?_
  refine lv_iload_n hx hb dX0_startAgain_1 rfl (lv_at hl 1 rfl) ?_
  refine va_put (D := (dC, dI)) (ci := 0) (v := .int (iI p0)) (ty := .int) (C := RX0) (T := TX0) (N := 14) hx hb hts hin0 tyX0 tyX0_ok nmX0 hown hK hP (x_addr hD rfl) hS 0 rfl rfl 0 (by decide) (hts (.fieldLink RX0 9 "BoatRuns$Boat" "room" "I") (by decide +kernel)) (fun _ h9 => h9) rfl (by decide +kernel) rfl rfl (Nat.le_of_ble_eq_true rfl) dX0_startAgain_2 (fun H locs hP _ hS => ?_)
  have hP : va_P (dC, dI) vwCl (w0C cs a p0 (g0_opn b) (g0_flo b) (g0_cst b) (g0_mrg b) (g0_stm b) (g0_brk b) (g0_keys b) (g0_weis b) (g0_homs b) (g0_ords b) (g0_flts b) (g0_strs b) (g0_rwts b)) H := hP
  refine lv_aload_n hx hb dX0_startAgain_5 rfl (lv_at hl 0 rfl) ?_
  refine va_get (D := (dC, dI)) (ci := 0) (v := .ref (a 1)) (C := RX0) (T := TX0) (N := 14) hx hb hts hin0 hown hK hP 0 rfl rfl 1 (by decide) (hts (.fieldLink RX0 23 "BoatRuns$Boat" "keys" "LBoatRuns$Row;") (by decide +kernel)) (fun _ h9 => h9) rfl dX0_startAgain_6 ?_
  obtain ⟨r1, er1, hf⟩ := x_bind hf
  refine xc_wv (As := []) (rest := []) ⟨hx, hb, hml, hown, hts⟩ (c2_clear l dC dI cs (a 1) (a 8) _ 120 (g0_keys b) (by decide) _ er1) (cwV 0 hts gX0_startAgain_X2_clear rfl rfl rfl cdX2_clear ⟨Nat.le_of_ble_eq_true rfl, Nat.le_of_ble_eq_true rfl⟩) hK hP (x_addr hD rfl) hS hA [1, 8] rfl (by decide) rfl 1 rfl rfl rfl hl.1 rfl (Nat.le_of_ble_eq_true rfl) dX0_startAgain_9 ⟨Nat.zero_le _, Nat.zero_le _⟩ (fun H locs hP hS => ?_)
  have hP : va_P (dC, dI) vwCl (w0C cs a p0 (g0_opn b) (g0_flo b) (g0_cst b) (g0_mrg b) (g0_stm b) (g0_brk b) r1 (g0_weis b) (g0_homs b) (g0_ords b) (g0_flts b) (g0_strs b) (g0_rwts b)) H := hP
  refine lv_aload_n hx hb dX0_startAgain_12 rfl (lv_at hl 0 rfl) ?_
  refine va_get (D := (dC, dI)) (ci := 0) (v := .ref (a 2)) (C := RX0) (T := TX0) (N := 14) hx hb hts hin0 hown hK hP 0 rfl rfl 2 (by decide) (hts (.fieldLink RX0 27 "BoatRuns$Boat" "weights" "LBoatRuns$Row;") (by decide +kernel)) (fun _ h9 => h9) rfl dX0_startAgain_13 ?_
  obtain ⟨r2, er2, hf⟩ := x_bind hf
  refine xc_wv (As := []) (rest := []) ⟨hx, hb, hml, hown, hts⟩ (c2_clear l dC dI cs (a 2) (a 9) _ 120 (g0_weis b) (by decide) _ er2) (cwV 0 hts gX0_startAgain_X2_clear rfl rfl rfl cdX2_clear ⟨Nat.le_of_ble_eq_true rfl, Nat.le_of_ble_eq_true rfl⟩) hK hP (x_addr hD rfl) hS hA [2, 9] rfl (by decide) rfl 2 rfl rfl rfl hl.1 rfl (Nat.le_of_ble_eq_true rfl) dX0_startAgain_16 ⟨Nat.zero_le _, Nat.zero_le _⟩ (fun H locs hP hS => ?_)
  have hP : va_P (dC, dI) vwCl (w0C cs a p0 (g0_opn b) (g0_flo b) (g0_cst b) (g0_mrg b) (g0_stm b) (g0_brk b) r1 r2 (g0_homs b) (g0_ords b) (g0_flts b) (g0_strs b) (g0_rwts b)) H := hP
  refine lv_aload_n hx hb dX0_startAgain_19 rfl (lv_at hl 0 rfl) ?_
  refine va_get (D := (dC, dI)) (ci := 0) (v := .ref (a 3)) (C := RX0) (T := TX0) (N := 14) hx hb hts hin0 hown hK hP 0 rfl rfl 3 (by decide) (hts (.fieldLink RX0 30 "BoatRuns$Boat" "homes" "LBoatRuns$Row;") (by decide +kernel)) (fun _ h9 => h9) rfl dX0_startAgain_20 ?_
  obtain ⟨r3, er3, hf⟩ := x_bind hf
  refine xc_wv (As := []) (rest := []) ⟨hx, hb, hml, hown, hts⟩ (c2_clear l dC dI cs (a 3) (a 10) _ 120 (g0_homs b) (by decide) _ er3) (cwV 0 hts gX0_startAgain_X2_clear rfl rfl rfl cdX2_clear ⟨Nat.le_of_ble_eq_true rfl, Nat.le_of_ble_eq_true rfl⟩) hK hP (x_addr hD rfl) hS hA [3, 10] rfl (by decide) rfl 3 rfl rfl rfl hl.1 rfl (Nat.le_of_ble_eq_true rfl) dX0_startAgain_23 ⟨Nat.zero_le _, Nat.zero_le _⟩ (fun H locs hP hS => ?_)
  have hP : va_P (dC, dI) vwCl (w0C cs a p0 (g0_opn b) (g0_flo b) (g0_cst b) (g0_mrg b) (g0_stm b) (g0_brk b) r1 r2 r3 (g0_ords b) (g0_flts b) (g0_strs b) (g0_rwts b)) H := hP
  refine lv_aload_n hx hb dX0_startAgain_26 rfl (lv_at hl 0 rfl) ?_
  refine va_get (D := (dC, dI)) (ci := 0) (v := .ref (a 4)) (C := RX0) (T := TX0) (N := 14) hx hb hts hin0 hown hK hP 0 rfl rfl 4 (by decide) (hts (.fieldLink RX0 33 "BoatRuns$Boat" "order" "LBoatRuns$Row;") (by decide +kernel)) (fun _ h9 => h9) rfl dX0_startAgain_27 ?_
  obtain ⟨r4, er4, hf⟩ := x_bind hf
  refine xc_wv (As := []) (rest := []) ⟨hx, hb, hml, hown, hts⟩ (c2_clear l dC dI cs (a 4) (a 11) _ 120 (g0_ords b) (by decide) _ er4) (cwV 0 hts gX0_startAgain_X2_clear rfl rfl rfl cdX2_clear ⟨Nat.le_of_ble_eq_true rfl, Nat.le_of_ble_eq_true rfl⟩) hK hP (x_addr hD rfl) hS hA [4, 11] rfl (by decide) rfl 4 rfl rfl rfl hl.1 rfl (Nat.le_of_ble_eq_true rfl) dX0_startAgain_30 ⟨Nat.zero_le _, Nat.zero_le _⟩ (fun H locs hP hS => ?_)
  have hP : va_P (dC, dI) vwCl (w0C cs a p0 (g0_opn b) (g0_flo b) (g0_cst b) (g0_mrg b) (g0_stm b) (g0_brk b) r1 r2 r3 r4 (g0_flts b) (g0_strs b) (g0_rwts b)) H := hP
  refine lv_aload_n hx hb dX0_startAgain_33 rfl (lv_at hl 0 rfl) ?_
  refine va_get (D := (dC, dI)) (ci := 0) (v := .ref (a 5)) (C := RX0) (T := TX0) (N := 14) hx hb hts hin0 hown hK hP 0 rfl rfl 5 (by decide) (hts (.fieldLink RX0 36 "BoatRuns$Boat" "floats" "LBoatRuns$Row;") (by decide +kernel)) (fun _ h9 => h9) rfl dX0_startAgain_34 ?_
  obtain ⟨r5, er5, hf⟩ := x_bind hf
  refine xc_wv (As := []) (rest := []) ⟨hx, hb, hml, hown, hts⟩ (c2_clear l dC dI cs (a 5) (a 12) _ 120 (g0_flts b) (by decide) _ er5) (cwV 0 hts gX0_startAgain_X2_clear rfl rfl rfl cdX2_clear ⟨Nat.le_of_ble_eq_true rfl, Nat.le_of_ble_eq_true rfl⟩) hK hP (x_addr hD rfl) hS hA [5, 12] rfl (by decide) rfl 5 rfl rfl rfl hl.1 rfl (Nat.le_of_ble_eq_true rfl) dX0_startAgain_37 ⟨Nat.zero_le _, Nat.zero_le _⟩ (fun H locs hP hS => ?_)
  have hP : va_P (dC, dI) vwCl (w0C cs a p0 (g0_opn b) (g0_flo b) (g0_cst b) (g0_mrg b) (g0_stm b) (g0_brk b) r1 r2 r3 r4 r5 (g0_strs b) (g0_rwts b)) H := hP
  refine lv_aload_n hx hb dX0_startAgain_40 rfl (lv_at hl 0 rfl) ?_
  refine va_get (D := (dC, dI)) (ci := 0) (v := .ref (a 6)) (C := RX0) (T := TX0) (N := 14) hx hb hts hin0 hown hK hP 0 rfl rfl 6 (by decide) (hts (.fieldLink RX0 39 "BoatRuns$Boat" "strengths" "LBoatRuns$Row;") (by decide +kernel)) (fun _ h9 => h9) rfl dX0_startAgain_41 ?_
  obtain ⟨r6, er6, hf⟩ := x_bind hf
  refine xc_wv (As := []) (rest := []) ⟨hx, hb, hml, hown, hts⟩ (c2_clear l dC dI cs (a 6) (a 13) _ 120 (g0_strs b) (by decide) _ er6) (cwV 0 hts gX0_startAgain_X2_clear rfl rfl rfl cdX2_clear ⟨Nat.le_of_ble_eq_true rfl, Nat.le_of_ble_eq_true rfl⟩) hK hP (x_addr hD rfl) hS hA [6, 13] rfl (by decide) rfl 6 rfl rfl rfl hl.1 rfl (Nat.le_of_ble_eq_true rfl) dX0_startAgain_44 ⟨Nat.zero_le _, Nat.zero_le _⟩ (fun H locs hP hS => ?_)
  have hP : va_P (dC, dI) vwCl (w0C cs a p0 (g0_opn b) (g0_flo b) (g0_cst b) (g0_mrg b) (g0_stm b) (g0_brk b) r1 r2 r3 r4 r5 r6 (g0_rwts b)) H := hP
  refine lv_aload_n hx hb dX0_startAgain_47 rfl (lv_at hl 0 rfl) ?_
  refine va_get (D := (dC, dI)) (ci := 0) (v := .ref (a 7)) (C := RX0) (T := TX0) (N := 14) hx hb hts hin0 hown hK hP 0 rfl rfl 7 (by decide) (hts (.fieldLink RX0 42 "BoatRuns$Boat" "runWeights" "LBoatRuns$Row;") (by decide +kernel)) (fun _ h9 => h9) rfl dX0_startAgain_48 ?_
  obtain ⟨r7, er7, hf⟩ := x_bind hf
  refine xc_wv (As := []) (rest := []) ⟨hx, hb, hml, hown, hts⟩ (c2_clear l dC dI cs (a 7) (a 14) _ 120 (g0_rwts b) (by decide) _ er7) (cwV 0 hts gX0_startAgain_X2_clear rfl rfl rfl cdX2_clear ⟨Nat.le_of_ble_eq_true rfl, Nat.le_of_ble_eq_true rfl⟩) hK hP (x_addr hD rfl) hS hA [7, 14] rfl (by decide) rfl 7 rfl rfl rfl hl.1 rfl (Nat.le_of_ble_eq_true rfl) dX0_startAgain_51 ⟨Nat.zero_le _, Nat.zero_le _⟩ (fun H locs hP hS => ?_)
  have hP : va_P (dC, dI) vwCl (w0C cs a p0 (g0_opn b) (g0_flo b) (g0_cst b) (g0_mrg b) (g0_stm b) (g0_brk b) r1 r2 r3 r4 r5 r6 r7) H := hP
  refine lv_aload_n hx hb dX0_startAgain_54 rfl (lv_at hl 0 rfl) ?_
  refine xk_iconst hx hb dX0_startAgain_55 ?_
  refine va_put (D := (dC, dI)) (ci := 0) (v := .int (iI (-1))) (ty := .int) (C := RX0) (T := TX0) (N := 14) hx hb hts hin0 tyX0 tyX0_ok nmX0 hown hK hP (x_addr hD rfl) hS 0 rfl rfl 8 (by decide) (hts (.fieldLink RX0 15 "BoatRuns$Boat" "open" "I") (by decide +kernel)) (fun _ h9 => h9) rfl (by decide +kernel) rfl rfl (Nat.le_of_ble_eq_true rfl) dX0_startAgain_56 (fun H locs hP _ hS => ?_)
  have hP : va_P (dC, dI) vwCl (w0C cs a p0 (-1) (g0_flo b) (g0_cst b) (g0_mrg b) (g0_stm b) (g0_brk b) r1 r2 r3 r4 r5 r6 r7) H := hP
  refine lv_aload_n hx hb dX0_startAgain_59 rfl (lv_at hl 0 rfl) ?_
  refine xk_iconst hx hb dX0_startAgain_60 ?_
  refine va_put (D := (dC, dI)) (ci := 0) (v := .int (iI 0)) (ty := .int) (C := RX0) (T := TX0) (N := 14) hx hb hts hin0 tyX0 tyX0_ok nmX0 hown hK hP (x_addr hD rfl) hS 0 rfl rfl 9 (by decide) (hts (.fieldLink RX0 48 "BoatRuns$Boat" "floatsUsed" "I") (by decide +kernel)) (fun _ h9 => h9) rfl (by decide +kernel) rfl rfl (Nat.le_of_ble_eq_true rfl) dX0_startAgain_61 (fun H locs hP _ hS => ?_)
  have hP : va_P (dC, dI) vwCl (w0C cs a p0 (-1) 0 (g0_cst b) (g0_mrg b) (g0_stm b) (g0_brk b) r1 r2 r3 r4 r5 r6 r7) H := hP
  refine lv_aload_n hx hb dX0_startAgain_64 rfl (lv_at hl 0 rfl) ?_
  refine xk_iconst hx hb dX0_startAgain_65 ?_
  refine va_put (D := (dC, dI)) (ci := 0) (v := .int (iI 0)) (ty := .int) (C := RX0) (T := TX0) (N := 14) hx hb hts hin0 tyX0 tyX0_ok nmX0 hown hK hP (x_addr hD rfl) hS 0 rfl rfl 10 (by decide) (hts (.fieldLink RX0 51 "BoatRuns$Boat" "costs" "I") (by decide +kernel)) (fun _ h9 => h9) rfl (by decide +kernel) rfl rfl (Nat.le_of_ble_eq_true rfl) dX0_startAgain_66 (fun H locs hP _ hS => ?_)
  have hP : va_P (dC, dI) vwCl (w0C cs a p0 (-1) 0 0 (g0_mrg b) (g0_stm b) (g0_brk b) r1 r2 r3 r4 r5 r6 r7) H := hP
  refine lv_aload_n hx hb dX0_startAgain_69 rfl (lv_at hl 0 rfl) ?_
  refine xk_iconst hx hb dX0_startAgain_70 ?_
  refine va_put (D := (dC, dI)) (ci := 0) (v := .int (iI 0)) (ty := .int) (C := RX0) (T := TX0) (N := 14) hx hb hts hin0 tyX0 tyX0_ok nmX0 hown hK hP (x_addr hD rfl) hS 0 rfl rfl 11 (by decide) (hts (.fieldLink RX0 54 "BoatRuns$Boat" "merges" "I") (by decide +kernel)) (fun _ h9 => h9) rfl (by decide +kernel) rfl rfl (Nat.le_of_ble_eq_true rfl) dX0_startAgain_71 (fun H locs hP _ hS => ?_)
  have hP : va_P (dC, dI) vwCl (w0C cs a p0 (-1) 0 0 0 (g0_stm b) (g0_brk b) r1 r2 r3 r4 r5 r6 r7) H := hP
  refine lv_aload_n hx hb dX0_startAgain_74 rfl (lv_at hl 0 rfl) ?_
  refine xk_iconst hx hb dX0_startAgain_75 ?_
  refine va_put (D := (dC, dI)) (ci := 0) (v := .int (iI 0)) (ty := .int) (C := RX0) (T := TX0) (N := 14) hx hb hts hin0 tyX0 tyX0_ok nmX0 hown hK hP (x_addr hD rfl) hS 0 rfl rfl 12 (by decide) (hts (.fieldLink RX0 57 "BoatRuns$Boat" "storms" "I") (by decide +kernel)) (fun _ h9 => h9) rfl (by decide +kernel) rfl rfl (Nat.le_of_ble_eq_true rfl) dX0_startAgain_76 (fun H locs hP _ hS => ?_)
  have hP : va_P (dC, dI) vwCl (w0C cs a p0 (-1) 0 0 0 0 (g0_brk b) r1 r2 r3 r4 r5 r6 r7) H := hP
  refine lv_aload_n hx hb dX0_startAgain_79 rfl (lv_at hl 0 rfl) ?_
  refine xk_iconst hx hb dX0_startAgain_80 ?_
  refine va_put (D := (dC, dI)) (ci := 0) (v := .int (iI 0)) (ty := .int) (C := RX0) (T := TX0) (N := 14) hx hb hts hin0 tyX0 tyX0_ok nmX0 hown hK hP (x_addr hD rfl) hS 0 rfl rfl 13 (by decide) (hts (.fieldLink RX0 60 "BoatRuns$Boat" "broken" "I") (by decide +kernel)) (fun _ h9 => h9) rfl (by decide +kernel) rfl rfl (Nat.le_of_ble_eq_true rfl) dX0_startAgain_81 (fun H locs hP _ hS => ?_)
  have hP : va_P (dC, dI) vwCl (w0C cs a p0 (-1) 0 0 0 0 0 r1 r2 r3 r4 r5 r6 r7) H := hP
  obtain rfl := Option.some.inj hf
  exact xe_wv hx hb hr hlocks hS hP dX0_startAgain_84
theorem cdX0_startAgain : yX0_startAgain.cls = RX0 ∧ yX0_startAgain.cls ≠ "java/lang/invoke/MethodHandle" ∧ yX0_startAgain.cls ≠ "java/lang/invoke/VarHandle" ∧ (parseMethodDescriptor yX0_startAgain.desc).map (fun d => d.parameters.length) = some 1 := by decide +kernel

set_option maxHeartbeats 4000000 in
set_option maxRecDepth 100000 in
theorem c0_copy (l : Launch) (dC : Nat → ClassId) (dI : Nat → Nat → Nat) (cs : Nat → ClassId) (a : Nat → Nat) (aq : Nat → Nat) (sz : Nat) (b : BoatS) (o : BoatS) (res : BoatS) (hf : f0_copy b o = some res) : Met l yX0_copy wsX0_copy ({ frames := 2, cells := 0, slots := 0, locals := 36 } : Room) (va_Pc [.ref (a 0), .ref (aq 0)] (xPW (dC, dI) vwCl (w0 cs a b ++ w0 cs aq o) (xT cs) sz)) (xQv (dC, dI) vwCl (w0 cs a b ++ w0 cs aq o) (w0 cs a res ++ w0 cs aq o) sz) 0 0 (va_A (w0 cs a b ++ w0 cs aq o) sz) := by
  refine Met.ofW (cc := cX0_copy) (maxL := 2) (ret := none) (by decide) rfl ?_
  intro p e s m args below meth c s₁ B hml hv
  obtain ⟨rfl, hsz, hP, hK, hD0⟩ := hv
  have hx := B.exec
  have hb := B.bytes
  have hr := B.returns
  have hts := atoms_spec (ws := wsX0_copy) B.pre
  have hown : s.vm.findClass RX0 = some m.cls := findClass_of_methodNamed B.named
  have hlocks := B.notSynchronized
  have hin0 : ∀ w ∈ wsX00, w ∈ wsX0_copy := by decide +kernel
  subst hsz
  have hD := hD0.self (sz := s.heap.size)
  have hA : ∀ z9 : Nat, s.heap.size ≤ z9 → va_A (w0 cs a b ++ w0 cs aq o) s.heap.size z9 := fun z9 h => Or.inr h
  have hS : va_S (va_A (w0 cs a b ++ w0 cs aq o) s.heap.size) s.heap s.heap [] := va_S.rf
  have hl := lv_entry [.ref (a 0), .ref (aq 0)] (n := 2) (Nat.le_of_ble_eq_true rfl)
  rw [lg_entry_eq]
  generalize (lg_sl [.ref (a 0), .ref (aq 0)] ++ List.replicate (2 - (lg_sl [.ref (a 0), .ref (aq 0)]).length) Slot.unset).toArray = ls at hl ⊢
  have hl : lv_has ls 2 [(0, .ref (a 0)), (1, .ref (aq 0))] := hl
  unfold f0_copy at hf
  refine lv_aload_n hx hb dX0_copy_0 rfl (lv_at hl 0 rfl) ?_
  refine lv_aload_n hx hb dX0_copy_1 rfl (lv_at hl 1 rfl) ?_
  refine va_get (D := (dC, dI)) (ci := 0) (v := .int (iI (g0_room o))) (C := RX0) (T := TX0) (N := 14) hx hb hts hin0 hown hK hP 15 rfl rfl 0 (by decide) (hts (.fieldLink RX0 9 "BoatRuns$Boat" "room" "I") (by decide +kernel)) (fun _ h9 => h9) rfl dX0_copy_2 ?_
  refine va_put (D := (dC, dI)) (ci := 0) (v := .int (iI (g0_room o))) (ty := .int) (C := RX0) (T := TX0) (N := 14) hx hb hts hin0 tyX0 tyX0_ok nmX0 hown hK hP (x_addr hD rfl) hS 0 rfl rfl 0 (by decide) (hts (.fieldLink RX0 9 "BoatRuns$Boat" "room" "I") (by decide +kernel)) (fun _ h9 => h9) rfl (by decide +kernel) rfl rfl (Nat.le_of_ble_eq_true rfl) dX0_copy_5 (fun H locs hP _ hS => ?_)
  have hP : va_P (dC, dI) vwCl (w0C cs a (g0_room o) (g0_opn b) (g0_flo b) (g0_cst b) (g0_mrg b) (g0_stm b) (g0_brk b) (g0_keys b) (g0_weis b) (g0_homs b) (g0_ords b) (g0_flts b) (g0_strs b) (g0_rwts b) ++ w0 cs aq o) H := hP
  refine lv_aload_n hx hb dX0_copy_8 rfl (lv_at hl 0 rfl) ?_
  refine va_get (D := (dC, dI)) (ci := 0) (v := .ref (a 1)) (C := RX0) (T := TX0) (N := 14) hx hb hts hin0 hown hK hP 0 rfl rfl 1 (by decide) (hts (.fieldLink RX0 23 "BoatRuns$Boat" "keys" "LBoatRuns$Row;") (by decide +kernel)) (fun _ h9 => h9) rfl dX0_copy_9 ?_
  refine lv_aload_n hx hb dX0_copy_12 rfl (lv_at hl 1 rfl) ?_
  refine va_get (D := (dC, dI)) (ci := 0) (v := .ref (aq 1)) (C := RX0) (T := TX0) (N := 14) hx hb hts hin0 hown hK hP 15 rfl rfl 1 (by decide) (hts (.fieldLink RX0 23 "BoatRuns$Boat" "keys" "LBoatRuns$Row;") (by decide +kernel)) (fun _ h9 => h9) rfl dX0_copy_13 ?_
  obtain ⟨r1, er1, hf⟩ := x_bind hf
  refine xc_wv (As := [.ref (aq 1)]) (rest := []) ⟨hx, hb, hml, hown, hts⟩ (c2_copy l dC dI cs (a 1) (a 8) (aq 1) (aq 8) _ 120 (g0_keys b) 120 (g0_keys o) (by decide) (by decide) _ er1) (cwV 1 hts gX0_copy_X2_copy rfl rfl rfl cdX2_copy ⟨Nat.le_of_ble_eq_true rfl, Nat.le_of_ble_eq_true rfl⟩) hK hP (x_addr hD rfl) hS hA [1, 8, 16, 23] rfl (by decide) rfl 1 rfl rfl rfl hl.1 rfl (Nat.le_of_ble_eq_true rfl) dX0_copy_16 ⟨Nat.zero_le _, Nat.zero_le _⟩ (fun H locs hP hS => ?_)
  have hP : va_P (dC, dI) vwCl (w0C cs a (g0_room o) (g0_opn b) (g0_flo b) (g0_cst b) (g0_mrg b) (g0_stm b) (g0_brk b) r1 (g0_weis b) (g0_homs b) (g0_ords b) (g0_flts b) (g0_strs b) (g0_rwts b) ++ w0 cs aq o) H := hP
  refine lv_aload_n hx hb dX0_copy_19 rfl (lv_at hl 0 rfl) ?_
  refine va_get (D := (dC, dI)) (ci := 0) (v := .ref (a 2)) (C := RX0) (T := TX0) (N := 14) hx hb hts hin0 hown hK hP 0 rfl rfl 2 (by decide) (hts (.fieldLink RX0 27 "BoatRuns$Boat" "weights" "LBoatRuns$Row;") (by decide +kernel)) (fun _ h9 => h9) rfl dX0_copy_20 ?_
  refine lv_aload_n hx hb dX0_copy_23 rfl (lv_at hl 1 rfl) ?_
  refine va_get (D := (dC, dI)) (ci := 0) (v := .ref (aq 2)) (C := RX0) (T := TX0) (N := 14) hx hb hts hin0 hown hK hP 15 rfl rfl 2 (by decide) (hts (.fieldLink RX0 27 "BoatRuns$Boat" "weights" "LBoatRuns$Row;") (by decide +kernel)) (fun _ h9 => h9) rfl dX0_copy_24 ?_
  obtain ⟨r2, er2, hf⟩ := x_bind hf
  refine xc_wv (As := [.ref (aq 2)]) (rest := []) ⟨hx, hb, hml, hown, hts⟩ (c2_copy l dC dI cs (a 2) (a 9) (aq 2) (aq 9) _ 120 (g0_weis b) 120 (g0_weis o) (by decide) (by decide) _ er2) (cwV 1 hts gX0_copy_X2_copy rfl rfl rfl cdX2_copy ⟨Nat.le_of_ble_eq_true rfl, Nat.le_of_ble_eq_true rfl⟩) hK hP (x_addr hD rfl) hS hA [2, 9, 17, 24] rfl (by decide) rfl 2 rfl rfl rfl hl.1 rfl (Nat.le_of_ble_eq_true rfl) dX0_copy_27 ⟨Nat.zero_le _, Nat.zero_le _⟩ (fun H locs hP hS => ?_)
  have hP : va_P (dC, dI) vwCl (w0C cs a (g0_room o) (g0_opn b) (g0_flo b) (g0_cst b) (g0_mrg b) (g0_stm b) (g0_brk b) r1 r2 (g0_homs b) (g0_ords b) (g0_flts b) (g0_strs b) (g0_rwts b) ++ w0 cs aq o) H := hP
  refine lv_aload_n hx hb dX0_copy_30 rfl (lv_at hl 0 rfl) ?_
  refine va_get (D := (dC, dI)) (ci := 0) (v := .ref (a 3)) (C := RX0) (T := TX0) (N := 14) hx hb hts hin0 hown hK hP 0 rfl rfl 3 (by decide) (hts (.fieldLink RX0 30 "BoatRuns$Boat" "homes" "LBoatRuns$Row;") (by decide +kernel)) (fun _ h9 => h9) rfl dX0_copy_31 ?_
  refine lv_aload_n hx hb dX0_copy_34 rfl (lv_at hl 1 rfl) ?_
  refine va_get (D := (dC, dI)) (ci := 0) (v := .ref (aq 3)) (C := RX0) (T := TX0) (N := 14) hx hb hts hin0 hown hK hP 15 rfl rfl 3 (by decide) (hts (.fieldLink RX0 30 "BoatRuns$Boat" "homes" "LBoatRuns$Row;") (by decide +kernel)) (fun _ h9 => h9) rfl dX0_copy_35 ?_
  obtain ⟨r3, er3, hf⟩ := x_bind hf
  refine xc_wv (As := [.ref (aq 3)]) (rest := []) ⟨hx, hb, hml, hown, hts⟩ (c2_copy l dC dI cs (a 3) (a 10) (aq 3) (aq 10) _ 120 (g0_homs b) 120 (g0_homs o) (by decide) (by decide) _ er3) (cwV 1 hts gX0_copy_X2_copy rfl rfl rfl cdX2_copy ⟨Nat.le_of_ble_eq_true rfl, Nat.le_of_ble_eq_true rfl⟩) hK hP (x_addr hD rfl) hS hA [3, 10, 18, 25] rfl (by decide) rfl 3 rfl rfl rfl hl.1 rfl (Nat.le_of_ble_eq_true rfl) dX0_copy_38 ⟨Nat.zero_le _, Nat.zero_le _⟩ (fun H locs hP hS => ?_)
  have hP : va_P (dC, dI) vwCl (w0C cs a (g0_room o) (g0_opn b) (g0_flo b) (g0_cst b) (g0_mrg b) (g0_stm b) (g0_brk b) r1 r2 r3 (g0_ords b) (g0_flts b) (g0_strs b) (g0_rwts b) ++ w0 cs aq o) H := hP
  refine lv_aload_n hx hb dX0_copy_41 rfl (lv_at hl 0 rfl) ?_
  refine va_get (D := (dC, dI)) (ci := 0) (v := .ref (a 4)) (C := RX0) (T := TX0) (N := 14) hx hb hts hin0 hown hK hP 0 rfl rfl 4 (by decide) (hts (.fieldLink RX0 33 "BoatRuns$Boat" "order" "LBoatRuns$Row;") (by decide +kernel)) (fun _ h9 => h9) rfl dX0_copy_42 ?_
  refine lv_aload_n hx hb dX0_copy_45 rfl (lv_at hl 1 rfl) ?_
  refine va_get (D := (dC, dI)) (ci := 0) (v := .ref (aq 4)) (C := RX0) (T := TX0) (N := 14) hx hb hts hin0 hown hK hP 15 rfl rfl 4 (by decide) (hts (.fieldLink RX0 33 "BoatRuns$Boat" "order" "LBoatRuns$Row;") (by decide +kernel)) (fun _ h9 => h9) rfl dX0_copy_46 ?_
  obtain ⟨r4, er4, hf⟩ := x_bind hf
  refine xc_wv (As := [.ref (aq 4)]) (rest := []) ⟨hx, hb, hml, hown, hts⟩ (c2_copy l dC dI cs (a 4) (a 11) (aq 4) (aq 11) _ 120 (g0_ords b) 120 (g0_ords o) (by decide) (by decide) _ er4) (cwV 1 hts gX0_copy_X2_copy rfl rfl rfl cdX2_copy ⟨Nat.le_of_ble_eq_true rfl, Nat.le_of_ble_eq_true rfl⟩) hK hP (x_addr hD rfl) hS hA [4, 11, 19, 26] rfl (by decide) rfl 4 rfl rfl rfl hl.1 rfl (Nat.le_of_ble_eq_true rfl) dX0_copy_49 ⟨Nat.zero_le _, Nat.zero_le _⟩ (fun H locs hP hS => ?_)
  have hP : va_P (dC, dI) vwCl (w0C cs a (g0_room o) (g0_opn b) (g0_flo b) (g0_cst b) (g0_mrg b) (g0_stm b) (g0_brk b) r1 r2 r3 r4 (g0_flts b) (g0_strs b) (g0_rwts b) ++ w0 cs aq o) H := hP
  refine lv_aload_n hx hb dX0_copy_52 rfl (lv_at hl 0 rfl) ?_
  refine va_get (D := (dC, dI)) (ci := 0) (v := .ref (a 5)) (C := RX0) (T := TX0) (N := 14) hx hb hts hin0 hown hK hP 0 rfl rfl 5 (by decide) (hts (.fieldLink RX0 36 "BoatRuns$Boat" "floats" "LBoatRuns$Row;") (by decide +kernel)) (fun _ h9 => h9) rfl dX0_copy_53 ?_
  refine lv_aload_n hx hb dX0_copy_56 rfl (lv_at hl 1 rfl) ?_
  refine va_get (D := (dC, dI)) (ci := 0) (v := .ref (aq 5)) (C := RX0) (T := TX0) (N := 14) hx hb hts hin0 hown hK hP 15 rfl rfl 5 (by decide) (hts (.fieldLink RX0 36 "BoatRuns$Boat" "floats" "LBoatRuns$Row;") (by decide +kernel)) (fun _ h9 => h9) rfl dX0_copy_57 ?_
  obtain ⟨r5, er5, hf⟩ := x_bind hf
  refine xc_wv (As := [.ref (aq 5)]) (rest := []) ⟨hx, hb, hml, hown, hts⟩ (c2_copy l dC dI cs (a 5) (a 12) (aq 5) (aq 12) _ 120 (g0_flts b) 120 (g0_flts o) (by decide) (by decide) _ er5) (cwV 1 hts gX0_copy_X2_copy rfl rfl rfl cdX2_copy ⟨Nat.le_of_ble_eq_true rfl, Nat.le_of_ble_eq_true rfl⟩) hK hP (x_addr hD rfl) hS hA [5, 12, 20, 27] rfl (by decide) rfl 5 rfl rfl rfl hl.1 rfl (Nat.le_of_ble_eq_true rfl) dX0_copy_60 ⟨Nat.zero_le _, Nat.zero_le _⟩ (fun H locs hP hS => ?_)
  have hP : va_P (dC, dI) vwCl (w0C cs a (g0_room o) (g0_opn b) (g0_flo b) (g0_cst b) (g0_mrg b) (g0_stm b) (g0_brk b) r1 r2 r3 r4 r5 (g0_strs b) (g0_rwts b) ++ w0 cs aq o) H := hP
  refine lv_aload_n hx hb dX0_copy_63 rfl (lv_at hl 0 rfl) ?_
  refine va_get (D := (dC, dI)) (ci := 0) (v := .ref (a 6)) (C := RX0) (T := TX0) (N := 14) hx hb hts hin0 hown hK hP 0 rfl rfl 6 (by decide) (hts (.fieldLink RX0 39 "BoatRuns$Boat" "strengths" "LBoatRuns$Row;") (by decide +kernel)) (fun _ h9 => h9) rfl dX0_copy_64 ?_
  refine lv_aload_n hx hb dX0_copy_67 rfl (lv_at hl 1 rfl) ?_
  refine va_get (D := (dC, dI)) (ci := 0) (v := .ref (aq 6)) (C := RX0) (T := TX0) (N := 14) hx hb hts hin0 hown hK hP 15 rfl rfl 6 (by decide) (hts (.fieldLink RX0 39 "BoatRuns$Boat" "strengths" "LBoatRuns$Row;") (by decide +kernel)) (fun _ h9 => h9) rfl dX0_copy_68 ?_
  obtain ⟨r6, er6, hf⟩ := x_bind hf
  refine xc_wv (As := [.ref (aq 6)]) (rest := []) ⟨hx, hb, hml, hown, hts⟩ (c2_copy l dC dI cs (a 6) (a 13) (aq 6) (aq 13) _ 120 (g0_strs b) 120 (g0_strs o) (by decide) (by decide) _ er6) (cwV 1 hts gX0_copy_X2_copy rfl rfl rfl cdX2_copy ⟨Nat.le_of_ble_eq_true rfl, Nat.le_of_ble_eq_true rfl⟩) hK hP (x_addr hD rfl) hS hA [6, 13, 21, 28] rfl (by decide) rfl 6 rfl rfl rfl hl.1 rfl (Nat.le_of_ble_eq_true rfl) dX0_copy_71 ⟨Nat.zero_le _, Nat.zero_le _⟩ (fun H locs hP hS => ?_)
  have hP : va_P (dC, dI) vwCl (w0C cs a (g0_room o) (g0_opn b) (g0_flo b) (g0_cst b) (g0_mrg b) (g0_stm b) (g0_brk b) r1 r2 r3 r4 r5 r6 (g0_rwts b) ++ w0 cs aq o) H := hP
  refine lv_aload_n hx hb dX0_copy_74 rfl (lv_at hl 0 rfl) ?_
  refine va_get (D := (dC, dI)) (ci := 0) (v := .ref (a 7)) (C := RX0) (T := TX0) (N := 14) hx hb hts hin0 hown hK hP 0 rfl rfl 7 (by decide) (hts (.fieldLink RX0 42 "BoatRuns$Boat" "runWeights" "LBoatRuns$Row;") (by decide +kernel)) (fun _ h9 => h9) rfl dX0_copy_75 ?_
  refine lv_aload_n hx hb dX0_copy_78 rfl (lv_at hl 1 rfl) ?_
  refine va_get (D := (dC, dI)) (ci := 0) (v := .ref (aq 7)) (C := RX0) (T := TX0) (N := 14) hx hb hts hin0 hown hK hP 15 rfl rfl 7 (by decide) (hts (.fieldLink RX0 42 "BoatRuns$Boat" "runWeights" "LBoatRuns$Row;") (by decide +kernel)) (fun _ h9 => h9) rfl dX0_copy_79 ?_
  obtain ⟨r7, er7, hf⟩ := x_bind hf
  refine xc_wv (As := [.ref (aq 7)]) (rest := []) ⟨hx, hb, hml, hown, hts⟩ (c2_copy l dC dI cs (a 7) (a 14) (aq 7) (aq 14) _ 120 (g0_rwts b) 120 (g0_rwts o) (by decide) (by decide) _ er7) (cwV 1 hts gX0_copy_X2_copy rfl rfl rfl cdX2_copy ⟨Nat.le_of_ble_eq_true rfl, Nat.le_of_ble_eq_true rfl⟩) hK hP (x_addr hD rfl) hS hA [7, 14, 22, 29] rfl (by decide) rfl 7 rfl rfl rfl hl.1 rfl (Nat.le_of_ble_eq_true rfl) dX0_copy_82 ⟨Nat.zero_le _, Nat.zero_le _⟩ (fun H locs hP hS => ?_)
  have hP : va_P (dC, dI) vwCl (w0C cs a (g0_room o) (g0_opn b) (g0_flo b) (g0_cst b) (g0_mrg b) (g0_stm b) (g0_brk b) r1 r2 r3 r4 r5 r6 r7 ++ w0 cs aq o) H := hP
  refine lv_aload_n hx hb dX0_copy_85 rfl (lv_at hl 0 rfl) ?_
  refine lv_aload_n hx hb dX0_copy_86 rfl (lv_at hl 1 rfl) ?_
  refine va_get (D := (dC, dI)) (ci := 0) (v := .int (iI (g0_opn o))) (C := RX0) (T := TX0) (N := 14) hx hb hts hin0 hown hK hP 15 rfl rfl 8 (by decide) (hts (.fieldLink RX0 15 "BoatRuns$Boat" "open" "I") (by decide +kernel)) (fun _ h9 => h9) rfl dX0_copy_87 ?_
  refine va_put (D := (dC, dI)) (ci := 0) (v := .int (iI (g0_opn o))) (ty := .int) (C := RX0) (T := TX0) (N := 14) hx hb hts hin0 tyX0 tyX0_ok nmX0 hown hK hP (x_addr hD rfl) hS 0 rfl rfl 8 (by decide) (hts (.fieldLink RX0 15 "BoatRuns$Boat" "open" "I") (by decide +kernel)) (fun _ h9 => h9) rfl (by decide +kernel) rfl rfl (Nat.le_of_ble_eq_true rfl) dX0_copy_90 (fun H locs hP _ hS => ?_)
  have hP : va_P (dC, dI) vwCl (w0C cs a (g0_room o) (g0_opn o) (g0_flo b) (g0_cst b) (g0_mrg b) (g0_stm b) (g0_brk b) r1 r2 r3 r4 r5 r6 r7 ++ w0 cs aq o) H := hP
  refine lv_aload_n hx hb dX0_copy_93 rfl (lv_at hl 0 rfl) ?_
  refine lv_aload_n hx hb dX0_copy_94 rfl (lv_at hl 1 rfl) ?_
  refine va_get (D := (dC, dI)) (ci := 0) (v := .int (iI (g0_flo o))) (C := RX0) (T := TX0) (N := 14) hx hb hts hin0 hown hK hP 15 rfl rfl 9 (by decide) (hts (.fieldLink RX0 48 "BoatRuns$Boat" "floatsUsed" "I") (by decide +kernel)) (fun _ h9 => h9) rfl dX0_copy_95 ?_
  refine va_put (D := (dC, dI)) (ci := 0) (v := .int (iI (g0_flo o))) (ty := .int) (C := RX0) (T := TX0) (N := 14) hx hb hts hin0 tyX0 tyX0_ok nmX0 hown hK hP (x_addr hD rfl) hS 0 rfl rfl 9 (by decide) (hts (.fieldLink RX0 48 "BoatRuns$Boat" "floatsUsed" "I") (by decide +kernel)) (fun _ h9 => h9) rfl (by decide +kernel) rfl rfl (Nat.le_of_ble_eq_true rfl) dX0_copy_98 (fun H locs hP _ hS => ?_)
  have hP : va_P (dC, dI) vwCl (w0C cs a (g0_room o) (g0_opn o) (g0_flo o) (g0_cst b) (g0_mrg b) (g0_stm b) (g0_brk b) r1 r2 r3 r4 r5 r6 r7 ++ w0 cs aq o) H := hP
  refine lv_aload_n hx hb dX0_copy_101 rfl (lv_at hl 0 rfl) ?_
  refine lv_aload_n hx hb dX0_copy_102 rfl (lv_at hl 1 rfl) ?_
  refine va_get (D := (dC, dI)) (ci := 0) (v := .int (iI (g0_cst o))) (C := RX0) (T := TX0) (N := 14) hx hb hts hin0 hown hK hP 15 rfl rfl 10 (by decide) (hts (.fieldLink RX0 51 "BoatRuns$Boat" "costs" "I") (by decide +kernel)) (fun _ h9 => h9) rfl dX0_copy_103 ?_
  refine va_put (D := (dC, dI)) (ci := 0) (v := .int (iI (g0_cst o))) (ty := .int) (C := RX0) (T := TX0) (N := 14) hx hb hts hin0 tyX0 tyX0_ok nmX0 hown hK hP (x_addr hD rfl) hS 0 rfl rfl 10 (by decide) (hts (.fieldLink RX0 51 "BoatRuns$Boat" "costs" "I") (by decide +kernel)) (fun _ h9 => h9) rfl (by decide +kernel) rfl rfl (Nat.le_of_ble_eq_true rfl) dX0_copy_106 (fun H locs hP _ hS => ?_)
  have hP : va_P (dC, dI) vwCl (w0C cs a (g0_room o) (g0_opn o) (g0_flo o) (g0_cst o) (g0_mrg b) (g0_stm b) (g0_brk b) r1 r2 r3 r4 r5 r6 r7 ++ w0 cs aq o) H := hP
  refine lv_aload_n hx hb dX0_copy_109 rfl (lv_at hl 0 rfl) ?_
  refine lv_aload_n hx hb dX0_copy_110 rfl (lv_at hl 1 rfl) ?_
  refine va_get (D := (dC, dI)) (ci := 0) (v := .int (iI (g0_mrg o))) (C := RX0) (T := TX0) (N := 14) hx hb hts hin0 hown hK hP 15 rfl rfl 11 (by decide) (hts (.fieldLink RX0 54 "BoatRuns$Boat" "merges" "I") (by decide +kernel)) (fun _ h9 => h9) rfl dX0_copy_111 ?_
  refine va_put (D := (dC, dI)) (ci := 0) (v := .int (iI (g0_mrg o))) (ty := .int) (C := RX0) (T := TX0) (N := 14) hx hb hts hin0 tyX0 tyX0_ok nmX0 hown hK hP (x_addr hD rfl) hS 0 rfl rfl 11 (by decide) (hts (.fieldLink RX0 54 "BoatRuns$Boat" "merges" "I") (by decide +kernel)) (fun _ h9 => h9) rfl (by decide +kernel) rfl rfl (Nat.le_of_ble_eq_true rfl) dX0_copy_114 (fun H locs hP _ hS => ?_)
  have hP : va_P (dC, dI) vwCl (w0C cs a (g0_room o) (g0_opn o) (g0_flo o) (g0_cst o) (g0_mrg o) (g0_stm b) (g0_brk b) r1 r2 r3 r4 r5 r6 r7 ++ w0 cs aq o) H := hP
  refine lv_aload_n hx hb dX0_copy_117 rfl (lv_at hl 0 rfl) ?_
  refine lv_aload_n hx hb dX0_copy_118 rfl (lv_at hl 1 rfl) ?_
  refine va_get (D := (dC, dI)) (ci := 0) (v := .int (iI (g0_stm o))) (C := RX0) (T := TX0) (N := 14) hx hb hts hin0 hown hK hP 15 rfl rfl 12 (by decide) (hts (.fieldLink RX0 57 "BoatRuns$Boat" "storms" "I") (by decide +kernel)) (fun _ h9 => h9) rfl dX0_copy_119 ?_
  refine va_put (D := (dC, dI)) (ci := 0) (v := .int (iI (g0_stm o))) (ty := .int) (C := RX0) (T := TX0) (N := 14) hx hb hts hin0 tyX0 tyX0_ok nmX0 hown hK hP (x_addr hD rfl) hS 0 rfl rfl 12 (by decide) (hts (.fieldLink RX0 57 "BoatRuns$Boat" "storms" "I") (by decide +kernel)) (fun _ h9 => h9) rfl (by decide +kernel) rfl rfl (Nat.le_of_ble_eq_true rfl) dX0_copy_122 (fun H locs hP _ hS => ?_)
  have hP : va_P (dC, dI) vwCl (w0C cs a (g0_room o) (g0_opn o) (g0_flo o) (g0_cst o) (g0_mrg o) (g0_stm o) (g0_brk b) r1 r2 r3 r4 r5 r6 r7 ++ w0 cs aq o) H := hP
  refine lv_aload_n hx hb dX0_copy_125 rfl (lv_at hl 0 rfl) ?_
  refine lv_aload_n hx hb dX0_copy_126 rfl (lv_at hl 1 rfl) ?_
  refine va_get (D := (dC, dI)) (ci := 0) (v := .int (iI (g0_brk o))) (C := RX0) (T := TX0) (N := 14) hx hb hts hin0 hown hK hP 15 rfl rfl 13 (by decide) (hts (.fieldLink RX0 60 "BoatRuns$Boat" "broken" "I") (by decide +kernel)) (fun _ h9 => h9) rfl dX0_copy_127 ?_
  refine va_put (D := (dC, dI)) (ci := 0) (v := .int (iI (g0_brk o))) (ty := .int) (C := RX0) (T := TX0) (N := 14) hx hb hts hin0 tyX0 tyX0_ok nmX0 hown hK hP (x_addr hD rfl) hS 0 rfl rfl 13 (by decide) (hts (.fieldLink RX0 60 "BoatRuns$Boat" "broken" "I") (by decide +kernel)) (fun _ h9 => h9) rfl (by decide +kernel) rfl rfl (Nat.le_of_ble_eq_true rfl) dX0_copy_130 (fun H locs hP _ hS => ?_)
  have hP : va_P (dC, dI) vwCl (w0C cs a (g0_room o) (g0_opn o) (g0_flo o) (g0_cst o) (g0_mrg o) (g0_stm o) (g0_brk o) r1 r2 r3 r4 r5 r6 r7 ++ w0 cs aq o) H := hP
  obtain rfl := Option.some.inj hf
  exact xe_wv hx hb hr hlocks hS hP dX0_copy_133
theorem cdX0_copy : yX0_copy.cls = RX0 ∧ yX0_copy.cls ≠ "java/lang/invoke/MethodHandle" ∧ yX0_copy.cls ≠ "java/lang/invoke/VarHandle" ∧ (parseMethodDescriptor yX0_copy.desc).map (fun d => d.parameters.length) = some 1 := by decide +kernel

set_option maxHeartbeats 4000000 in
set_option maxRecDepth 100000 in
theorem c0_loaded (l : Launch) (dC : Nat → ClassId) (dI : Nat → Nat → Nat) (cs : Nat → ClassId) (a : Nat → Nat) (b : BoatS) (res : Int) (hf : f0_loaded b = some res) : Met l yX0_loaded wsX0_loaded ({ frames := 1, cells := 0, slots := 0, locals := 20 } : Room) (va_Pc [.ref (a 0)] (xPR (dC, dI) vwCl (w0 cs a b) (xT cs))) (vp_Si (fun r => r = iI res)) 0 0 (fun _ => False) := by
  refine Met.ofW (cc := cX0_loaded) (maxL := 1) (ret := (some .int)) (by decide) rfl ?_
  intro p e s m args below meth c s₁ B hml hv
  obtain ⟨rfl, hP, hK⟩ := hv
  have hx := B.exec
  have hb := B.bytes
  have hr := B.returns
  have hts := atoms_spec (ws := wsX0_loaded) B.pre
  have hown : s.vm.findClass RX0 = some m.cls := findClass_of_methodNamed B.named
  have hlocks := B.notSynchronized
  have hin0 : ∀ w ∈ wsX00, w ∈ wsX0_loaded := by decide +kernel
  have hl := lv_entry [.ref (a 0)] (n := 1) (Nat.le_of_ble_eq_true rfl)
  rw [lg_entry_eq]
  generalize (lg_sl [.ref (a 0)] ++ List.replicate (1 - (lg_sl [.ref (a 0)]).length) Slot.unset).toArray = ls at hl ⊢
  have hl : lv_has ls 1 [(0, .ref (a 0))] := hl
  unfold f0_loaded at hf
  refine lv_aload_n hx hb dX0_loaded_0 rfl (lv_at hl 0 rfl) ?_
  refine va_get (D := (dC, dI)) (ci := 0) (v := .ref (a 1)) (C := RX0) (T := TX0) (N := 14) hx hb hts hin0 hown hK hP 0 rfl rfl 1 (by decide) (hts (.fieldLink RX0 23 "BoatRuns$Boat" "keys" "LBoatRuns$Row;") (by decide +kernel)) (fun _ h9 => h9) rfl dX0_loaded_1 ?_
  obtain ⟨v1, ev1, hf⟩ := x_bind hf
  refine xc_ri (As := []) (rest := []) ⟨hx, hb, hml, hown, hts⟩ (c2_size l dC dI cs (a 1) (a 8) 120 (g0_keys b) (by decide) _ ev1) (cwV 0 hts gX0_loaded_X2_size rfl rfl rfl cdX2_size ⟨Nat.le_of_ble_eq_true rfl, Nat.le_of_ble_eq_true rfl⟩) hK hP [1, 8] rfl 1 rfl rfl rfl hl.1 rfl (Nat.le_of_ble_eq_true rfl) dX0_loaded_4 ⟨Nat.zero_le _, Nat.zero_le _⟩ ?_
  obtain rfl := Option.some.inj hf
  exact xe_ri hx hb hr hlocks dX0_loaded_7 rfl
theorem cdX0_loaded : yX0_loaded.cls = RX0 ∧ yX0_loaded.cls ≠ "java/lang/invoke/MethodHandle" ∧ yX0_loaded.cls ≠ "java/lang/invoke/VarHandle" ∧ (parseMethodDescriptor yX0_loaded.desc).map (fun d => d.parameters.length) = some 0 := by decide +kernel

set_option maxHeartbeats 4000000 in
set_option maxRecDepth 100000 in
theorem c0_allLoaded (l : Launch) (dC : Nat → ClassId) (dI : Nat → Nat → Nat) (cs : Nat → ClassId) (a : Nat → Nat) (b : BoatS) (res : Int) (hf : f0_allLoaded b = some res) : Met l yX0_allLoaded wsX0_allLoaded ({ frames := 1, cells := 0, slots := 0, locals := 20 } : Room) (va_Pc [.ref (a 0)] (xPR (dC, dI) vwCl (w0 cs a b) (xT cs))) (vp_Si (fun r => r = iI res)) 0 0 (fun _ => False) := by
  refine Met.ofW (cc := cX0_allLoaded) (maxL := 1) (ret := (some .boolean)) (by decide) rfl ?_
  intro p e s m args below meth c s₁ B hml hv
  obtain ⟨rfl, hP, hK⟩ := hv
  have hx := B.exec
  have hb := B.bytes
  have hr := B.returns
  have hts := atoms_spec (ws := wsX0_allLoaded) B.pre
  have hown : s.vm.findClass RX0 = some m.cls := findClass_of_methodNamed B.named
  have hlocks := B.notSynchronized
  have hin0 : ∀ w ∈ wsX00, w ∈ wsX0_allLoaded := by decide +kernel
  have hl := lv_entry [.ref (a 0)] (n := 1) (Nat.le_of_ble_eq_true rfl)
  rw [lg_entry_eq]
  generalize (lg_sl [.ref (a 0)] ++ List.replicate (1 - (lg_sl [.ref (a 0)]).length) Slot.unset).toArray = ls at hl ⊢
  have hl : lv_has ls 1 [(0, .ref (a 0))] := hl
  unfold f0_allLoaded at hf
  refine lv_aload_n hx hb dX0_allLoaded_0 rfl (lv_at hl 0 rfl) ?_
  refine va_get (D := (dC, dI)) (ci := 0) (v := .ref (a 1)) (C := RX0) (T := TX0) (N := 14) hx hb hts hin0 hown hK hP 0 rfl rfl 1 (by decide) (hts (.fieldLink RX0 23 "BoatRuns$Boat" "keys" "LBoatRuns$Row;") (by decide +kernel)) (fun _ h9 => h9) rfl dX0_allLoaded_1 ?_
  obtain ⟨v1, ev1, hf⟩ := x_bind hf
  refine xc_ri (As := []) (rest := []) ⟨hx, hb, hml, hown, hts⟩ (c2_size l dC dI cs (a 1) (a 8) 120 (g0_keys b) (by decide) _ ev1) (cwV 0 hts gX0_allLoaded_X2_size rfl rfl rfl cdX2_size ⟨Nat.le_of_ble_eq_true rfl, Nat.le_of_ble_eq_true rfl⟩) hK hP [1, 8] rfl 1 rfl rfl rfl hl.1 rfl (Nat.le_of_ble_eq_true rfl) dX0_allLoaded_4 ⟨Nat.zero_le _, Nat.zero_le _⟩ ?_
  refine xk_bipush hx hb dX0_allLoaded_7 (by decide) ?_
  obtain ⟨c2a, c2b, c2t, c2f⟩ := x_ltE hf
  refine xk_icmp_lt (tgt := 16) hx hb c2a c2b dX0_allLoaded_9 (by decide) (fun c2 => ?_) (fun c2 => ?_)
  · have hf := c2t c2
    refine xk_iconst hx hb dX0_allLoaded_16 ?_
    obtain rfl := Option.some.inj hf
    exact xe_rz hx hb hr (Or.inl rfl) hlocks dX0_allLoaded_17 rfl
  · have hf := c2f c2
    refine xk_iconst hx hb dX0_allLoaded_12 ?_
    refine lv_goto (tgt := 17) hx hb dX0_allLoaded_13 (by decide) ?_
    obtain rfl := Option.some.inj hf
    exact xe_rz hx hb hr (Or.inr rfl) hlocks dX0_allLoaded_17 rfl
theorem cdX0_allLoaded : yX0_allLoaded.cls = RX0 ∧ yX0_allLoaded.cls ≠ "java/lang/invoke/MethodHandle" ∧ yX0_allLoaded.cls ≠ "java/lang/invoke/VarHandle" ∧ (parseMethodDescriptor yX0_allLoaded.desc).map (fun d => d.parameters.length) = some 0 := by decide +kernel

set_option maxHeartbeats 4000000 in
set_option maxRecDepth 100000 in
theorem c0_runs (l : Launch) (dC : Nat → ClassId) (dI : Nat → Nat → Nat) (cs : Nat → ClassId) (a : Nat → Nat) (b : BoatS) (res : Int) (hf : f0_runs b = some res) : Met l yX0_runs wsX0_runs ({ frames := 1, cells := 0, slots := 0, locals := 20 } : Room) (va_Pc [.ref (a 0)] (xPR (dC, dI) vwCl (w0 cs a b) (xT cs))) (vp_Si (fun r => r = iI res)) 0 0 (fun _ => False) := by
  refine Met.ofW (cc := cX0_runs) (maxL := 1) (ret := (some .int)) (by decide) rfl ?_
  intro p e s m args below meth c s₁ B hml hv
  obtain ⟨rfl, hP, hK⟩ := hv
  have hx := B.exec
  have hb := B.bytes
  have hr := B.returns
  have hts := atoms_spec (ws := wsX0_runs) B.pre
  have hown : s.vm.findClass RX0 = some m.cls := findClass_of_methodNamed B.named
  have hlocks := B.notSynchronized
  have hin0 : ∀ w ∈ wsX00, w ∈ wsX0_runs := by decide +kernel
  have hl := lv_entry [.ref (a 0)] (n := 1) (Nat.le_of_ble_eq_true rfl)
  rw [lg_entry_eq]
  generalize (lg_sl [.ref (a 0)] ++ List.replicate (1 - (lg_sl [.ref (a 0)]).length) Slot.unset).toArray = ls at hl ⊢
  have hl : lv_has ls 1 [(0, .ref (a 0))] := hl
  unfold f0_runs at hf
  refine lv_aload_n hx hb dX0_runs_0 rfl (lv_at hl 0 rfl) ?_
  refine va_get (D := (dC, dI)) (ci := 0) (v := .ref (a 5)) (C := RX0) (T := TX0) (N := 14) hx hb hts hin0 hown hK hP 0 rfl rfl 5 (by decide) (hts (.fieldLink RX0 36 "BoatRuns$Boat" "floats" "LBoatRuns$Row;") (by decide +kernel)) (fun _ h9 => h9) rfl dX0_runs_1 ?_
  obtain ⟨v1, ev1, hf⟩ := x_bind hf
  refine xc_ri (As := []) (rest := []) ⟨hx, hb, hml, hown, hts⟩ (c2_size l dC dI cs (a 5) (a 12) 120 (g0_flts b) (by decide) _ ev1) (cwV 0 hts gX0_runs_X2_size rfl rfl rfl cdX2_size ⟨Nat.le_of_ble_eq_true rfl, Nat.le_of_ble_eq_true rfl⟩) hK hP [5, 12] rfl 5 rfl rfl rfl hl.1 rfl (Nat.le_of_ble_eq_true rfl) dX0_runs_4 ⟨Nat.zero_le _, Nat.zero_le _⟩ ?_
  obtain rfl := Option.some.inj hf
  exact xe_ri hx hb hr hlocks dX0_runs_7 rfl
theorem cdX0_runs : yX0_runs.cls = RX0 ∧ yX0_runs.cls ≠ "java/lang/invoke/MethodHandle" ∧ yX0_runs.cls ≠ "java/lang/invoke/VarHandle" ∧ (parseMethodDescriptor yX0_runs.desc).map (fun d => d.parameters.length) = some 0 := by decide +kernel

set_option maxHeartbeats 4000000 in
set_option maxRecDepth 100000 in
theorem c0_runNumber (l : Launch) (dC : Nat → ClassId) (dI : Nat → Nat → Nat) (cs : Nat → ClassId) (a : Nat → Nat) (b : BoatS) (p0 : Int) (res : Int) (hf : f0_runNumber b p0 = some res) : Met l yX0_runNumber wsX0_runNumber ({ frames := 1, cells := 0, slots := 0, locals := 21 } : Room) (va_Pc [.ref (a 0), .int (iI p0)] (xPR (dC, dI) vwCl (w0 cs a b) (xT cs))) (vp_Si (fun r => r = iI res)) 0 0 (fun _ => False) := by
  refine Met.ofW (cc := cX0_runNumber) (maxL := 2) (ret := (some .int)) (by decide) rfl ?_
  intro p e s m args below meth c s₁ B hml hv
  obtain ⟨rfl, hP, hK⟩ := hv
  have hx := B.exec
  have hb := B.bytes
  have hr := B.returns
  have hts := atoms_spec (ws := wsX0_runNumber) B.pre
  have hown : s.vm.findClass RX0 = some m.cls := findClass_of_methodNamed B.named
  have hlocks := B.notSynchronized
  have hin0 : ∀ w ∈ wsX00, w ∈ wsX0_runNumber := by decide +kernel
  have hl := lv_entry [.ref (a 0), .int (iI p0)] (n := 2) (Nat.le_of_ble_eq_true rfl)
  rw [lg_entry_eq]
  generalize (lg_sl [.ref (a 0), .int (iI p0)] ++ List.replicate (2 - (lg_sl [.ref (a 0), .int (iI p0)]).length) Slot.unset).toArray = ls at hl ⊢
  have hl : lv_has ls 2 [(0, .ref (a 0)), (1, .int (iI p0))] := hl
  unfold f0_runNumber at hf
  refine lv_aload_n hx hb dX0_runNumber_0 rfl (lv_at hl 0 rfl) ?_
  refine va_get (D := (dC, dI)) (ci := 0) (v := .ref (a 5)) (C := RX0) (T := TX0) (N := 14) hx hb hts hin0 hown hK hP 0 rfl rfl 5 (by decide) (hts (.fieldLink RX0 36 "BoatRuns$Boat" "floats" "LBoatRuns$Row;") (by decide +kernel)) (fun _ h9 => h9) rfl dX0_runNumber_1 ?_
  refine lv_iload_n hx hb dX0_runNumber_4 rfl (lv_at hl 1 rfl) ?_
  obtain ⟨v1, ev1, hf⟩ := x_bind hf
  refine xc_ri (As := [.int (iI p0)]) (rest := []) ⟨hx, hb, hml, hown, hts⟩ (c2_get l dC dI cs (a 5) (a 12) 120 (g0_flts b) p0 (by decide) _ ev1) (cwV 1 hts gX0_runNumber_X2_get rfl rfl rfl cdX2_get ⟨Nat.le_of_ble_eq_true rfl, Nat.le_of_ble_eq_true rfl⟩) hK hP [5, 12] rfl 5 rfl rfl rfl hl.1 rfl (Nat.le_of_ble_eq_true rfl) dX0_runNumber_5 ⟨Nat.zero_le _, Nat.zero_le _⟩ ?_
  obtain rfl := Option.some.inj hf
  exact xe_ri hx hb hr hlocks dX0_runNumber_8 rfl
theorem cdX0_runNumber : yX0_runNumber.cls = RX0 ∧ yX0_runNumber.cls ≠ "java/lang/invoke/MethodHandle" ∧ yX0_runNumber.cls ≠ "java/lang/invoke/VarHandle" ∧ (parseMethodDescriptor yX0_runNumber.desc).map (fun d => d.parameters.length) = some 1 := by decide +kernel

set_option maxHeartbeats 4000000 in
set_option maxRecDepth 100000 in
theorem c0_hasRun (l : Launch) (dC : Nat → ClassId) (dI : Nat → Nat → Nat) (cs : Nat → ClassId) (a : Nat → Nat) (b : BoatS) (p0 : Int) (res : Int) (hf : f0_hasRun b p0 = some res) : Met l yX0_hasRun wsX0_hasRun ({ frames := 1, cells := 0, slots := 0, locals := 22 } : Room) (va_Pc [.ref (a 0), .int (iI p0)] (xPR (dC, dI) vwCl (w0 cs a b) (xT cs))) (vp_Si (fun r => r = iI res)) 0 0 (fun _ => False) := by
  refine Met.ofW (cc := cX0_hasRun) (maxL := 2) (ret := (some .boolean)) (by decide) rfl ?_
  intro p e s m args below meth c s₁ B hml hv
  obtain ⟨rfl, hP, hK⟩ := hv
  have hx := B.exec
  have hb := B.bytes
  have hr := B.returns
  have hts := atoms_spec (ws := wsX0_hasRun) B.pre
  have hown : s.vm.findClass RX0 = some m.cls := findClass_of_methodNamed B.named
  have hlocks := B.notSynchronized
  have hin0 : ∀ w ∈ wsX00, w ∈ wsX0_hasRun := by decide +kernel
  have hl := lv_entry [.ref (a 0), .int (iI p0)] (n := 2) (Nat.le_of_ble_eq_true rfl)
  rw [lg_entry_eq]
  generalize (lg_sl [.ref (a 0), .int (iI p0)] ++ List.replicate (2 - (lg_sl [.ref (a 0), .int (iI p0)]).length) Slot.unset).toArray = ls at hl ⊢
  have hl : lv_has ls 2 [(0, .ref (a 0)), (1, .int (iI p0))] := hl
  unfold f0_hasRun at hf
  refine lv_aload_n hx hb dX0_hasRun_0 rfl (lv_at hl 0 rfl) ?_
  refine va_get (D := (dC, dI)) (ci := 0) (v := .ref (a 5)) (C := RX0) (T := TX0) (N := 14) hx hb hts hin0 hown hK hP 0 rfl rfl 5 (by decide) (hts (.fieldLink RX0 36 "BoatRuns$Boat" "floats" "LBoatRuns$Row;") (by decide +kernel)) (fun _ h9 => h9) rfl dX0_hasRun_1 ?_
  refine lv_iload_n hx hb dX0_hasRun_4 rfl (lv_at hl 1 rfl) ?_
  obtain ⟨v1, ev1, hf⟩ := x_bind hf
  refine xc_ri (As := [.int (iI p0)]) (rest := []) ⟨hx, hb, hml, hown, hts⟩ (c2_indexOf l dC dI cs (a 5) (a 12) 120 (g0_flts b) p0 (by decide) _ ev1) (cwV 1 hts gX0_hasRun_X2_indexOf rfl rfl rfl cdX2_indexOf ⟨Nat.le_of_ble_eq_true rfl, Nat.le_of_ble_eq_true rfl⟩) hK hP [5, 12] rfl 5 rfl rfl rfl hl.1 rfl (Nat.le_of_ble_eq_true rfl) dX0_hasRun_5 ⟨Nat.zero_le _, Nat.zero_le _⟩ ?_
  refine xk_iconst hx hb dX0_hasRun_8 ?_
  obtain ⟨c2a, c2b, c2t, c2f⟩ := x_eqE hf
  refine xk_icmp_eq (tgt := 16) hx hb c2a c2b dX0_hasRun_9 (by decide) (fun c2 => ?_) (fun c2 => ?_)
  · have hf := c2t c2
    refine xk_iconst hx hb dX0_hasRun_16 ?_
    obtain rfl := Option.some.inj hf
    exact xe_rz hx hb hr (Or.inl rfl) hlocks dX0_hasRun_17 rfl
  · have hf := c2f c2
    refine xk_iconst hx hb dX0_hasRun_12 ?_
    refine lv_goto (tgt := 17) hx hb dX0_hasRun_13 (by decide) ?_
    obtain rfl := Option.some.inj hf
    exact xe_rz hx hb hr (Or.inr rfl) hlocks dX0_hasRun_17 rfl
theorem cdX0_hasRun : yX0_hasRun.cls = RX0 ∧ yX0_hasRun.cls ≠ "java/lang/invoke/MethodHandle" ∧ yX0_hasRun.cls ≠ "java/lang/invoke/VarHandle" ∧ (parseMethodDescriptor yX0_hasRun.desc).map (fun d => d.parameters.length) = some 1 := by decide +kernel

set_option maxHeartbeats 4000000 in
set_option maxRecDepth 100000 in
theorem c0_isLess (l : Launch) (dC : Nat → ClassId) (dI : Nat → Nat → Nat) (cs : Nat → ClassId) (a : Nat → Nat) (b : BoatS) (p0 : Int) (p1 : Int) (res : Int) (hf : f0_isLess b p0 p1 = some res) : Met l yX0_isLess wsX0_isLess ({ frames := 1, cells := 0, slots := 0, locals := 21 } : Room) (va_Pc [.ref (a 0), .int (iI p0), .int (iI p1)] (xPR (dC, dI) vwCl (w0 cs a b) (xT cs))) (vp_Si (fun r => r = iI res)) 0 0 (fun _ => False) := by
  refine Met.ofW (cc := cX0_isLess) (maxL := 5) (ret := (some .boolean)) (by decide) rfl ?_
  intro p e s m args below meth c s₁ B hml hv
  obtain ⟨rfl, hP, hK⟩ := hv
  have hx := B.exec
  have hb := B.bytes
  have hr := B.returns
  have hts := atoms_spec (ws := wsX0_isLess) B.pre
  have hown : s.vm.findClass RX0 = some m.cls := findClass_of_methodNamed B.named
  have hlocks := B.notSynchronized
  have hin0 : ∀ w ∈ wsX00, w ∈ wsX0_isLess := by decide +kernel
  have hl := lv_entry [.ref (a 0), .int (iI p0), .int (iI p1)] (n := 5) (Nat.le_of_ble_eq_true rfl)
  rw [lg_entry_eq]
  generalize (lg_sl [.ref (a 0), .int (iI p0), .int (iI p1)] ++ List.replicate (5 - (lg_sl [.ref (a 0), .int (iI p0), .int (iI p1)]).length) Slot.unset).toArray = ls at hl ⊢
  have hl : lv_has ls 5 [(0, .ref (a 0)), (1, .int (iI p0)), (2, .int (iI p1))] := hl
  unfold f0_isLess at hf
  refine lv_aload_n hx hb dX0_isLess_0 rfl (lv_at hl 0 rfl) ?_
  refine va_get (D := (dC, dI)) (ci := 0) (v := .ref (a 1)) (C := RX0) (T := TX0) (N := 14) hx hb hts hin0 hown hK hP 0 rfl rfl 1 (by decide) (hts (.fieldLink RX0 23 "BoatRuns$Boat" "keys" "LBoatRuns$Row;") (by decide +kernel)) (fun _ h9 => h9) rfl dX0_isLess_1 ?_
  refine lv_iload_n hx hb dX0_isLess_4 rfl (lv_at hl 1 rfl) ?_
  obtain ⟨v1, ev1, hf⟩ := x_bind hf
  refine xc_ri (As := [.int (iI p0)]) (rest := []) ⟨hx, hb, hml, hown, hts⟩ (c2_get l dC dI cs (a 1) (a 8) 120 (g0_keys b) p0 (by decide) _ ev1) (cwV 1 hts gX0_isLess_X2_get rfl rfl rfl cdX2_get ⟨Nat.le_of_ble_eq_true rfl, Nat.le_of_ble_eq_true rfl⟩) hK hP [1, 8] rfl 1 rfl rfl rfl hl.1 rfl (Nat.le_of_ble_eq_true rfl) dX0_isLess_5 ⟨Nat.zero_le _, Nat.zero_le _⟩ ?_
  refine lv_istore_n (lv' := [(3, .int (iI v1)), (0, .ref (a 0)), (1, .int (iI p0)), (2, .int (iI p1))]) hx hb dX0_isLess_8 rfl hl (by decide) rfl (fun ls hl => ?_)
  refine lv_aload_n hx hb dX0_isLess_9 rfl (lv_at hl 1 rfl) ?_
  refine va_get (D := (dC, dI)) (ci := 0) (v := .ref (a 1)) (C := RX0) (T := TX0) (N := 14) hx hb hts hin0 hown hK hP 0 rfl rfl 1 (by decide) (hts (.fieldLink RX0 23 "BoatRuns$Boat" "keys" "LBoatRuns$Row;") (by decide +kernel)) (fun _ h9 => h9) rfl dX0_isLess_10 ?_
  refine lv_iload_n hx hb dX0_isLess_13 rfl (lv_at hl 3 rfl) ?_
  obtain ⟨v2, ev2, hf⟩ := x_bind hf
  refine xc_ri (As := [.int (iI p1)]) (rest := []) ⟨hx, hb, hml, hown, hts⟩ (c2_get l dC dI cs (a 1) (a 8) 120 (g0_keys b) p1 (by decide) _ ev2) (cwV 1 hts gX0_isLess_X2_get rfl rfl rfl cdX2_get ⟨Nat.le_of_ble_eq_true rfl, Nat.le_of_ble_eq_true rfl⟩) hK hP [1, 8] rfl 1 rfl rfl rfl hl.1 rfl (Nat.le_of_ble_eq_true rfl) dX0_isLess_14 ⟨Nat.zero_le _, Nat.zero_le _⟩ ?_
  refine lv_istore (lv' := [(4, .int (iI v2)), (3, .int (iI v1)), (0, .ref (a 0)), (1, .int (iI p0)), (2, .int (iI p1))]) hx hb dX0_isLess_17 hl (by decide) rfl (fun ls hl => ?_)
  refine lv_iload_n hx hb dX0_isLess_19 rfl (lv_at hl 1 rfl) ?_
  refine lv_iload hx hb dX0_isLess_20 (lv_at hl 0 rfl) ?_
  obtain ⟨c3a, c3b, c3t, c3f⟩ := x_ltE hf
  refine xk_icmp_lt (tgt := 36) hx hb c3a c3b dX0_isLess_22 (by decide) (fun c3 => ?_) (fun c3 => ?_)
  · have hf := c3t c3
    refine xk_iconst hx hb dX0_isLess_36 ?_
    refine lv_goto (tgt := 41) hx hb dX0_isLess_37 (by decide) ?_
    obtain rfl := Option.some.inj hf
    exact xe_rz hx hb hr (Or.inr rfl) hlocks dX0_isLess_41 rfl
  · have hf := c3f c3
    refine lv_iload_n hx hb dX0_isLess_25 rfl (lv_at hl 1 rfl) ?_
    refine lv_iload hx hb dX0_isLess_26 (lv_at hl 0 rfl) ?_
    obtain ⟨c4a, c4b, c4t, c4f⟩ := x_eqE hf
    refine xk_icmp_ne (tgt := 40) hx hb c4a c4b dX0_isLess_28 (by decide) (fun c4 => ?_) (fun c4 => ?_)
    · have hf := c4t c4
      refine lv_iload_n hx hb dX0_isLess_31 rfl (lv_at hl 3 rfl) ?_
      refine lv_iload_n hx hb dX0_isLess_32 rfl (lv_at hl 4 rfl) ?_
      obtain ⟨c5a, c5b, c5t, c5f⟩ := x_ltE hf
      refine xk_icmp_ge (tgt := 40) hx hb c5a c5b dX0_isLess_33 (by decide) (fun c5 => ?_) (fun c5 => ?_)
      · have hf := c5t c5
        refine xk_iconst hx hb dX0_isLess_36 ?_
        refine lv_goto (tgt := 41) hx hb dX0_isLess_37 (by decide) ?_
        obtain rfl := Option.some.inj hf
        exact xe_rz hx hb hr (Or.inr rfl) hlocks dX0_isLess_41 rfl
      · have hf := c5f c5
        refine xk_iconst hx hb dX0_isLess_40 ?_
        obtain rfl := Option.some.inj hf
        exact xe_rz hx hb hr (Or.inl rfl) hlocks dX0_isLess_41 rfl
    · have hf := c4f c4
      refine xk_iconst hx hb dX0_isLess_40 ?_
      obtain rfl := Option.some.inj hf
      exact xe_rz hx hb hr (Or.inl rfl) hlocks dX0_isLess_41 rfl
theorem cdX0_isLess : yX0_isLess.cls = RX0 ∧ yX0_isLess.cls ≠ "java/lang/invoke/MethodHandle" ∧ yX0_isLess.cls ≠ "java/lang/invoke/VarHandle" ∧ (parseMethodDescriptor yX0_isLess.desc).map (fun d => d.parameters.length) = some 2 := by decide +kernel

set_option maxHeartbeats 4000000 in
set_option maxRecDepth 100000 in
theorem c0_countAt (l : Launch) (dC : Nat → ClassId) (dI : Nat → Nat → Nat) (cs : Nat → ClassId) (a : Nat → Nat) (b : BoatS) (p0 : Int) (res : Int) (hf : f0_countAt b p0 = some res) : Met l yX0_countAt wsX0_countAt ({ frames := 1, cells := 0, slots := 0, locals := 21 } : Room) (va_Pc [.ref (a 0), .int (iI p0)] (xPR (dC, dI) vwCl (w0 cs a b) (xT cs))) (vp_Si (fun r => r = iI res)) 0 0 (fun _ => False) := by
  refine Met.ofW (cc := cX0_countAt) (maxL := 4) (ret := (some .int)) (by decide) rfl ?_
  intro p e s m args below meth c s₁ B hml hv
  obtain ⟨rfl, hP, hK⟩ := hv
  have hx := B.exec
  have hb := B.bytes
  have hr := B.returns
  have hts := atoms_spec (ws := wsX0_countAt) B.pre
  have hown : s.vm.findClass RX0 = some m.cls := findClass_of_methodNamed B.named
  have hlocks := B.notSynchronized
  have hin0 : ∀ w ∈ wsX00, w ∈ wsX0_countAt := by decide +kernel
  have hl := lv_entry [.ref (a 0), .int (iI p0)] (n := 4) (Nat.le_of_ble_eq_true rfl)
  rw [lg_entry_eq]
  generalize (lg_sl [.ref (a 0), .int (iI p0)] ++ List.replicate (4 - (lg_sl [.ref (a 0), .int (iI p0)]).length) Slot.unset).toArray = ls at hl ⊢
  have hl : lv_has ls 4 [(0, .ref (a 0)), (1, .int (iI p0))] := hl
  unfold f0_countAt at hf
  refine xk_iconst hx hb dX0_countAt_0 ?_
  refine lv_istore_n (lv' := [(2, .int (iI 0)), (0, .ref (a 0)), (1, .int (iI p0))]) hx hb dX0_countAt_1 rfl hl (by decide) rfl (fun ls hl => ?_)
  refine xk_iconst hx hb dX0_countAt_2 ?_
  refine lv_istore_n (lv' := [(3, .int (iI 0)), (2, .int (iI 0)), (0, .ref (a 0)), (1, .int (iI p0))]) hx hb dX0_countAt_3 rfl hl (by decide) rfl (fun ls hl => ?_)
  have hL4 : ∀ (n1 : Nat) (l2 : Int) (l3 : Int), f0_countAt_L4 b p0 n1 l2 l3 = some res → ∀ (ls : Array Slot), lv_has ls 4 [(0, .ref (a 0)), (1, .int (iI p0)), (2, .int (iI l2)), (3, .int (iI l3))] → W p l e (headSpec wsX0_countAt ({ frames := 1, cells := 0, slots := 0, locals := 21 } : Room)).room s m ([.ref (a 0), .int (iI p0)] : List Value).toArray below meth c s.heap [] 0 0 (MQ below (vp_Si (fun r => r = iI res)) ([.ref (a 0), .int (iI p0)] : List Value).toArray s 0 0 (fun _ => False)) (F0 m 4 ls []) := by
    intro  n1
    induction n1 with
    | zero => intro l2 l3 hf; have hf : (none : Option (Int)) = some res := hf; cases hf
    | succ n1 ih4 =>
      intro l2 l3 hf ls hl
      rw [f0_countAt_L4] at hf
      refine lv_iload_n hx hb dX0_countAt_4 rfl (lv_at hl 3 rfl) ?_
      refine lv_aload_n hx hb dX0_countAt_5 rfl (lv_at hl 0 rfl) ?_
      refine va_get (D := (dC, dI)) (ci := 0) (v := .ref (a 3)) (C := RX0) (T := TX0) (N := 14) hx hb hts hin0 hown hK hP 0 rfl rfl 3 (by decide) (hts (.fieldLink RX0 30 "BoatRuns$Boat" "homes" "LBoatRuns$Row;") (by decide +kernel)) (fun _ h9 => h9) rfl dX0_countAt_6 ?_
      obtain ⟨v2, ev2, hf⟩ := x_bind hf
      refine xc_ri (As := []) (rest := [.int (iI l3)]) ⟨hx, hb, hml, hown, hts⟩ (c2_size l dC dI cs (a 3) (a 10) 120 (g0_homs b) (by decide) _ ev2) (cwV 0 hts gX0_countAt_X2_size rfl rfl rfl cdX2_size ⟨Nat.le_of_ble_eq_true rfl, Nat.le_of_ble_eq_true rfl⟩) hK hP [3, 10] rfl 3 rfl rfl rfl hl.1 rfl (Nat.le_of_ble_eq_true rfl) dX0_countAt_9 ⟨Nat.zero_le _, Nat.zero_le _⟩ ?_
      obtain ⟨c3a, c3b, c3t, c3f⟩ := x_ltE hf
      refine xk_icmp_ge (tgt := 36) hx hb c3a c3b dX0_countAt_12 (by decide) (fun c3 => ?_) (fun c3 => ?_)
      · have hf := c3t c3
        refine lv_aload_n hx hb dX0_countAt_15 rfl (lv_at hl 0 rfl) ?_
        refine va_get (D := (dC, dI)) (ci := 0) (v := .ref (a 3)) (C := RX0) (T := TX0) (N := 14) hx hb hts hin0 hown hK hP 0 rfl rfl 3 (by decide) (hts (.fieldLink RX0 30 "BoatRuns$Boat" "homes" "LBoatRuns$Row;") (by decide +kernel)) (fun _ h9 => h9) rfl dX0_countAt_16 ?_
        refine lv_iload_n hx hb dX0_countAt_19 rfl (lv_at hl 3 rfl) ?_
        obtain ⟨v4, ev4, hf⟩ := x_bind hf
        refine xc_ri (As := [.int (iI l3)]) (rest := []) ⟨hx, hb, hml, hown, hts⟩ (c2_get l dC dI cs (a 3) (a 10) 120 (g0_homs b) l3 (by decide) _ ev4) (cwV 1 hts gX0_countAt_X2_get rfl rfl rfl cdX2_get ⟨Nat.le_of_ble_eq_true rfl, Nat.le_of_ble_eq_true rfl⟩) hK hP [3, 10] rfl 3 rfl rfl rfl hl.1 rfl (Nat.le_of_ble_eq_true rfl) dX0_countAt_20 ⟨Nat.zero_le _, Nat.zero_le _⟩ ?_
        refine lv_iload_n hx hb dX0_countAt_23 rfl (lv_at hl 1 rfl) ?_
        obtain ⟨c5a, c5b, c5t, c5f⟩ := x_eqE hf
        refine xk_icmp_ne (tgt := 30) hx hb c5a c5b dX0_countAt_24 (by decide) (fun c5 => ?_) (fun c5 => ?_)
        · have hf := c5t c5
          refine xk_iinc (lv' := [(2, .int (iI (l2 + 1))), (0, .ref (a 0)), (1, .int (iI p0)), (3, .int (iI l3))]) hx hb dX0_countAt_27 hl (k := 2) rfl (by decide) rfl (fun ls hl => ?_)
          refine xk_iinc (lv' := [(3, .int (iI (l3 + 1))), (2, .int (iI (l2 + 1))), (0, .ref (a 0)), (1, .int (iI p0))]) hx hb dX0_countAt_30 hl (k := 3) rfl (by decide) rfl (fun ls hl => ?_)
          refine lv_goto (tgt := 4) hx hb dX0_countAt_33 (by decide) ?_
          exact ih4 (l2 + 1) (l3 + 1) hf ls (lv_sub hl [2, 3, 1, 0] rfl)
        · have hf := c5f c5
          refine xk_iinc (lv' := [(3, .int (iI (l3 + 1))), (0, .ref (a 0)), (1, .int (iI p0)), (2, .int (iI l2))]) hx hb dX0_countAt_30 hl (k := 3) rfl (by decide) rfl (fun ls hl => ?_)
          refine lv_goto (tgt := 4) hx hb dX0_countAt_33 (by decide) ?_
          exact ih4 l2 (l3 + 1) hf ls (lv_sub hl [1, 2, 3, 0] rfl)
      · have hf := c3f c3
        refine lv_iload_n hx hb dX0_countAt_36 rfl (lv_at hl 2 rfl) ?_
        obtain rfl := Option.some.inj hf
        exact xe_ri hx hb hr hlocks dX0_countAt_37 rfl
  exact hL4  xFU 0 0 hf ls (lv_sub hl [2, 3, 1, 0] rfl)
theorem cdX0_countAt : yX0_countAt.cls = RX0 ∧ yX0_countAt.cls ≠ "java/lang/invoke/MethodHandle" ∧ yX0_countAt.cls ≠ "java/lang/invoke/VarHandle" ∧ (parseMethodDescriptor yX0_countAt.desc).map (fun d => d.parameters.length) = some 1 := by decide +kernel

set_option maxHeartbeats 4000000 in
set_option maxRecDepth 100000 in
theorem c4_tighten (l : Launch) (hlS : l.stackTraces = false) (dC : Nat → ClassId) (dI : Nat → Nat → Nat) (cs : Nat → ClassId) (a : Nat → Nat) (sz : Nat) (y : BrS) (p0 : Int) (res : Int × Int × BrS) (hf : f4_tighten y p0 = some res) : vx_Met l yX4_tighten wsX4_tighten ({ frames := 6, cells := 1, slots := 6, locals := 82 } : Room) (va_Pc [.ref (a 0), .int (iI p0)] (xPX (dC, dI) vwCl ((w4 cs a y).flatten) (xT cs) sz)) (xQx (dC, dI) vwCl ((w4 cs a y).flatten) ((w4 cs a res.2.2).flatten) sz res.1 res.2.1) (xXx (dC, dI) vwCl ((w4 cs a y).flatten) sz res.1) 1 6 (va_A ((w4 cs a y).flatten) sz) := by
  refine vx_ofW (cc := cX4_tighten) (maxL := 2) (ret := (some .int)) (by decide) rfl ?_
  intro p e s m args below meth c s₁ B hml htb hv
  obtain ⟨rfl, ⟨hsz, hP, hK, hD0⟩, hTh⟩ := hv
  have hx := B.exec
  have hb := B.bytes
  have hr := B.returns
  have hts := atoms_spec (ws := wsX4_tighten) B.pre
  have hown : s.vm.findClass RX4 = some m.cls := findClass_of_methodNamed B.named
  have hlocks := B.notSynchronized
  have hE3 : ∀ w ∈ (vx_atS RX4 85 "java/util/NoSuchElementException" x_exn).filter goodWord, w ∈ wsX4_tighten := by decide +kernel
  have hin4 : ∀ w ∈ wsX40, w ∈ wsX4_tighten := by decide +kernel
  subst hsz
  have hD := hD0.self (sz := s.heap.size)
  have hA : ∀ z9 : Nat, s.heap.size ≤ z9 → va_A ((w4 cs a y).flatten) s.heap.size z9 := fun z9 h => Or.inr h
  have hS : va_S (va_A ((w4 cs a y).flatten) s.heap.size) s.heap s.heap [] := va_S.rf
  have hl := lv_entry [.ref (a 0), .int (iI p0)] (n := 2) (Nat.le_of_ble_eq_true rfl)
  rw [lg_entry_eq]
  generalize (lg_sl [.ref (a 0), .int (iI p0)] ++ List.replicate (2 - (lg_sl [.ref (a 0), .int (iI p0)]).length) Slot.unset).toArray = ls at hl ⊢
  have hl : lv_has ls 2 [(0, .ref (a 0)), (1, .int (iI p0))] := hl
  unfold f4_tighten at hf
  refine lv_aload_n hx hb dX4_tighten_0 rfl (lv_at hl 0 rfl) ?_
  refine va_get (D := (dC, dI)) (ci := 4) (v := .ref (a 1)) (C := RX4) (T := TX4) (N := 4) hx hb hts hin4 hown hK hP 0 rfl rfl 0 (by decide) (hts (.fieldLink RX4 10 "BoatRuns" "boat" "LBoatRuns$Boat;") (by decide +kernel)) (fun _ h9 => h9) rfl dX4_tighten_1 ?_
  refine lv_iload_n hx hb dX4_tighten_4 rfl (lv_at hl 1 rfl) ?_
  obtain ⟨v1, ev1, hf⟩ := x_bind hf
  refine xf_ri (As := [.int (iI p0)]) (rest := []) (wcs := [w0 cs (x_sh a 1) (g4_bo y)]) ⟨hx, hb, hml, hown, hts⟩ (c0_hasRun l dC dI cs (x_sh a 1) (g4_bo y) p0  _ ev1) (cwV 1 hts gX4_tighten_X0_hasRun rfl rfl rfl cdX0_hasRun ⟨Nat.le_of_ble_eq_true rfl, Nat.le_of_ble_eq_true rfl⟩) hK hP [1] (by simp only [List.flatten_cons, List.flatten_nil, List.append_nil, List.cons_append, List.nil_append]) rfl rfl rfl rfl hl.1 rfl (Nat.le_of_ble_eq_true rfl) dX4_tighten_5 ⟨Nat.zero_le _, Nat.zero_le _⟩ ?_
  obtain ⟨c2a, c2b, c2t, c2f⟩ := x_eqE hf
  refine xk_if_ne (tgt := 21) hx hb c2a dX4_tighten_8 (by decide) (fun c2 => ?_) (fun c2 => ?_)
  · have hf := c2t c2
    obtain rfl := Option.some.inj hf
    obtain ⟨sa9, hsa⟩ := hTh.2.2.2 (83, "there is no such run") (by decide)
    exact vx_throwS (own := RX4) (cls := "java/util/NoSuchElementException") (names := x_exn) (ik := 81) (is := 83) (ic := 85) (text := "there is no such run") hx hb hlS hown (by decide) (by decide) (hts (.classLink RX4 81 "java/util/NoSuchElementException") (by decide +kernel)) (hts (.initialized "java/util/NoSuchElementException") (by decide +kernel)) hsa (vx_hat (fun w hw => hts w (hE3 w hw)) xn_3 (fun w hw => va_Nw.use (x_ont_3 w hw) (hTh.1 w (x_sub_3 w hw)))) xg_3 hTh.2.1 hTh.2.2.1 hS (hl.1.trans hml.symm) dX4_tighten_11 dX4_tighten_14 dX4_tighten_15 dX4_tighten_17 dX4_tighten_20 (fun x hx9 => (htb x hx9).elim) (Nat.le_of_ble_eq_true rfl) (Nat.le_of_ble_eq_true rfl) (Nat.le_of_ble_eq_true rfl) (Nat.le_of_ble_eq_true rfl) hlocks (fun t hvm hz hk => xe_thx (show ¬ ((3 : Int) = 0) by decide) rfl hP hS hz hk) hS.2.2 (Nat.le_refl _) (Nat.le_refl _)
  · have hf := c2f c2
    refine lv_aload_n hx hb dX4_tighten_21 rfl (lv_at hl 0 rfl) ?_
    refine va_get (D := (dC, dI)) (ci := 4) (v := .ref (a 31)) (C := RX4) (T := TX4) (N := 4) hx hb hts hin4 hown hK hP 0 rfl rfl 2 (by decide) (hts (.fieldLink RX4 22 "BoatRuns" "history" "LBoatRuns$History;") (by decide +kernel)) (fun _ h9 => h9) rfl dX4_tighten_22 ?_
    refine lv_aload_n hx hb dX4_tighten_25 rfl (lv_at hl 0 rfl) ?_
    refine va_get (D := (dC, dI)) (ci := 4) (v := .ref (a 1)) (C := RX4) (T := TX4) (N := 4) hx hb hts hin4 hown hK hP 0 rfl rfl 0 (by decide) (hts (.fieldLink RX4 10 "BoatRuns" "boat" "LBoatRuns$Boat;") (by decide +kernel)) (fun _ h9 => h9) rfl dX4_tighten_26 ?_
    obtain ⟨h3, eh3, hf⟩ := x_bind hf
    refine xf_wv (As := [.ref (a 1)]) (rest := []) (wcs := w1 cs (x_sh a 31) (g4_hi y) ++ [w0 cs (x_sh a 1) (g4_bo y)]) (w1s := w1 cs (x_sh a 31) h3 ++ [w0 cs (x_sh a 1) (g4_bo y)]) ⟨hx, hb, hml, hown, hts⟩ (c1_save l dC dI cs (x_sh a 31) (x_sh a 1) _ (g4_hi y) (g4_bo y)  _ eh3) (cwV 1 hts gX4_tighten_X1_save rfl rfl rfl cdX1_save ⟨Nat.le_of_ble_eq_true rfl, Nat.le_of_ble_eq_true rfl⟩) hK hP (x_addrF hD rfl) hS hA [3, 4, 5, 6, 7, 8, 1] rfl rfl rfl (by decide) rfl rfl rfl rfl hl.1 rfl (Nat.le_of_ble_eq_true rfl) dX4_tighten_29 ⟨Nat.zero_le _, Nat.zero_le _⟩ (fun H locs hP hS => ?_)
    have hP : va_P (dC, dI) vwCl ((w4C cs a (g4_bo y) (g4_tr y) h3 (g4_tx y)).flatten) H := hP
    refine lv_aload_n hx hb dX4_tighten_32 rfl (lv_at hl 0 rfl) ?_
    refine va_get (D := (dC, dI)) (ci := 4) (v := .ref (a 1)) (C := RX4) (T := TX4) (N := 4) hx hb hts hin4 hown hK hP 0 rfl rfl 0 (by decide) (hts (.fieldLink RX4 10 "BoatRuns" "boat" "LBoatRuns$Boat;") (by decide +kernel)) (fun _ h9 => h9) rfl dX4_tighten_33 ?_
    refine lv_iload_n hx hb dX4_tighten_36 rfl (lv_at hl 1 rfl) ?_
    obtain ⟨⟨v5, b4⟩, eb4, hf⟩ := x_bind hf
    refine xf_wi (As := [.int (iI p0)]) (rest := []) (wcs := [w0 cs (x_sh a 1) (g4_bo y)]) (w1s := [w0 cs (x_sh a 1) b4]) ⟨hx, hb, hml, hown, hts⟩ (c0_strengthen l dC dI cs (x_sh a 1) _ (g4_bo y) p0  _ eb4) (cwV 1 hts gX4_tighten_X0_strengthen rfl rfl rfl cdX0_strengthen ⟨Nat.le_of_ble_eq_true rfl, Nat.le_of_ble_eq_true rfl⟩) hK hP (x_addrF hD rfl) hS hA [1] (by simp only [List.flatten_cons, List.flatten_nil, List.append_nil, List.cons_append, List.nil_append]) (by simp only [List.flatten_cons, List.flatten_nil, List.append_nil, List.cons_append, List.nil_append]) rfl (by decide) rfl rfl rfl rfl hl.1 rfl (Nat.le_of_ble_eq_true rfl) dX4_tighten_37 ⟨Nat.zero_le _, Nat.zero_le _⟩ (fun H locs hP hS => ?_)
    have hP : va_P (dC, dI) vwCl ((w4C cs a b4 (g4_tr y) h3 (g4_tx y)).flatten) H := hP
    obtain rfl := Option.some.inj hf
    refine W.widen (k := 1) (n := 6) (by decide) (by decide) ?_
    exact vx_ret (xe_xi hx hb hr hlocks hS hP rfl dX4_tighten_40)
theorem cdX4_tighten : yX4_tighten.cls = RX4 ∧ yX4_tighten.cls ≠ "java/lang/invoke/MethodHandle" ∧ yX4_tighten.cls ≠ "java/lang/invoke/VarHandle" ∧ (parseMethodDescriptor yX4_tighten.desc).map (fun d => d.parameters.length) = some 1 := by decide +kernel

set_option maxHeartbeats 4000000 in
set_option maxRecDepth 100000 in
theorem c4_land (l : Launch) (hlS : l.stackTraces = false) (dC : Nat → ClassId) (dI : Nat → Nat → Nat) (cs : Nat → ClassId) (a : Nat → Nat) (sz : Nat) (y : BrS) (p0 : Int) (res : Int × Int × BrS) (hf : f4_land y p0 = some res) : vx_Met l yX4_land wsX4_land ({ frames := 6, cells := 1, slots := 6, locals := 82 } : Room) (va_Pc [.ref (a 0), .int (iI p0)] (xPX (dC, dI) vwCl ((w4 cs a y).flatten) (xT cs) sz)) (xQx (dC, dI) vwCl ((w4 cs a y).flatten) ((w4 cs a res.2.2).flatten) sz res.1 res.2.1) (xXx (dC, dI) vwCl ((w4 cs a y).flatten) sz res.1) 1 6 (va_A ((w4 cs a y).flatten) sz) := by
  refine vx_ofW (cc := cX4_land) (maxL := 2) (ret := (some .int)) (by decide) rfl ?_
  intro p e s m args below meth c s₁ B hml htb hv
  obtain ⟨rfl, ⟨hsz, hP, hK, hD0⟩, hTh⟩ := hv
  have hx := B.exec
  have hb := B.bytes
  have hr := B.returns
  have hts := atoms_spec (ws := wsX4_land) B.pre
  have hown : s.vm.findClass RX4 = some m.cls := findClass_of_methodNamed B.named
  have hlocks := B.notSynchronized
  have hE2 : ∀ w ∈ (vx_atS RX4 62 "java/lang/IllegalStateException" x_exn).filter goodWord, w ∈ wsX4_land := by decide +kernel
  have hE3 : ∀ w ∈ (vx_atS RX4 85 "java/util/NoSuchElementException" x_exn).filter goodWord, w ∈ wsX4_land := by decide +kernel
  have hin4 : ∀ w ∈ wsX40, w ∈ wsX4_land := by decide +kernel
  subst hsz
  have hD := hD0.self (sz := s.heap.size)
  have hA : ∀ z9 : Nat, s.heap.size ≤ z9 → va_A ((w4 cs a y).flatten) s.heap.size z9 := fun z9 h => Or.inr h
  have hS : va_S (va_A ((w4 cs a y).flatten) s.heap.size) s.heap s.heap [] := va_S.rf
  have hl := lv_entry [.ref (a 0), .int (iI p0)] (n := 2) (Nat.le_of_ble_eq_true rfl)
  rw [lg_entry_eq]
  generalize (lg_sl [.ref (a 0), .int (iI p0)] ++ List.replicate (2 - (lg_sl [.ref (a 0), .int (iI p0)]).length) Slot.unset).toArray = ls at hl ⊢
  have hl : lv_has ls 2 [(0, .ref (a 0)), (1, .int (iI p0))] := hl
  unfold f4_land at hf
  refine lv_aload_n hx hb dX4_land_0 rfl (lv_at hl 0 rfl) ?_
  refine va_get (D := (dC, dI)) (ci := 4) (v := .ref (a 1)) (C := RX4) (T := TX4) (N := 4) hx hb hts hin4 hown hK hP 0 rfl rfl 0 (by decide) (hts (.fieldLink RX4 10 "BoatRuns" "boat" "LBoatRuns$Boat;") (by decide +kernel)) (fun _ h9 => h9) rfl dX4_land_1 ?_
  refine lv_iload_n hx hb dX4_land_4 rfl (lv_at hl 1 rfl) ?_
  obtain ⟨v1, ev1, hf⟩ := x_bind hf
  refine xf_ri (As := [.int (iI p0)]) (rest := []) (wcs := [w0 cs (x_sh a 1) (g4_bo y)]) ⟨hx, hb, hml, hown, hts⟩ (c0_hasRun l dC dI cs (x_sh a 1) (g4_bo y) p0  _ ev1) (cwV 1 hts gX4_land_X0_hasRun rfl rfl rfl cdX0_hasRun ⟨Nat.le_of_ble_eq_true rfl, Nat.le_of_ble_eq_true rfl⟩) hK hP [1] (by simp only [List.flatten_cons, List.flatten_nil, List.append_nil, List.cons_append, List.nil_append]) rfl rfl rfl rfl hl.1 rfl (Nat.le_of_ble_eq_true rfl) dX4_land_5 ⟨Nat.zero_le _, Nat.zero_le _⟩ ?_
  obtain ⟨c2a, c2b, c2t, c2f⟩ := x_eqE hf
  refine xk_if_ne (tgt := 21) hx hb c2a dX4_land_8 (by decide) (fun c2 => ?_) (fun c2 => ?_)
  · have hf := c2t c2
    obtain rfl := Option.some.inj hf
    obtain ⟨sa9, hsa⟩ := hTh.2.2.2 (83, "there is no such run") (by decide)
    exact vx_throwS (own := RX4) (cls := "java/util/NoSuchElementException") (names := x_exn) (ik := 81) (is := 83) (ic := 85) (text := "there is no such run") hx hb hlS hown (by decide) (by decide) (hts (.classLink RX4 81 "java/util/NoSuchElementException") (by decide +kernel)) (hts (.initialized "java/util/NoSuchElementException") (by decide +kernel)) hsa (vx_hat (fun w hw => hts w (hE3 w hw)) xn_3 (fun w hw => va_Nw.use (x_ont_3 w hw) (hTh.1 w (x_sub_3 w hw)))) xg_3 hTh.2.1 hTh.2.2.1 hS (hl.1.trans hml.symm) dX4_land_11 dX4_land_14 dX4_land_15 dX4_land_17 dX4_land_20 (fun x hx9 => (htb x hx9).elim) (Nat.le_of_ble_eq_true rfl) (Nat.le_of_ble_eq_true rfl) (Nat.le_of_ble_eq_true rfl) (Nat.le_of_ble_eq_true rfl) hlocks (fun t hvm hz hk => xe_thx (show ¬ ((3 : Int) = 0) by decide) rfl hP hS hz hk) hS.2.2 (Nat.le_refl _) (Nat.le_refl _)
  · have hf := c2f c2
    refine lv_aload_n hx hb dX4_land_21 rfl (lv_at hl 0 rfl) ?_
    refine va_get (D := (dC, dI)) (ci := 4) (v := .ref (a 1)) (C := RX4) (T := TX4) (N := 4) hx hb hts hin4 hown hK hP 0 rfl rfl 0 (by decide) (hts (.fieldLink RX4 10 "BoatRuns" "boat" "LBoatRuns$Boat;") (by decide +kernel)) (fun _ h9 => h9) rfl dX4_land_22 ?_
    refine lv_iload_n hx hb dX4_land_25 rfl (lv_at hl 1 rfl) ?_
    obtain ⟨v3, ev3, hf⟩ := x_bind hf
    refine xf_ri (As := [.int (iI p0)]) (rest := []) (wcs := [w0 cs (x_sh a 1) (g4_bo y)]) ⟨hx, hb, hml, hown, hts⟩ (c0_canBringAshore l dC dI cs (x_sh a 1) (g4_bo y) p0  _ ev3) (cwV 1 hts gX4_land_X0_canBringAshore rfl rfl rfl cdX0_canBringAshore ⟨Nat.le_of_ble_eq_true rfl, Nat.le_of_ble_eq_true rfl⟩) hK hP [1] (by simp only [List.flatten_cons, List.flatten_nil, List.append_nil, List.cons_append, List.nil_append]) rfl rfl rfl rfl hl.1 rfl (Nat.le_of_ble_eq_true rfl) dX4_land_26 ⟨Nat.zero_le _, Nat.zero_le _⟩ ?_
    obtain ⟨c4a, c4b, c4t, c4f⟩ := x_eqE hf
    refine xk_if_ne (tgt := 42) hx hb c4a dX4_land_29 (by decide) (fun c4 => ?_) (fun c4 => ?_)
    · have hf := c4t c4
      obtain rfl := Option.some.inj hf
      obtain ⟨sa9, hsa⟩ := hTh.2.2.2 (111, "the run cannot be brought ashore") (by decide)
      exact vx_throwS (own := RX4) (cls := "java/lang/IllegalStateException") (names := x_exn) (ik := 58) (is := 111) (ic := 62) (text := "the run cannot be brought ashore") hx hb hlS hown (by decide) (by decide) (hts (.classLink RX4 58 "java/lang/IllegalStateException") (by decide +kernel)) (hts (.initialized "java/lang/IllegalStateException") (by decide +kernel)) hsa (vx_hat (fun w hw => hts w (hE2 w hw)) xn_2 (fun w hw => va_Nw.use (x_ont_2 w hw) (hTh.1 w (x_sub_2 w hw)))) xg_2 hTh.2.1 hTh.2.2.1 hS (hl.1.trans hml.symm) dX4_land_32 dX4_land_35 dX4_land_36 dX4_land_38 dX4_land_41 (fun x hx9 => (htb x hx9).elim) (Nat.le_of_ble_eq_true rfl) (Nat.le_of_ble_eq_true rfl) (Nat.le_of_ble_eq_true rfl) (Nat.le_of_ble_eq_true rfl) hlocks (fun t hvm hz hk => xe_thx (show ¬ ((2 : Int) = 0) by decide) rfl hP hS hz hk) hS.2.2 (Nat.le_refl _) (Nat.le_refl _)
    · have hf := c4f c4
      refine lv_aload_n hx hb dX4_land_42 rfl (lv_at hl 0 rfl) ?_
      refine va_get (D := (dC, dI)) (ci := 4) (v := .ref (a 31)) (C := RX4) (T := TX4) (N := 4) hx hb hts hin4 hown hK hP 0 rfl rfl 2 (by decide) (hts (.fieldLink RX4 22 "BoatRuns" "history" "LBoatRuns$History;") (by decide +kernel)) (fun _ h9 => h9) rfl dX4_land_43 ?_
      refine lv_aload_n hx hb dX4_land_46 rfl (lv_at hl 0 rfl) ?_
      refine va_get (D := (dC, dI)) (ci := 4) (v := .ref (a 1)) (C := RX4) (T := TX4) (N := 4) hx hb hts hin4 hown hK hP 0 rfl rfl 0 (by decide) (hts (.fieldLink RX4 10 "BoatRuns" "boat" "LBoatRuns$Boat;") (by decide +kernel)) (fun _ h9 => h9) rfl dX4_land_47 ?_
      obtain ⟨h5, eh5, hf⟩ := x_bind hf
      refine xf_wv (As := [.ref (a 1)]) (rest := []) (wcs := w1 cs (x_sh a 31) (g4_hi y) ++ [w0 cs (x_sh a 1) (g4_bo y)]) (w1s := w1 cs (x_sh a 31) h5 ++ [w0 cs (x_sh a 1) (g4_bo y)]) ⟨hx, hb, hml, hown, hts⟩ (c1_save l dC dI cs (x_sh a 31) (x_sh a 1) _ (g4_hi y) (g4_bo y)  _ eh5) (cwV 1 hts gX4_land_X1_save rfl rfl rfl cdX1_save ⟨Nat.le_of_ble_eq_true rfl, Nat.le_of_ble_eq_true rfl⟩) hK hP (x_addrF hD rfl) hS hA [3, 4, 5, 6, 7, 8, 1] rfl rfl rfl (by decide) rfl rfl rfl rfl hl.1 rfl (Nat.le_of_ble_eq_true rfl) dX4_land_50 ⟨Nat.zero_le _, Nat.zero_le _⟩ (fun H locs hP hS => ?_)
      have hP : va_P (dC, dI) vwCl ((w4C cs a (g4_bo y) (g4_tr y) h5 (g4_tx y)).flatten) H := hP
      refine lv_aload_n hx hb dX4_land_53 rfl (lv_at hl 0 rfl) ?_
      refine va_get (D := (dC, dI)) (ci := 4) (v := .ref (a 1)) (C := RX4) (T := TX4) (N := 4) hx hb hts hin4 hown hK hP 0 rfl rfl 0 (by decide) (hts (.fieldLink RX4 10 "BoatRuns" "boat" "LBoatRuns$Boat;") (by decide +kernel)) (fun _ h9 => h9) rfl dX4_land_54 ?_
      refine lv_iload_n hx hb dX4_land_57 rfl (lv_at hl 1 rfl) ?_
      obtain ⟨⟨v7, b6⟩, eb6, hf⟩ := x_bind hf
      refine xf_wi (As := [.int (iI p0)]) (rest := []) (wcs := [w0 cs (x_sh a 1) (g4_bo y)]) (w1s := [w0 cs (x_sh a 1) b6]) ⟨hx, hb, hml, hown, hts⟩ (c0_bringAshore l dC dI cs (x_sh a 1) _ (g4_bo y) p0  _ eb6) (cwV 1 hts gX4_land_X0_bringAshore rfl rfl rfl cdX0_bringAshore ⟨Nat.le_of_ble_eq_true rfl, Nat.le_of_ble_eq_true rfl⟩) hK hP (x_addrF hD rfl) hS hA [1] (by simp only [List.flatten_cons, List.flatten_nil, List.append_nil, List.cons_append, List.nil_append]) (by simp only [List.flatten_cons, List.flatten_nil, List.append_nil, List.cons_append, List.nil_append]) rfl (by decide) rfl rfl rfl rfl hl.1 rfl (Nat.le_of_ble_eq_true rfl) dX4_land_58 ⟨Nat.zero_le _, Nat.zero_le _⟩ (fun H locs hP hS => ?_)
      have hP : va_P (dC, dI) vwCl ((w4C cs a b6 (g4_tr y) h5 (g4_tx y)).flatten) H := hP
      obtain rfl := Option.some.inj hf
      refine W.widen (k := 1) (n := 6) (by decide) (by decide) ?_
      exact vx_ret (xe_xi hx hb hr hlocks hS hP rfl dX4_land_61)
theorem cdX4_land : yX4_land.cls = RX4 ∧ yX4_land.cls ≠ "java/lang/invoke/MethodHandle" ∧ yX4_land.cls ≠ "java/lang/invoke/VarHandle" ∧ (parseMethodDescriptor yX4_land.desc).map (fun d => d.parameters.length) = some 1 := by decide +kernel

set_option maxHeartbeats 4000000 in
set_option maxRecDepth 100000 in
theorem c4_parcel (l : Launch) (hlS : l.stackTraces = false) (dC : Nat → ClassId) (dI : Nat → Nat → Nat) (cs : Nat → ClassId) (a : Nat → Nat) (sz : Nat) (y : BrS) (p0 : Int) (p1 : Int) (res : Int × Int × BrS) (hf : f4_parcel y p0 p1 = some res) : vx_Met l yX4_parcel wsX4_parcel ({ frames := 6, cells := 1, slots := 6, locals := 82 } : Room) (va_Pc [.ref (a 0), .int (iI p0), .int (iI p1)] (xPX (dC, dI) vwCl ((w4 cs a y).flatten) (xT cs) sz)) (xQx (dC, dI) vwCl ((w4 cs a y).flatten) ((w4 cs a res.2.2).flatten) sz res.1 res.2.1) (xXx (dC, dI) vwCl ((w4 cs a y).flatten) sz res.1) 1 6 (va_A ((w4 cs a y).flatten) sz) := by
  refine vx_ofW (cc := cX4_parcel) (maxL := 3) (ret := (some .int)) (by decide) rfl ?_
  intro p e s m args below meth c s₁ B hml htb hv
  obtain ⟨rfl, ⟨hsz, hP, hK, hD0⟩, hTh⟩ := hv
  have hx := B.exec
  have hb := B.bytes
  have hr := B.returns
  have hts := atoms_spec (ws := wsX4_parcel) B.pre
  have hown : s.vm.findClass RX4 = some m.cls := findClass_of_methodNamed B.named
  have hlocks := B.notSynchronized
  have hE1 : ∀ w ∈ (vx_atS RX4 37 "java/lang/IllegalArgumentException" x_exn).filter goodWord, w ∈ wsX4_parcel := by decide +kernel
  have hE4 : ∀ w ∈ (vx_atS RX4 120 "java/lang/IndexOutOfBoundsException" x_exn).filter goodWord, w ∈ wsX4_parcel := by decide +kernel
  have hin4 : ∀ w ∈ wsX40, w ∈ wsX4_parcel := by decide +kernel
  subst hsz
  have hD := hD0.self (sz := s.heap.size)
  have hA : ∀ z9 : Nat, s.heap.size ≤ z9 → va_A ((w4 cs a y).flatten) s.heap.size z9 := fun z9 h => Or.inr h
  have hS : va_S (va_A ((w4 cs a y).flatten) s.heap.size) s.heap s.heap [] := va_S.rf
  have hl := lv_entry [.ref (a 0), .int (iI p0), .int (iI p1)] (n := 3) (Nat.le_of_ble_eq_true rfl)
  rw [lg_entry_eq]
  generalize (lg_sl [.ref (a 0), .int (iI p0), .int (iI p1)] ++ List.replicate (3 - (lg_sl [.ref (a 0), .int (iI p0), .int (iI p1)]).length) Slot.unset).toArray = ls at hl ⊢
  have hl : lv_has ls 3 [(0, .ref (a 0)), (1, .int (iI p0)), (2, .int (iI p1))] := hl
  unfold f4_parcel at hf
  refine lv_iload_n hx hb dX4_parcel_0 rfl (lv_at hl 1 rfl) ?_
  obtain ⟨c1a, c1b, c1t, c1f⟩ := x_ltE hf
  refine xk_if_lt (tgt := 15) hx hb c1a dX4_parcel_1 (by decide) (fun c1 => ?_) (fun c1 => ?_)
  · have hf := c1t c1
    obtain rfl := Option.some.inj hf
    obtain ⟨sa9, hsa⟩ := hTh.2.2.2 (118, "no such parcel was loaded") (by decide)
    exact vx_throwS (own := RX4) (cls := "java/lang/IndexOutOfBoundsException") (names := x_exn) (ik := 116) (is := 118) (ic := 120) (text := "no such parcel was loaded") hx hb hlS hown (by decide) (by decide) (hts (.classLink RX4 116 "java/lang/IndexOutOfBoundsException") (by decide +kernel)) (hts (.initialized "java/lang/IndexOutOfBoundsException") (by decide +kernel)) hsa (vx_hat (fun w hw => hts w (hE4 w hw)) xn_4 (fun w hw => va_Nw.use (x_ont_4 w hw) (hTh.1 w (x_sub_4 w hw)))) xg_4 hTh.2.1 hTh.2.2.1 hS (hl.1.trans hml.symm) dX4_parcel_15 dX4_parcel_18 dX4_parcel_19 dX4_parcel_21 dX4_parcel_24 (fun x hx9 => (htb x hx9).elim) (Nat.le_of_ble_eq_true rfl) (Nat.le_of_ble_eq_true rfl) (Nat.le_of_ble_eq_true rfl) (Nat.le_of_ble_eq_true rfl) hlocks (fun t hvm hz hk => xe_thx (show ¬ ((4 : Int) = 0) by decide) rfl hP hS hz hk) hS.2.2 (Nat.le_refl _) (Nat.le_refl _)
  · have hf := c1f c1
    refine lv_iload_n hx hb dX4_parcel_4 rfl (lv_at hl 1 rfl) ?_
    refine lv_aload_n hx hb dX4_parcel_5 rfl (lv_at hl 0 rfl) ?_
    refine va_get (D := (dC, dI)) (ci := 4) (v := .ref (a 1)) (C := RX4) (T := TX4) (N := 4) hx hb hts hin4 hown hK hP 0 rfl rfl 0 (by decide) (hts (.fieldLink RX4 10 "BoatRuns" "boat" "LBoatRuns$Boat;") (by decide +kernel)) (fun _ h9 => h9) rfl dX4_parcel_6 ?_
    obtain ⟨v2, ev2, hf⟩ := x_bind hf
    refine xf_ri (As := []) (rest := [.int (iI p0)]) (wcs := [w0 cs (x_sh a 1) (g4_bo y)]) ⟨hx, hb, hml, hown, hts⟩ (c0_loaded l dC dI cs (x_sh a 1) (g4_bo y)  _ ev2) (cwV 0 hts gX4_parcel_X0_loaded rfl rfl rfl cdX0_loaded ⟨Nat.le_of_ble_eq_true rfl, Nat.le_of_ble_eq_true rfl⟩) hK hP [1] (by simp only [List.flatten_cons, List.flatten_nil, List.append_nil, List.cons_append, List.nil_append]) rfl rfl rfl rfl hl.1 rfl (Nat.le_of_ble_eq_true rfl) dX4_parcel_9 ⟨Nat.zero_le _, Nat.zero_le _⟩ ?_
    obtain ⟨c3a, c3b, c3t, c3f⟩ := x_ltE hf
    refine xk_icmp_lt (tgt := 25) hx hb c3a c3b dX4_parcel_12 (by decide) (fun c3 => ?_) (fun c3 => ?_)
    · have hf := c3t c3
      refine lv_iload_n hx hb dX4_parcel_25 rfl (lv_at hl 2 rfl) ?_
      obtain ⟨c4a, c4b, c4t, c4f⟩ := x_ltE hf
      refine xk_if_lt (tgt := 34) hx hb c4a dX4_parcel_26 (by decide) (fun c4 => ?_) (fun c4 => ?_)
      · have hf := c4t c4
        obtain rfl := Option.some.inj hf
        obtain ⟨sa9, hsa⟩ := hTh.2.2.2 (121, "what is out of range") (by decide)
        exact vx_throwS (own := RX4) (cls := "java/lang/IllegalArgumentException") (names := x_exn) (ik := 33) (is := 121) (ic := 37) (text := "what is out of range") hx hb hlS hown (by decide) (by decide) (hts (.classLink RX4 33 "java/lang/IllegalArgumentException") (by decide +kernel)) (hts (.initialized "java/lang/IllegalArgumentException") (by decide +kernel)) hsa (vx_hat (fun w hw => hts w (hE1 w hw)) xn_1 (fun w hw => va_Nw.use (x_ont_1 w hw) (hTh.1 w (x_sub_1 w hw)))) xg_1 hTh.2.1 hTh.2.2.1 hS (hl.1.trans hml.symm) dX4_parcel_34 dX4_parcel_37 dX4_parcel_38 dX4_parcel_40 dX4_parcel_43 (fun x hx9 => (htb x hx9).elim) (Nat.le_of_ble_eq_true rfl) (Nat.le_of_ble_eq_true rfl) (Nat.le_of_ble_eq_true rfl) (Nat.le_of_ble_eq_true rfl) hlocks (fun t hvm hz hk => xe_thx (show ¬ ((1 : Int) = 0) by decide) rfl hP hS hz hk) hS.2.2 (Nat.le_refl _) (Nat.le_refl _)
      · have hf := c4f c4
        refine lv_iload_n hx hb dX4_parcel_29 rfl (lv_at hl 2 rfl) ?_
        refine xk_iconst hx hb dX4_parcel_30 ?_
        obtain ⟨c5a, c5b, c5t, c5f⟩ := x_ltE hf
        refine xk_icmp_lt (tgt := 44) hx hb c5a c5b dX4_parcel_31 (by decide) (fun c5 => ?_) (fun c5 => ?_)
        · have hf := c5t c5
          refine lv_aload_n hx hb dX4_parcel_44 rfl (lv_at hl 0 rfl) ?_
          refine va_get (D := (dC, dI)) (ci := 4) (v := .ref (a 1)) (C := RX4) (T := TX4) (N := 4) hx hb hts hin4 hown hK hP 0 rfl rfl 0 (by decide) (hts (.fieldLink RX4 10 "BoatRuns" "boat" "LBoatRuns$Boat;") (by decide +kernel)) (fun _ h9 => h9) rfl dX4_parcel_45 ?_
          refine lv_iload_n hx hb dX4_parcel_48 rfl (lv_at hl 1 rfl) ?_
          refine lv_iload_n hx hb dX4_parcel_49 rfl (lv_at hl 2 rfl) ?_
          obtain ⟨v6, ev6, hf⟩ := x_bind hf
          refine xf_ri (As := [.int (iI p0), .int (iI p1)]) (rest := []) (wcs := [w0 cs (x_sh a 1) (g4_bo y)]) ⟨hx, hb, hml, hown, hts⟩ (c0_parcelFact l dC dI cs (x_sh a 1) (g4_bo y) p0 p1  _ ev6) (cwV 2 hts gX4_parcel_X0_parcelFact rfl rfl rfl cdX0_parcelFact ⟨Nat.le_of_ble_eq_true rfl, Nat.le_of_ble_eq_true rfl⟩) hK hP [1] (by simp only [List.flatten_cons, List.flatten_nil, List.append_nil, List.cons_append, List.nil_append]) rfl rfl rfl rfl hl.1 rfl (Nat.le_of_ble_eq_true rfl) dX4_parcel_50 ⟨Nat.zero_le _, Nat.zero_le _⟩ ?_
          obtain rfl := Option.some.inj hf
          refine W.widen (k := 1) (n := 6) (by decide) (by decide) ?_
          exact vx_ret (xe_xi hx hb hr hlocks hS hP rfl dX4_parcel_53)
        · have hf := c5f c5
          obtain rfl := Option.some.inj hf
          obtain ⟨sa9, hsa⟩ := hTh.2.2.2 (121, "what is out of range") (by decide)
          exact vx_throwS (own := RX4) (cls := "java/lang/IllegalArgumentException") (names := x_exn) (ik := 33) (is := 121) (ic := 37) (text := "what is out of range") hx hb hlS hown (by decide) (by decide) (hts (.classLink RX4 33 "java/lang/IllegalArgumentException") (by decide +kernel)) (hts (.initialized "java/lang/IllegalArgumentException") (by decide +kernel)) hsa (vx_hat (fun w hw => hts w (hE1 w hw)) xn_1 (fun w hw => va_Nw.use (x_ont_1 w hw) (hTh.1 w (x_sub_1 w hw)))) xg_1 hTh.2.1 hTh.2.2.1 hS (hl.1.trans hml.symm) dX4_parcel_34 dX4_parcel_37 dX4_parcel_38 dX4_parcel_40 dX4_parcel_43 (fun x hx9 => (htb x hx9).elim) (Nat.le_of_ble_eq_true rfl) (Nat.le_of_ble_eq_true rfl) (Nat.le_of_ble_eq_true rfl) (Nat.le_of_ble_eq_true rfl) hlocks (fun t hvm hz hk => xe_thx (show ¬ ((1 : Int) = 0) by decide) rfl hP hS hz hk) hS.2.2 (Nat.le_refl _) (Nat.le_refl _)
    · have hf := c3f c3
      obtain rfl := Option.some.inj hf
      obtain ⟨sa9, hsa⟩ := hTh.2.2.2 (118, "no such parcel was loaded") (by decide)
      exact vx_throwS (own := RX4) (cls := "java/lang/IndexOutOfBoundsException") (names := x_exn) (ik := 116) (is := 118) (ic := 120) (text := "no such parcel was loaded") hx hb hlS hown (by decide) (by decide) (hts (.classLink RX4 116 "java/lang/IndexOutOfBoundsException") (by decide +kernel)) (hts (.initialized "java/lang/IndexOutOfBoundsException") (by decide +kernel)) hsa (vx_hat (fun w hw => hts w (hE4 w hw)) xn_4 (fun w hw => va_Nw.use (x_ont_4 w hw) (hTh.1 w (x_sub_4 w hw)))) xg_4 hTh.2.1 hTh.2.2.1 hS (hl.1.trans hml.symm) dX4_parcel_15 dX4_parcel_18 dX4_parcel_19 dX4_parcel_21 dX4_parcel_24 (fun x hx9 => (htb x hx9).elim) (Nat.le_of_ble_eq_true rfl) (Nat.le_of_ble_eq_true rfl) (Nat.le_of_ble_eq_true rfl) (Nat.le_of_ble_eq_true rfl) hlocks (fun t hvm hz hk => xe_thx (show ¬ ((4 : Int) = 0) by decide) rfl hP hS hz hk) hS.2.2 (Nat.le_refl _) (Nat.le_refl _)
theorem cdX4_parcel : yX4_parcel.cls = RX4 ∧ yX4_parcel.cls ≠ "java/lang/invoke/MethodHandle" ∧ yX4_parcel.cls ≠ "java/lang/invoke/VarHandle" ∧ (parseMethodDescriptor yX4_parcel.desc).map (fun d => d.parameters.length) = some 2 := by decide +kernel

set_option maxHeartbeats 4000000 in
set_option maxRecDepth 100000 in
theorem c4_run (l : Launch) (hlS : l.stackTraces = false) (dC : Nat → ClassId) (dI : Nat → Nat → Nat) (cs : Nat → ClassId) (a : Nat → Nat) (sz : Nat) (y : BrS) (p0 : Int) (p1 : Int) (res : Int × Int × BrS) (hf : f4_run y p0 p1 = some res) : vx_Met l yX4_run wsX4_run ({ frames := 6, cells := 1, slots := 6, locals := 82 } : Room) (va_Pc [.ref (a 0), .int (iI p0), .int (iI p1)] (xPX (dC, dI) vwCl ((w4 cs a y).flatten) (xT cs) sz)) (xQx (dC, dI) vwCl ((w4 cs a y).flatten) ((w4 cs a res.2.2).flatten) sz res.1 res.2.1) (xXx (dC, dI) vwCl ((w4 cs a y).flatten) sz res.1) 1 6 (va_A ((w4 cs a y).flatten) sz) := by
  refine vx_ofW (cc := cX4_run) (maxL := 3) (ret := (some .int)) (by decide) rfl ?_
  intro p e s m args below meth c s₁ B hml htb hv
  obtain ⟨rfl, ⟨hsz, hP, hK, hD0⟩, hTh⟩ := hv
  have hx := B.exec
  have hb := B.bytes
  have hr := B.returns
  have hts := atoms_spec (ws := wsX4_run) B.pre
  have hown : s.vm.findClass RX4 = some m.cls := findClass_of_methodNamed B.named
  have hlocks := B.notSynchronized
  have hE1 : ∀ w ∈ (vx_atS RX4 37 "java/lang/IllegalArgumentException" x_exn).filter goodWord, w ∈ wsX4_run := by decide +kernel
  have hE3 : ∀ w ∈ (vx_atS RX4 85 "java/util/NoSuchElementException" x_exn).filter goodWord, w ∈ wsX4_run := by decide +kernel
  have hin4 : ∀ w ∈ wsX40, w ∈ wsX4_run := by decide +kernel
  subst hsz
  have hD := hD0.self (sz := s.heap.size)
  have hA : ∀ z9 : Nat, s.heap.size ≤ z9 → va_A ((w4 cs a y).flatten) s.heap.size z9 := fun z9 h => Or.inr h
  have hS : va_S (va_A ((w4 cs a y).flatten) s.heap.size) s.heap s.heap [] := va_S.rf
  have hl := lv_entry [.ref (a 0), .int (iI p0), .int (iI p1)] (n := 3) (Nat.le_of_ble_eq_true rfl)
  rw [lg_entry_eq]
  generalize (lg_sl [.ref (a 0), .int (iI p0), .int (iI p1)] ++ List.replicate (3 - (lg_sl [.ref (a 0), .int (iI p0), .int (iI p1)]).length) Slot.unset).toArray = ls at hl ⊢
  have hl : lv_has ls 3 [(0, .ref (a 0)), (1, .int (iI p0)), (2, .int (iI p1))] := hl
  unfold f4_run at hf
  refine lv_aload_n hx hb dX4_run_0 rfl (lv_at hl 0 rfl) ?_
  refine va_get (D := (dC, dI)) (ci := 4) (v := .ref (a 1)) (C := RX4) (T := TX4) (N := 4) hx hb hts hin4 hown hK hP 0 rfl rfl 0 (by decide) (hts (.fieldLink RX4 10 "BoatRuns" "boat" "LBoatRuns$Boat;") (by decide +kernel)) (fun _ h9 => h9) rfl dX4_run_1 ?_
  refine lv_iload_n hx hb dX4_run_4 rfl (lv_at hl 1 rfl) ?_
  obtain ⟨v1, ev1, hf⟩ := x_bind hf
  refine xf_ri (As := [.int (iI p0)]) (rest := []) (wcs := [w0 cs (x_sh a 1) (g4_bo y)]) ⟨hx, hb, hml, hown, hts⟩ (c0_hasRun l dC dI cs (x_sh a 1) (g4_bo y) p0  _ ev1) (cwV 1 hts gX4_run_X0_hasRun rfl rfl rfl cdX0_hasRun ⟨Nat.le_of_ble_eq_true rfl, Nat.le_of_ble_eq_true rfl⟩) hK hP [1] (by simp only [List.flatten_cons, List.flatten_nil, List.append_nil, List.cons_append, List.nil_append]) rfl rfl rfl rfl hl.1 rfl (Nat.le_of_ble_eq_true rfl) dX4_run_5 ⟨Nat.zero_le _, Nat.zero_le _⟩ ?_
  obtain ⟨c2a, c2b, c2t, c2f⟩ := x_eqE hf
  refine xk_if_ne (tgt := 21) hx hb c2a dX4_run_8 (by decide) (fun c2 => ?_) (fun c2 => ?_)
  · have hf := c2t c2
    obtain rfl := Option.some.inj hf
    obtain ⟨sa9, hsa⟩ := hTh.2.2.2 (83, "there is no such run") (by decide)
    exact vx_throwS (own := RX4) (cls := "java/util/NoSuchElementException") (names := x_exn) (ik := 81) (is := 83) (ic := 85) (text := "there is no such run") hx hb hlS hown (by decide) (by decide) (hts (.classLink RX4 81 "java/util/NoSuchElementException") (by decide +kernel)) (hts (.initialized "java/util/NoSuchElementException") (by decide +kernel)) hsa (vx_hat (fun w hw => hts w (hE3 w hw)) xn_3 (fun w hw => va_Nw.use (x_ont_3 w hw) (hTh.1 w (x_sub_3 w hw)))) xg_3 hTh.2.1 hTh.2.2.1 hS (hl.1.trans hml.symm) dX4_run_11 dX4_run_14 dX4_run_15 dX4_run_17 dX4_run_20 (fun x hx9 => (htb x hx9).elim) (Nat.le_of_ble_eq_true rfl) (Nat.le_of_ble_eq_true rfl) (Nat.le_of_ble_eq_true rfl) (Nat.le_of_ble_eq_true rfl) hlocks (fun t hvm hz hk => xe_thx (show ¬ ((3 : Int) = 0) by decide) rfl hP hS hz hk) hS.2.2 (Nat.le_refl _) (Nat.le_refl _)
  · have hf := c2f c2
    refine lv_iload_n hx hb dX4_run_21 rfl (lv_at hl 2 rfl) ?_
    obtain ⟨c3a, c3b, c3t, c3f⟩ := x_ltE hf
    refine xk_if_lt (tgt := 31) hx hb c3a dX4_run_22 (by decide) (fun c3 => ?_) (fun c3 => ?_)
    · have hf := c3t c3
      obtain rfl := Option.some.inj hf
      obtain ⟨sa9, hsa⟩ := hTh.2.2.2 (121, "what is out of range") (by decide)
      exact vx_throwS (own := RX4) (cls := "java/lang/IllegalArgumentException") (names := x_exn) (ik := 33) (is := 121) (ic := 37) (text := "what is out of range") hx hb hlS hown (by decide) (by decide) (hts (.classLink RX4 33 "java/lang/IllegalArgumentException") (by decide +kernel)) (hts (.initialized "java/lang/IllegalArgumentException") (by decide +kernel)) hsa (vx_hat (fun w hw => hts w (hE1 w hw)) xn_1 (fun w hw => va_Nw.use (x_ont_1 w hw) (hTh.1 w (x_sub_1 w hw)))) xg_1 hTh.2.1 hTh.2.2.1 hS (hl.1.trans hml.symm) dX4_run_31 dX4_run_34 dX4_run_35 dX4_run_37 dX4_run_40 (fun x hx9 => (htb x hx9).elim) (Nat.le_of_ble_eq_true rfl) (Nat.le_of_ble_eq_true rfl) (Nat.le_of_ble_eq_true rfl) (Nat.le_of_ble_eq_true rfl) hlocks (fun t hvm hz hk => xe_thx (show ¬ ((1 : Int) = 0) by decide) rfl hP hS hz hk) hS.2.2 (Nat.le_refl _) (Nat.le_refl _)
    · have hf := c3f c3
      refine lv_iload_n hx hb dX4_run_25 rfl (lv_at hl 2 rfl) ?_
      refine xk_bipush hx hb dX4_run_26 (by decide) ?_
      obtain ⟨c4a, c4b, c4t, c4f⟩ := x_ltE hf
      refine xk_icmp_lt (tgt := 41) hx hb c4a c4b dX4_run_28 (by decide) (fun c4 => ?_) (fun c4 => ?_)
      · have hf := c4t c4
        refine lv_aload_n hx hb dX4_run_41 rfl (lv_at hl 0 rfl) ?_
        refine va_get (D := (dC, dI)) (ci := 4) (v := .ref (a 1)) (C := RX4) (T := TX4) (N := 4) hx hb hts hin4 hown hK hP 0 rfl rfl 0 (by decide) (hts (.fieldLink RX4 10 "BoatRuns" "boat" "LBoatRuns$Boat;") (by decide +kernel)) (fun _ h9 => h9) rfl dX4_run_42 ?_
        refine lv_iload_n hx hb dX4_run_45 rfl (lv_at hl 1 rfl) ?_
        refine lv_iload_n hx hb dX4_run_46 rfl (lv_at hl 2 rfl) ?_
        obtain ⟨v5, ev5, hf⟩ := x_bind hf
        refine xf_ri (As := [.int (iI p0), .int (iI p1)]) (rest := []) (wcs := [w0 cs (x_sh a 1) (g4_bo y)]) ⟨hx, hb, hml, hown, hts⟩ (c0_runFact l dC dI cs (x_sh a 1) (g4_bo y) p0 p1  _ ev5) (cwV 2 hts gX4_run_X0_runFact rfl rfl rfl cdX0_runFact ⟨Nat.le_of_ble_eq_true rfl, Nat.le_of_ble_eq_true rfl⟩) hK hP [1] (by simp only [List.flatten_cons, List.flatten_nil, List.append_nil, List.cons_append, List.nil_append]) rfl rfl rfl rfl hl.1 rfl (Nat.le_of_ble_eq_true rfl) dX4_run_47 ⟨Nat.zero_le _, Nat.zero_le _⟩ ?_
        obtain rfl := Option.some.inj hf
        refine W.widen (k := 1) (n := 6) (by decide) (by decide) ?_
        exact vx_ret (xe_xi hx hb hr hlocks hS hP rfl dX4_run_50)
      · have hf := c4f c4
        obtain rfl := Option.some.inj hf
        obtain ⟨sa9, hsa⟩ := hTh.2.2.2 (121, "what is out of range") (by decide)
        exact vx_throwS (own := RX4) (cls := "java/lang/IllegalArgumentException") (names := x_exn) (ik := 33) (is := 121) (ic := 37) (text := "what is out of range") hx hb hlS hown (by decide) (by decide) (hts (.classLink RX4 33 "java/lang/IllegalArgumentException") (by decide +kernel)) (hts (.initialized "java/lang/IllegalArgumentException") (by decide +kernel)) hsa (vx_hat (fun w hw => hts w (hE1 w hw)) xn_1 (fun w hw => va_Nw.use (x_ont_1 w hw) (hTh.1 w (x_sub_1 w hw)))) xg_1 hTh.2.1 hTh.2.2.1 hS (hl.1.trans hml.symm) dX4_run_31 dX4_run_34 dX4_run_35 dX4_run_37 dX4_run_40 (fun x hx9 => (htb x hx9).elim) (Nat.le_of_ble_eq_true rfl) (Nat.le_of_ble_eq_true rfl) (Nat.le_of_ble_eq_true rfl) (Nat.le_of_ble_eq_true rfl) hlocks (fun t hvm hz hk => xe_thx (show ¬ ((1 : Int) = 0) by decide) rfl hP hS hz hk) hS.2.2 (Nat.le_refl _) (Nat.le_refl _)
theorem cdX4_run : yX4_run.cls = RX4 ∧ yX4_run.cls ≠ "java/lang/invoke/MethodHandle" ∧ yX4_run.cls ≠ "java/lang/invoke/VarHandle" ∧ (parseMethodDescriptor yX4_run.desc).map (fun d => d.parameters.length) = some 2 := by decide +kernel

set_option maxHeartbeats 4000000 in
set_option maxRecDepth 100000 in
theorem c4_inRun (l : Launch) (hlS : l.stackTraces = false) (dC : Nat → ClassId) (dI : Nat → Nat → Nat) (cs : Nat → ClassId) (a : Nat → Nat) (sz : Nat) (y : BrS) (p0 : Int) (p1 : Int) (res : Int × Int × BrS) (hf : f4_inRun y p0 p1 = some res) : vx_Met l yX4_inRun wsX4_inRun ({ frames := 6, cells := 1, slots := 6, locals := 82 } : Room) (va_Pc [.ref (a 0), .int (iI p0), .int (iI p1)] (xPX (dC, dI) vwCl ((w4 cs a y).flatten) (xT cs) sz)) (xQx (dC, dI) vwCl ((w4 cs a y).flatten) ((w4 cs a res.2.2).flatten) sz res.1 res.2.1) (xXx (dC, dI) vwCl ((w4 cs a y).flatten) sz res.1) 1 6 (va_A ((w4 cs a y).flatten) sz) := by
  refine vx_ofW (cc := cX4_inRun) (maxL := 3) (ret := (some .int)) (by decide) rfl ?_
  intro p e s m args below meth c s₁ B hml htb hv
  obtain ⟨rfl, ⟨hsz, hP, hK, hD0⟩, hTh⟩ := hv
  have hx := B.exec
  have hb := B.bytes
  have hr := B.returns
  have hts := atoms_spec (ws := wsX4_inRun) B.pre
  have hown : s.vm.findClass RX4 = some m.cls := findClass_of_methodNamed B.named
  have hlocks := B.notSynchronized
  have hE4 : ∀ w ∈ (vx_atS RX4 120 "java/lang/IndexOutOfBoundsException" x_exn).filter goodWord, w ∈ wsX4_inRun := by decide +kernel
  have hE3 : ∀ w ∈ (vx_atS RX4 85 "java/util/NoSuchElementException" x_exn).filter goodWord, w ∈ wsX4_inRun := by decide +kernel
  have hin4 : ∀ w ∈ wsX40, w ∈ wsX4_inRun := by decide +kernel
  subst hsz
  have hD := hD0.self (sz := s.heap.size)
  have hA : ∀ z9 : Nat, s.heap.size ≤ z9 → va_A ((w4 cs a y).flatten) s.heap.size z9 := fun z9 h => Or.inr h
  have hS : va_S (va_A ((w4 cs a y).flatten) s.heap.size) s.heap s.heap [] := va_S.rf
  have hl := lv_entry [.ref (a 0), .int (iI p0), .int (iI p1)] (n := 3) (Nat.le_of_ble_eq_true rfl)
  rw [lg_entry_eq]
  generalize (lg_sl [.ref (a 0), .int (iI p0), .int (iI p1)] ++ List.replicate (3 - (lg_sl [.ref (a 0), .int (iI p0), .int (iI p1)]).length) Slot.unset).toArray = ls at hl ⊢
  have hl : lv_has ls 3 [(0, .ref (a 0)), (1, .int (iI p0)), (2, .int (iI p1))] := hl
  unfold f4_inRun at hf
  refine lv_aload_n hx hb dX4_inRun_0 rfl (lv_at hl 0 rfl) ?_
  refine va_get (D := (dC, dI)) (ci := 4) (v := .ref (a 1)) (C := RX4) (T := TX4) (N := 4) hx hb hts hin4 hown hK hP 0 rfl rfl 0 (by decide) (hts (.fieldLink RX4 10 "BoatRuns" "boat" "LBoatRuns$Boat;") (by decide +kernel)) (fun _ h9 => h9) rfl dX4_inRun_1 ?_
  refine lv_iload_n hx hb dX4_inRun_4 rfl (lv_at hl 1 rfl) ?_
  obtain ⟨v1, ev1, hf⟩ := x_bind hf
  refine xf_ri (As := [.int (iI p0)]) (rest := []) (wcs := [w0 cs (x_sh a 1) (g4_bo y)]) ⟨hx, hb, hml, hown, hts⟩ (c0_hasRun l dC dI cs (x_sh a 1) (g4_bo y) p0  _ ev1) (cwV 1 hts gX4_inRun_X0_hasRun rfl rfl rfl cdX0_hasRun ⟨Nat.le_of_ble_eq_true rfl, Nat.le_of_ble_eq_true rfl⟩) hK hP [1] (by simp only [List.flatten_cons, List.flatten_nil, List.append_nil, List.cons_append, List.nil_append]) rfl rfl rfl rfl hl.1 rfl (Nat.le_of_ble_eq_true rfl) dX4_inRun_5 ⟨Nat.zero_le _, Nat.zero_le _⟩ ?_
  obtain ⟨c2a, c2b, c2t, c2f⟩ := x_eqE hf
  refine xk_if_ne (tgt := 21) hx hb c2a dX4_inRun_8 (by decide) (fun c2 => ?_) (fun c2 => ?_)
  · have hf := c2t c2
    obtain rfl := Option.some.inj hf
    obtain ⟨sa9, hsa⟩ := hTh.2.2.2 (83, "there is no such run") (by decide)
    exact vx_throwS (own := RX4) (cls := "java/util/NoSuchElementException") (names := x_exn) (ik := 81) (is := 83) (ic := 85) (text := "there is no such run") hx hb hlS hown (by decide) (by decide) (hts (.classLink RX4 81 "java/util/NoSuchElementException") (by decide +kernel)) (hts (.initialized "java/util/NoSuchElementException") (by decide +kernel)) hsa (vx_hat (fun w hw => hts w (hE3 w hw)) xn_3 (fun w hw => va_Nw.use (x_ont_3 w hw) (hTh.1 w (x_sub_3 w hw)))) xg_3 hTh.2.1 hTh.2.2.1 hS (hl.1.trans hml.symm) dX4_inRun_11 dX4_inRun_14 dX4_inRun_15 dX4_inRun_17 dX4_inRun_20 (fun x hx9 => (htb x hx9).elim) (Nat.le_of_ble_eq_true rfl) (Nat.le_of_ble_eq_true rfl) (Nat.le_of_ble_eq_true rfl) (Nat.le_of_ble_eq_true rfl) hlocks (fun t hvm hz hk => xe_thx (show ¬ ((3 : Int) = 0) by decide) rfl hP hS hz hk) hS.2.2 (Nat.le_refl _) (Nat.le_refl _)
  · have hf := c2f c2
    refine lv_iload_n hx hb dX4_inRun_21 rfl (lv_at hl 2 rfl) ?_
    obtain ⟨c3a, c3b, c3t, c3f⟩ := x_ltE hf
    refine xk_if_lt (tgt := 37) hx hb c3a dX4_inRun_22 (by decide) (fun c3 => ?_) (fun c3 => ?_)
    · have hf := c3t c3
      obtain rfl := Option.some.inj hf
      obtain ⟨sa9, hsa⟩ := hTh.2.2.2 (132, "the run has not so many parcels") (by decide)
      exact vx_throwS (own := RX4) (cls := "java/lang/IndexOutOfBoundsException") (names := x_exn) (ik := 116) (is := 132) (ic := 120) (text := "the run has not so many parcels") hx hb hlS hown (by decide) (by decide) (hts (.classLink RX4 116 "java/lang/IndexOutOfBoundsException") (by decide +kernel)) (hts (.initialized "java/lang/IndexOutOfBoundsException") (by decide +kernel)) hsa (vx_hat (fun w hw => hts w (hE4 w hw)) xn_4 (fun w hw => va_Nw.use (x_ont_4 w hw) (hTh.1 w (x_sub_4 w hw)))) xg_4 hTh.2.1 hTh.2.2.1 hS (hl.1.trans hml.symm) dX4_inRun_37 dX4_inRun_40 dX4_inRun_41 dX4_inRun_43 dX4_inRun_46 (fun x hx9 => (htb x hx9).elim) (Nat.le_of_ble_eq_true rfl) (Nat.le_of_ble_eq_true rfl) (Nat.le_of_ble_eq_true rfl) (Nat.le_of_ble_eq_true rfl) hlocks (fun t hvm hz hk => xe_thx (show ¬ ((4 : Int) = 0) by decide) rfl hP hS hz hk) hS.2.2 (Nat.le_refl _) (Nat.le_refl _)
    · have hf := c3f c3
      refine lv_iload_n hx hb dX4_inRun_25 rfl (lv_at hl 2 rfl) ?_
      refine lv_aload_n hx hb dX4_inRun_26 rfl (lv_at hl 0 rfl) ?_
      refine va_get (D := (dC, dI)) (ci := 4) (v := .ref (a 1)) (C := RX4) (T := TX4) (N := 4) hx hb hts hin4 hown hK hP 0 rfl rfl 0 (by decide) (hts (.fieldLink RX4 10 "BoatRuns" "boat" "LBoatRuns$Boat;") (by decide +kernel)) (fun _ h9 => h9) rfl dX4_inRun_27 ?_
      refine lv_iload_n hx hb dX4_inRun_30 rfl (lv_at hl 1 rfl) ?_
      obtain ⟨v4, ev4, hf⟩ := x_bind hf
      refine xf_ri (As := [.int (iI p0)]) (rest := [.int (iI p1)]) (wcs := [w0 cs (x_sh a 1) (g4_bo y)]) ⟨hx, hb, hml, hown, hts⟩ (c0_countAt l dC dI cs (x_sh a 1) (g4_bo y) p0  _ ev4) (cwV 1 hts gX4_inRun_X0_countAt rfl rfl rfl cdX0_countAt ⟨Nat.le_of_ble_eq_true rfl, Nat.le_of_ble_eq_true rfl⟩) hK hP [1] (by simp only [List.flatten_cons, List.flatten_nil, List.append_nil, List.cons_append, List.nil_append]) rfl rfl rfl rfl hl.1 rfl (Nat.le_of_ble_eq_true rfl) dX4_inRun_31 ⟨Nat.zero_le _, Nat.zero_le _⟩ ?_
      obtain ⟨c5a, c5b, c5t, c5f⟩ := x_ltE hf
      refine xk_icmp_lt (tgt := 47) hx hb c5a c5b dX4_inRun_34 (by decide) (fun c5 => ?_) (fun c5 => ?_)
      · have hf := c5t c5
        refine lv_aload_n hx hb dX4_inRun_47 rfl (lv_at hl 0 rfl) ?_
        refine va_get (D := (dC, dI)) (ci := 4) (v := .ref (a 1)) (C := RX4) (T := TX4) (N := 4) hx hb hts hin4 hown hK hP 0 rfl rfl 0 (by decide) (hts (.fieldLink RX4 10 "BoatRuns" "boat" "LBoatRuns$Boat;") (by decide +kernel)) (fun _ h9 => h9) rfl dX4_inRun_48 ?_
        refine lv_iload_n hx hb dX4_inRun_51 rfl (lv_at hl 1 rfl) ?_
        refine lv_iload_n hx hb dX4_inRun_52 rfl (lv_at hl 2 rfl) ?_
        obtain ⟨v6, ev6, hf⟩ := x_bind hf
        refine xf_ri (As := [.int (iI p0), .int (iI p1)]) (rest := []) (wcs := [w0 cs (x_sh a 1) (g4_bo y)]) ⟨hx, hb, hml, hown, hts⟩ (c0_parcelAt l dC dI cs (x_sh a 1) (g4_bo y) p0 p1  _ ev6) (cwV 2 hts gX4_inRun_X0_parcelAt rfl rfl rfl cdX0_parcelAt ⟨Nat.le_of_ble_eq_true rfl, Nat.le_of_ble_eq_true rfl⟩) hK hP [1] (by simp only [List.flatten_cons, List.flatten_nil, List.append_nil, List.cons_append, List.nil_append]) rfl rfl rfl rfl hl.1 rfl (Nat.le_of_ble_eq_true rfl) dX4_inRun_53 ⟨Nat.zero_le _, Nat.zero_le _⟩ ?_
        obtain rfl := Option.some.inj hf
        refine W.widen (k := 1) (n := 6) (by decide) (by decide) ?_
        exact vx_ret (xe_xi hx hb hr hlocks hS hP rfl dX4_inRun_56)
      · have hf := c5f c5
        obtain rfl := Option.some.inj hf
        obtain ⟨sa9, hsa⟩ := hTh.2.2.2 (132, "the run has not so many parcels") (by decide)
        exact vx_throwS (own := RX4) (cls := "java/lang/IndexOutOfBoundsException") (names := x_exn) (ik := 116) (is := 132) (ic := 120) (text := "the run has not so many parcels") hx hb hlS hown (by decide) (by decide) (hts (.classLink RX4 116 "java/lang/IndexOutOfBoundsException") (by decide +kernel)) (hts (.initialized "java/lang/IndexOutOfBoundsException") (by decide +kernel)) hsa (vx_hat (fun w hw => hts w (hE4 w hw)) xn_4 (fun w hw => va_Nw.use (x_ont_4 w hw) (hTh.1 w (x_sub_4 w hw)))) xg_4 hTh.2.1 hTh.2.2.1 hS (hl.1.trans hml.symm) dX4_inRun_37 dX4_inRun_40 dX4_inRun_41 dX4_inRun_43 dX4_inRun_46 (fun x hx9 => (htb x hx9).elim) (Nat.le_of_ble_eq_true rfl) (Nat.le_of_ble_eq_true rfl) (Nat.le_of_ble_eq_true rfl) (Nat.le_of_ble_eq_true rfl) hlocks (fun t hvm hz hk => xe_thx (show ¬ ((4 : Int) = 0) by decide) rfl hP hS hz hk) hS.2.2 (Nat.le_refl _) (Nat.le_refl _)
theorem cdX4_inRun : yX4_inRun.cls = RX4 ∧ yX4_inRun.cls ≠ "java/lang/invoke/MethodHandle" ∧ yX4_inRun.cls ≠ "java/lang/invoke/VarHandle" ∧ (parseMethodDescriptor yX4_inRun.desc).map (fun d => d.parameters.length) = some 2 := by decide +kernel

set_option maxHeartbeats 4000000 in
set_option maxRecDepth 100000 in
theorem c4_ashore (l : Launch) (hlS : l.stackTraces = false) (dC : Nat → ClassId) (dI : Nat → Nat → Nat) (cs : Nat → ClassId) (a : Nat → Nat) (sz : Nat) (y : BrS) (p0 : Int) (res : Int × Int × BrS) (hf : f4_ashore y p0 = some res) : vx_Met l yX4_ashore wsX4_ashore ({ frames := 6, cells := 1, slots := 6, locals := 82 } : Room) (va_Pc [.ref (a 0), .int (iI p0)] (xPX (dC, dI) vwCl ((w4 cs a y).flatten) (xT cs) sz)) (xQx (dC, dI) vwCl ((w4 cs a y).flatten) ((w4 cs a res.2.2).flatten) sz res.1 res.2.1) (xXx (dC, dI) vwCl ((w4 cs a y).flatten) sz res.1) 1 6 (va_A ((w4 cs a y).flatten) sz) := by
  refine vx_ofW (cc := cX4_ashore) (maxL := 2) (ret := (some .int)) (by decide) rfl ?_
  intro p e s m args below meth c s₁ B hml htb hv
  obtain ⟨rfl, ⟨hsz, hP, hK, hD0⟩, hTh⟩ := hv
  have hx := B.exec
  have hb := B.bytes
  have hr := B.returns
  have hts := atoms_spec (ws := wsX4_ashore) B.pre
  have hown : s.vm.findClass RX4 = some m.cls := findClass_of_methodNamed B.named
  have hlocks := B.notSynchronized
  have hE4 : ∀ w ∈ (vx_atS RX4 120 "java/lang/IndexOutOfBoundsException" x_exn).filter goodWord, w ∈ wsX4_ashore := by decide +kernel
  have hin4 : ∀ w ∈ wsX40, w ∈ wsX4_ashore := by decide +kernel
  subst hsz
  have hD := hD0.self (sz := s.heap.size)
  have hA : ∀ z9 : Nat, s.heap.size ≤ z9 → va_A ((w4 cs a y).flatten) s.heap.size z9 := fun z9 h => Or.inr h
  have hS : va_S (va_A ((w4 cs a y).flatten) s.heap.size) s.heap s.heap [] := va_S.rf
  have hl := lv_entry [.ref (a 0), .int (iI p0)] (n := 2) (Nat.le_of_ble_eq_true rfl)
  rw [lg_entry_eq]
  generalize (lg_sl [.ref (a 0), .int (iI p0)] ++ List.replicate (2 - (lg_sl [.ref (a 0), .int (iI p0)]).length) Slot.unset).toArray = ls at hl ⊢
  have hl : lv_has ls 2 [(0, .ref (a 0)), (1, .int (iI p0))] := hl
  unfold f4_ashore at hf
  refine lv_iload_n hx hb dX4_ashore_0 rfl (lv_at hl 1 rfl) ?_
  obtain ⟨c1a, c1b, c1t, c1f⟩ := x_ltE hf
  refine xk_if_lt (tgt := 17) hx hb c1a dX4_ashore_1 (by decide) (fun c1 => ?_) (fun c1 => ?_)
  · have hf := c1t c1
    obtain rfl := Option.some.inj hf
    obtain ⟨sa9, hsa⟩ := hTh.2.2.2 (137, "there are not so many parcels ashore") (by decide)
    exact vx_throwS (own := RX4) (cls := "java/lang/IndexOutOfBoundsException") (names := x_exn) (ik := 116) (is := 137) (ic := 120) (text := "there are not so many parcels ashore") hx hb hlS hown (by decide) (by decide) (hts (.classLink RX4 116 "java/lang/IndexOutOfBoundsException") (by decide +kernel)) (hts (.initialized "java/lang/IndexOutOfBoundsException") (by decide +kernel)) hsa (vx_hat (fun w hw => hts w (hE4 w hw)) xn_4 (fun w hw => va_Nw.use (x_ont_4 w hw) (hTh.1 w (x_sub_4 w hw)))) xg_4 hTh.2.1 hTh.2.2.1 hS (hl.1.trans hml.symm) dX4_ashore_17 dX4_ashore_20 dX4_ashore_21 dX4_ashore_23 dX4_ashore_26 (fun x hx9 => (htb x hx9).elim) (Nat.le_of_ble_eq_true rfl) (Nat.le_of_ble_eq_true rfl) (Nat.le_of_ble_eq_true rfl) (Nat.le_of_ble_eq_true rfl) hlocks (fun t hvm hz hk => xe_thx (show ¬ ((4 : Int) = 0) by decide) rfl hP hS hz hk) hS.2.2 (Nat.le_refl _) (Nat.le_refl _)
  · have hf := c1f c1
    refine lv_iload_n hx hb dX4_ashore_4 rfl (lv_at hl 1 rfl) ?_
    refine lv_aload_n hx hb dX4_ashore_5 rfl (lv_at hl 0 rfl) ?_
    refine va_get (D := (dC, dI)) (ci := 4) (v := .ref (a 1)) (C := RX4) (T := TX4) (N := 4) hx hb hts hin4 hown hK hP 0 rfl rfl 0 (by decide) (hts (.fieldLink RX4 10 "BoatRuns" "boat" "LBoatRuns$Boat;") (by decide +kernel)) (fun _ h9 => h9) rfl dX4_ashore_6 ?_
    refine xk_bipush hx hb dX4_ashore_9 (by decide) ?_
    obtain ⟨v2, ev2, hf⟩ := x_bind hf
    refine xf_ri (As := [.int (iI (-2))]) (rest := [.int (iI p0)]) (wcs := [w0 cs (x_sh a 1) (g4_bo y)]) ⟨hx, hb, hml, hown, hts⟩ (c0_countAt l dC dI cs (x_sh a 1) (g4_bo y) (-2)  _ ev2) (cwV 1 hts gX4_ashore_X0_countAt rfl rfl rfl cdX0_countAt ⟨Nat.le_of_ble_eq_true rfl, Nat.le_of_ble_eq_true rfl⟩) hK hP [1] (by simp only [List.flatten_cons, List.flatten_nil, List.append_nil, List.cons_append, List.nil_append]) rfl rfl rfl rfl hl.1 rfl (Nat.le_of_ble_eq_true rfl) dX4_ashore_11 ⟨Nat.zero_le _, Nat.zero_le _⟩ ?_
    obtain ⟨c3a, c3b, c3t, c3f⟩ := x_ltE hf
    refine xk_icmp_lt (tgt := 27) hx hb c3a c3b dX4_ashore_14 (by decide) (fun c3 => ?_) (fun c3 => ?_)
    · have hf := c3t c3
      refine lv_aload_n hx hb dX4_ashore_27 rfl (lv_at hl 0 rfl) ?_
      refine va_get (D := (dC, dI)) (ci := 4) (v := .ref (a 1)) (C := RX4) (T := TX4) (N := 4) hx hb hts hin4 hown hK hP 0 rfl rfl 0 (by decide) (hts (.fieldLink RX4 10 "BoatRuns" "boat" "LBoatRuns$Boat;") (by decide +kernel)) (fun _ h9 => h9) rfl dX4_ashore_28 ?_
      refine xk_bipush hx hb dX4_ashore_31 (by decide) ?_
      refine lv_iload_n hx hb dX4_ashore_33 rfl (lv_at hl 1 rfl) ?_
      obtain ⟨v4, ev4, hf⟩ := x_bind hf
      refine xf_ri (As := [.int (iI (-2)), .int (iI p0)]) (rest := []) (wcs := [w0 cs (x_sh a 1) (g4_bo y)]) ⟨hx, hb, hml, hown, hts⟩ (c0_parcelAt l dC dI cs (x_sh a 1) (g4_bo y) (-2) p0  _ ev4) (cwV 2 hts gX4_ashore_X0_parcelAt rfl rfl rfl cdX0_parcelAt ⟨Nat.le_of_ble_eq_true rfl, Nat.le_of_ble_eq_true rfl⟩) hK hP [1] (by simp only [List.flatten_cons, List.flatten_nil, List.append_nil, List.cons_append, List.nil_append]) rfl rfl rfl rfl hl.1 rfl (Nat.le_of_ble_eq_true rfl) dX4_ashore_34 ⟨Nat.zero_le _, Nat.zero_le _⟩ ?_
      obtain rfl := Option.some.inj hf
      refine W.widen (k := 1) (n := 6) (by decide) (by decide) ?_
      exact vx_ret (xe_xi hx hb hr hlocks hS hP rfl dX4_ashore_37)
    · have hf := c3f c3
      obtain rfl := Option.some.inj hf
      obtain ⟨sa9, hsa⟩ := hTh.2.2.2 (137, "there are not so many parcels ashore") (by decide)
      exact vx_throwS (own := RX4) (cls := "java/lang/IndexOutOfBoundsException") (names := x_exn) (ik := 116) (is := 137) (ic := 120) (text := "there are not so many parcels ashore") hx hb hlS hown (by decide) (by decide) (hts (.classLink RX4 116 "java/lang/IndexOutOfBoundsException") (by decide +kernel)) (hts (.initialized "java/lang/IndexOutOfBoundsException") (by decide +kernel)) hsa (vx_hat (fun w hw => hts w (hE4 w hw)) xn_4 (fun w hw => va_Nw.use (x_ont_4 w hw) (hTh.1 w (x_sub_4 w hw)))) xg_4 hTh.2.1 hTh.2.2.1 hS (hl.1.trans hml.symm) dX4_ashore_17 dX4_ashore_20 dX4_ashore_21 dX4_ashore_23 dX4_ashore_26 (fun x hx9 => (htb x hx9).elim) (Nat.le_of_ble_eq_true rfl) (Nat.le_of_ble_eq_true rfl) (Nat.le_of_ble_eq_true rfl) (Nat.le_of_ble_eq_true rfl) hlocks (fun t hvm hz hk => xe_thx (show ¬ ((4 : Int) = 0) by decide) rfl hP hS hz hk) hS.2.2 (Nat.le_refl _) (Nat.le_refl _)
theorem cdX4_ashore : yX4_ashore.cls = RX4 ∧ yX4_ashore.cls ≠ "java/lang/invoke/MethodHandle" ∧ yX4_ashore.cls ≠ "java/lang/invoke/VarHandle" ∧ (parseMethodDescriptor yX4_ashore.desc).map (fun d => d.parameters.length) = some 1 := by decide +kernel

set_option maxHeartbeats 4000000 in
set_option maxRecDepth 100000 in
theorem c4_runAt (l : Launch) (hlS : l.stackTraces = false) (dC : Nat → ClassId) (dI : Nat → Nat → Nat) (cs : Nat → ClassId) (a : Nat → Nat) (sz : Nat) (y : BrS) (p0 : Int) (res : Int × Int × BrS) (hf : f4_runAt y p0 = some res) : vx_Met l yX4_runAt wsX4_runAt ({ frames := 6, cells := 1, slots := 6, locals := 82 } : Room) (va_Pc [.ref (a 0), .int (iI p0)] (xPX (dC, dI) vwCl ((w4 cs a y).flatten) (xT cs) sz)) (xQx (dC, dI) vwCl ((w4 cs a y).flatten) ((w4 cs a res.2.2).flatten) sz res.1 res.2.1) (xXx (dC, dI) vwCl ((w4 cs a y).flatten) sz res.1) 1 6 (va_A ((w4 cs a y).flatten) sz) := by
  refine vx_ofW (cc := cX4_runAt) (maxL := 2) (ret := (some .int)) (by decide) rfl ?_
  intro p e s m args below meth c s₁ B hml htb hv
  obtain ⟨rfl, ⟨hsz, hP, hK, hD0⟩, hTh⟩ := hv
  have hx := B.exec
  have hb := B.bytes
  have hr := B.returns
  have hts := atoms_spec (ws := wsX4_runAt) B.pre
  have hown : s.vm.findClass RX4 = some m.cls := findClass_of_methodNamed B.named
  have hlocks := B.notSynchronized
  have hE4 : ∀ w ∈ (vx_atS RX4 120 "java/lang/IndexOutOfBoundsException" x_exn).filter goodWord, w ∈ wsX4_runAt := by decide +kernel
  have hin4 : ∀ w ∈ wsX40, w ∈ wsX4_runAt := by decide +kernel
  subst hsz
  have hD := hD0.self (sz := s.heap.size)
  have hA : ∀ z9 : Nat, s.heap.size ≤ z9 → va_A ((w4 cs a y).flatten) s.heap.size z9 := fun z9 h => Or.inr h
  have hS : va_S (va_A ((w4 cs a y).flatten) s.heap.size) s.heap s.heap [] := va_S.rf
  have hl := lv_entry [.ref (a 0), .int (iI p0)] (n := 2) (Nat.le_of_ble_eq_true rfl)
  rw [lg_entry_eq]
  generalize (lg_sl [.ref (a 0), .int (iI p0)] ++ List.replicate (2 - (lg_sl [.ref (a 0), .int (iI p0)]).length) Slot.unset).toArray = ls at hl ⊢
  have hl : lv_has ls 2 [(0, .ref (a 0)), (1, .int (iI p0))] := hl
  unfold f4_runAt at hf
  refine lv_iload_n hx hb dX4_runAt_0 rfl (lv_at hl 1 rfl) ?_
  obtain ⟨c1a, c1b, c1t, c1f⟩ := x_ltE hf
  refine xk_if_lt (tgt := 15) hx hb c1a dX4_runAt_1 (by decide) (fun c1 => ?_) (fun c1 => ?_)
  · have hf := c1t c1
    obtain rfl := Option.some.inj hf
    obtain ⟨sa9, hsa⟩ := hTh.2.2.2 (139, "there are not so many runs") (by decide)
    exact vx_throwS (own := RX4) (cls := "java/lang/IndexOutOfBoundsException") (names := x_exn) (ik := 116) (is := 139) (ic := 120) (text := "there are not so many runs") hx hb hlS hown (by decide) (by decide) (hts (.classLink RX4 116 "java/lang/IndexOutOfBoundsException") (by decide +kernel)) (hts (.initialized "java/lang/IndexOutOfBoundsException") (by decide +kernel)) hsa (vx_hat (fun w hw => hts w (hE4 w hw)) xn_4 (fun w hw => va_Nw.use (x_ont_4 w hw) (hTh.1 w (x_sub_4 w hw)))) xg_4 hTh.2.1 hTh.2.2.1 hS (hl.1.trans hml.symm) dX4_runAt_15 dX4_runAt_18 dX4_runAt_19 dX4_runAt_21 dX4_runAt_24 (fun x hx9 => (htb x hx9).elim) (Nat.le_of_ble_eq_true rfl) (Nat.le_of_ble_eq_true rfl) (Nat.le_of_ble_eq_true rfl) (Nat.le_of_ble_eq_true rfl) hlocks (fun t hvm hz hk => xe_thx (show ¬ ((4 : Int) = 0) by decide) rfl hP hS hz hk) hS.2.2 (Nat.le_refl _) (Nat.le_refl _)
  · have hf := c1f c1
    refine lv_iload_n hx hb dX4_runAt_4 rfl (lv_at hl 1 rfl) ?_
    refine lv_aload_n hx hb dX4_runAt_5 rfl (lv_at hl 0 rfl) ?_
    refine va_get (D := (dC, dI)) (ci := 4) (v := .ref (a 1)) (C := RX4) (T := TX4) (N := 4) hx hb hts hin4 hown hK hP 0 rfl rfl 0 (by decide) (hts (.fieldLink RX4 10 "BoatRuns" "boat" "LBoatRuns$Boat;") (by decide +kernel)) (fun _ h9 => h9) rfl dX4_runAt_6 ?_
    obtain ⟨v2, ev2, hf⟩ := x_bind hf
    refine xf_ri (As := []) (rest := [.int (iI p0)]) (wcs := [w0 cs (x_sh a 1) (g4_bo y)]) ⟨hx, hb, hml, hown, hts⟩ (c0_runs l dC dI cs (x_sh a 1) (g4_bo y)  _ ev2) (cwV 0 hts gX4_runAt_X0_runs rfl rfl rfl cdX0_runs ⟨Nat.le_of_ble_eq_true rfl, Nat.le_of_ble_eq_true rfl⟩) hK hP [1] (by simp only [List.flatten_cons, List.flatten_nil, List.append_nil, List.cons_append, List.nil_append]) rfl rfl rfl rfl hl.1 rfl (Nat.le_of_ble_eq_true rfl) dX4_runAt_9 ⟨Nat.zero_le _, Nat.zero_le _⟩ ?_
    obtain ⟨c3a, c3b, c3t, c3f⟩ := x_ltE hf
    refine xk_icmp_lt (tgt := 25) hx hb c3a c3b dX4_runAt_12 (by decide) (fun c3 => ?_) (fun c3 => ?_)
    · have hf := c3t c3
      refine lv_aload_n hx hb dX4_runAt_25 rfl (lv_at hl 0 rfl) ?_
      refine va_get (D := (dC, dI)) (ci := 4) (v := .ref (a 1)) (C := RX4) (T := TX4) (N := 4) hx hb hts hin4 hown hK hP 0 rfl rfl 0 (by decide) (hts (.fieldLink RX4 10 "BoatRuns" "boat" "LBoatRuns$Boat;") (by decide +kernel)) (fun _ h9 => h9) rfl dX4_runAt_26 ?_
      refine lv_iload_n hx hb dX4_runAt_29 rfl (lv_at hl 1 rfl) ?_
      obtain ⟨v4, ev4, hf⟩ := x_bind hf
      refine xf_ri (As := [.int (iI p0)]) (rest := []) (wcs := [w0 cs (x_sh a 1) (g4_bo y)]) ⟨hx, hb, hml, hown, hts⟩ (c0_runNumber l dC dI cs (x_sh a 1) (g4_bo y) p0  _ ev4) (cwV 1 hts gX4_runAt_X0_runNumber rfl rfl rfl cdX0_runNumber ⟨Nat.le_of_ble_eq_true rfl, Nat.le_of_ble_eq_true rfl⟩) hK hP [1] (by simp only [List.flatten_cons, List.flatten_nil, List.append_nil, List.cons_append, List.nil_append]) rfl rfl rfl rfl hl.1 rfl (Nat.le_of_ble_eq_true rfl) dX4_runAt_30 ⟨Nat.zero_le _, Nat.zero_le _⟩ ?_
      obtain rfl := Option.some.inj hf
      refine W.widen (k := 1) (n := 6) (by decide) (by decide) ?_
      exact vx_ret (xe_xi hx hb hr hlocks hS hP rfl dX4_runAt_33)
    · have hf := c3f c3
      obtain rfl := Option.some.inj hf
      obtain ⟨sa9, hsa⟩ := hTh.2.2.2 (139, "there are not so many runs") (by decide)
      exact vx_throwS (own := RX4) (cls := "java/lang/IndexOutOfBoundsException") (names := x_exn) (ik := 116) (is := 139) (ic := 120) (text := "there are not so many runs") hx hb hlS hown (by decide) (by decide) (hts (.classLink RX4 116 "java/lang/IndexOutOfBoundsException") (by decide +kernel)) (hts (.initialized "java/lang/IndexOutOfBoundsException") (by decide +kernel)) hsa (vx_hat (fun w hw => hts w (hE4 w hw)) xn_4 (fun w hw => va_Nw.use (x_ont_4 w hw) (hTh.1 w (x_sub_4 w hw)))) xg_4 hTh.2.1 hTh.2.2.1 hS (hl.1.trans hml.symm) dX4_runAt_15 dX4_runAt_18 dX4_runAt_19 dX4_runAt_21 dX4_runAt_24 (fun x hx9 => (htb x hx9).elim) (Nat.le_of_ble_eq_true rfl) (Nat.le_of_ble_eq_true rfl) (Nat.le_of_ble_eq_true rfl) (Nat.le_of_ble_eq_true rfl) hlocks (fun t hvm hz hk => xe_thx (show ¬ ((4 : Int) = 0) by decide) rfl hP hS hz hk) hS.2.2 (Nat.le_refl _) (Nat.le_refl _)
theorem cdX4_runAt : yX4_runAt.cls = RX4 ∧ yX4_runAt.cls ≠ "java/lang/invoke/MethodHandle" ∧ yX4_runAt.cls ≠ "java/lang/invoke/VarHandle" ∧ (parseMethodDescriptor yX4_runAt.desc).map (fun d => d.parameters.length) = some 1 := by decide +kernel

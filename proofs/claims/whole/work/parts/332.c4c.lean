set_option maxHeartbeats 4000000 in
set_option maxRecDepth 100000 in
theorem c4_ashore (l : Launch) (hlS : l.stackTraces = false) (dC : Nat → ClassId) (dI : Nat → Nat → Nat) (cs : Nat → ClassId) (a : Nat → Nat) (sz : Nat) (y : BrS) (p0 : Int) (res : Int × Int × BrS) (hf : f4_ashore y p0 = some res) : vx_Met l yX4_ashore wsX4_ashore ({ frames := 6, cells := 1, slots := 6, locals := 82 } : Room) (va_Pc [.ref (a 0), .int (iI p0)] (xPX (dC, dI) vwCl ((w4 cs a y).flatten) (xT cs) sz)) (xQx (dC, dI) vwCl ((w4 cs a y).flatten) ((w4 cs a res.2.2).flatten) sz res.1 res.2.1) (xXx (dC, dI) vwCl ((w4 cs a y).flatten) sz res.1) 1 6 (va_A ((w4 cs a y).flatten) sz) := by
  refine vx_ofW (cc := cX4_ashore) (maxL := 2) (ret := (some .int)) (by decide) rfl ?_
  intro p e s m args below meth c s₁ B hml htb hv
  obtain ⟨rfl, ⟨hsz, hP, hK, hD0⟩, hTh⟩ := hv
  have hx := B.exec
  have hb := B.bytes
  have hr := B.returns
  have hts := atoms_spec (ws := wsX4_ashore) B.pre
  have hown : s.vm.findClass RX4 = some m.cls := findClass_of_methodNamed B.named
  have hlocks := B.notSynchronized
  have hE4 : ∀ w ∈ (vx_atS RX4 120 "java/lang/IndexOutOfBoundsException" x_exn).filter goodWord, w ∈ wsX4_ashore := by decide +kernel
  have hin4 : ∀ w ∈ wsX40, w ∈ wsX4_ashore := by decide +kernel
  subst hsz
  have hD := hD0.self (sz := s.heap.size)
  have hA : ∀ z9 : Nat, s.heap.size ≤ z9 → va_A ((w4 cs a y).flatten) s.heap.size z9 := fun z9 h => Or.inr h
  have hS : va_S (va_A ((w4 cs a y).flatten) s.heap.size) s.heap s.heap [] := va_S.rf
  have hl := lv_entry [.ref (a 0), .int (iI p0)] (n := 2) (Nat.le_of_ble_eq_true rfl)
  rw [lg_entry_eq]
  generalize (lg_sl [.ref (a 0), .int (iI p0)] ++ List.replicate (2 - (lg_sl [.ref (a 0), .int (iI p0)]).length) Slot.unset).toArray = ls at hl ⊢
  have hl : lv_has ls 2 [(0, .ref (a 0)), (1, .int (iI p0))] := hl
  unfold f4_ashore at hf
  refine lv_iload_n hx hb dX4_ashore_0 rfl (lv_at hl 1 rfl) ?_
  obtain ⟨c1a, c1b, c1t, c1f⟩ := x_ltE hf
  refine xk_if_lt (tgt := 17) hx hb c1a dX4_ashore_1 (by decide) (fun c1 => ?_) (fun c1 => ?_)
  · have hf := c1t c1
    obtain rfl := Option.some.inj hf
    obtain ⟨sa9, hsa⟩ := hTh.2.2.2 (137, "there are not so many parcels ashore") (by decide)
    exact vx_throwS (own := RX4) (cls := "java/lang/IndexOutOfBoundsException") (names := x_exn) (ik := 116) (is := 137) (ic := 120) (text := "there are not so many parcels ashore") hx hb hlS hown (by decide) (by decide) (hts (.classLink RX4 116 "java/lang/IndexOutOfBoundsException") (by decide +kernel)) (hts (.initialized "java/lang/IndexOutOfBoundsException") (by decide +kernel)) hsa (vx_hat (fun w hw => hts w (hE4 w hw)) xn_4 (fun w hw => va_Nw.use (x_ont_4 w hw) (hTh.1 w (x_sub_4 w hw)))) xg_4 hTh.2.1 hTh.2.2.1 hS (hl.1.trans hml.symm) dX4_ashore_17 dX4_ashore_20 dX4_ashore_21 dX4_ashore_23 dX4_ashore_26 (fun x hx9 => (htb x hx9).elim) (Nat.le_of_ble_eq_true rfl) (Nat.le_of_ble_eq_true rfl) (Nat.le_of_ble_eq_true rfl) (Nat.le_of_ble_eq_true rfl) hlocks (fun t hvm hz hk => xe_thx (show ¬ ((4 : Int) = 0) by decide) rfl hP hS hz hk) hS.2.2 (Nat.le_refl _) (Nat.le_refl _)
  · have hf := c1f c1
    refine lv_iload_n hx hb dX4_ashore_4 rfl (lv_at hl 1 rfl) ?_
    refine lv_aload_n hx hb dX4_ashore_5 rfl (lv_at hl 0 rfl) ?_
    refine va_get (D := (dC, dI)) (ci := 4) (v := .ref (a 1)) (C := RX4) (T := TX4) (N := 4) hx hb hts hin4 hown hK hP 0 rfl rfl 0 (by decide) (hts (.fieldLink RX4 10 "BoatRuns" "boat" "LBoatRuns$Boat;") (by decide +kernel)) (fun _ h9 => h9) rfl dX4_ashore_6 ?_
    refine xk_bipush hx hb dX4_ashore_9 (by decide) ?_
    obtain ⟨v2, ev2, hf⟩ := x_bind hf
    refine xf_ri (As := [.int (iI (-2))]) (rest := [.int (iI p0)]) (wcs := [w0 cs (x_sh a 1) (g4_bo y)]) ⟨hx, hb, hml, hown, hts⟩ (c0_countAt l dC dI cs (x_sh a 1) (g4_bo y) (-2)  _ ev2) (cwV 1 hts gX4_ashore_X0_countAt rfl rfl rfl cdX0_countAt ⟨Nat.le_of_ble_eq_true rfl, Nat.le_of_ble_eq_true rfl⟩) hK hP [1] (by simp only [List.flatten_cons, List.flatten_nil, List.append_nil, List.cons_append, List.nil_append]) rfl rfl rfl rfl hl.1 rfl (Nat.le_of_ble_eq_true rfl) dX4_ashore_11 ⟨Nat.zero_le _, Nat.zero_le _⟩ ?_
    obtain ⟨c3a, c3b, c3t, c3f⟩ := x_ltE hf
    refine xk_icmp_lt (tgt := 27) hx hb c3a c3b dX4_ashore_14 (by decide) (fun c3 => ?_) (fun c3 => ?_)
    · have hf := c3t c3
      refine lv_aload_n hx hb dX4_ashore_27 rfl (lv_at hl 0 rfl) ?_
      refine va_get (D := (dC, dI)) (ci := 4) (v := .ref (a 1)) (C := RX4) (T := TX4) (N := 4) hx hb hts hin4 hown hK hP 0 rfl rfl 0 (by decide) (hts (.fieldLink RX4 10 "BoatRuns" "boat" "LBoatRuns$Boat;") (by decide +kernel)) (fun _ h9 => h9) rfl dX4_ashore_28 ?_
      refine xk_bipush hx hb dX4_ashore_31 (by decide) ?_
      refine lv_iload_n hx hb dX4_ashore_33 rfl (lv_at hl 1 rfl) ?_
      obtain ⟨v4, ev4, hf⟩ := x_bind hf
      refine xf_ri (As := [.int (iI (-2)), .int (iI p0)]) (rest := []) (wcs := [w0 cs (x_sh a 1) (g4_bo y)]) ⟨hx, hb, hml, hown, hts⟩ (c0_parcelAt l dC dI cs (x_sh a 1) (g4_bo y) (-2) p0  _ ev4) (cwV 2 hts gX4_ashore_X0_parcelAt rfl rfl rfl cdX0_parcelAt ⟨Nat.le_of_ble_eq_true rfl, Nat.le_of_ble_eq_true rfl⟩) hK hP [1] (by simp only [List.flatten_cons, List.flatten_nil, List.append_nil, List.cons_append, List.nil_append]) rfl rfl rfl rfl hl.1 rfl (Nat.le_of_ble_eq_true rfl) dX4_ashore_34 ⟨Nat.zero_le _, Nat.zero_le _⟩ ?_
      obtain rfl := Option.some.inj hf
      refine W.widen (k := 1) (n := 6) (by decide) (by decide) ?_
      exact vx_ret (xe_xi hx hb hr hlocks hS hP rfl dX4_ashore_37)
    · have hf := c3f c3
      obtain rfl := Option.some.inj hf
      obtain ⟨sa9, hsa⟩ := hTh.2.2.2 (137, "there are not so many parcels ashore") (by decide)
      exact vx_throwS (own := RX4) (cls := "java/lang/IndexOutOfBoundsException") (names := x_exn) (ik := 116) (is := 137) (ic := 120) (text := "there are not so many parcels ashore") hx hb hlS hown (by decide) (by decide) (hts (.classLink RX4 116 "java/lang/IndexOutOfBoundsException") (by decide +kernel)) (hts (.initialized "java/lang/IndexOutOfBoundsException") (by decide +kernel)) hsa (vx_hat (fun w hw => hts w (hE4 w hw)) xn_4 (fun w hw => va_Nw.use (x_ont_4 w hw) (hTh.1 w (x_sub_4 w hw)))) xg_4 hTh.2.1 hTh.2.2.1 hS (hl.1.trans hml.symm) dX4_ashore_17 dX4_ashore_20 dX4_ashore_21 dX4_ashore_23 dX4_ashore_26 (fun x hx9 => (htb x hx9).elim) (Nat.le_of_ble_eq_true rfl) (Nat.le_of_ble_eq_true rfl) (Nat.le_of_ble_eq_true rfl) (Nat.le_of_ble_eq_true rfl) hlocks (fun t hvm hz hk => xe_thx (show ¬ ((4 : Int) = 0) by decide) rfl hP hS hz hk) hS.2.2 (Nat.le_refl _) (Nat.le_refl _)
theorem cdX4_ashore : yX4_ashore.cls = RX4 ∧ yX4_ashore.cls ≠ "java/lang/invoke/MethodHandle" ∧ yX4_ashore.cls ≠ "java/lang/invoke/VarHandle" ∧ (parseMethodDescriptor yX4_ashore.desc).map (fun d => d.parameters.length) = some 1 := by decide +kernel

set_option maxHeartbeats 4000000 in
set_option maxRecDepth 100000 in
theorem c4_runAt (l : Launch) (hlS : l.stackTraces = false) (dC : Nat → ClassId) (dI : Nat → Nat → Nat) (cs : Nat → ClassId) (a : Nat → Nat) (sz : Nat) (y : BrS) (p0 : Int) (res : Int × Int × BrS) (hf : f4_runAt y p0 = some res) : vx_Met l yX4_runAt wsX4_runAt ({ frames := 6, cells := 1, slots := 6, locals := 82 } : Room) (va_Pc [.ref (a 0), .int (iI p0)] (xPX (dC, dI) vwCl ((w4 cs a y).flatten) (xT cs) sz)) (xQx (dC, dI) vwCl ((w4 cs a y).flatten) ((w4 cs a res.2.2).flatten) sz res.1 res.2.1) (xXx (dC, dI) vwCl ((w4 cs a y).flatten) sz res.1) 1 6 (va_A ((w4 cs a y).flatten) sz) := by
  refine vx_ofW (cc := cX4_runAt) (maxL := 2) (ret := (some .int)) (by decide) rfl ?_
  intro p e s m args below meth c s₁ B hml htb hv
  obtain ⟨rfl, ⟨hsz, hP, hK, hD0⟩, hTh⟩ := hv
  have hx := B.exec
  have hb := B.bytes
  have hr := B.returns
  have hts := atoms_spec (ws := wsX4_runAt) B.pre
  have hown : s.vm.findClass RX4 = some m.cls := findClass_of_methodNamed B.named
  have hlocks := B.notSynchronized
  have hE4 : ∀ w ∈ (vx_atS RX4 120 "java/lang/IndexOutOfBoundsException" x_exn).filter goodWord, w ∈ wsX4_runAt := by decide +kernel
  have hin4 : ∀ w ∈ wsX40, w ∈ wsX4_runAt := by decide +kernel
  subst hsz
  have hD := hD0.self (sz := s.heap.size)
  have hA : ∀ z9 : Nat, s.heap.size ≤ z9 → va_A ((w4 cs a y).flatten) s.heap.size z9 := fun z9 h => Or.inr h
  have hS : va_S (va_A ((w4 cs a y).flatten) s.heap.size) s.heap s.heap [] := va_S.rf
  have hl := lv_entry [.ref (a 0), .int (iI p0)] (n := 2) (Nat.le_of_ble_eq_true rfl)
  rw [lg_entry_eq]
  generalize (lg_sl [.ref (a 0), .int (iI p0)] ++ List.replicate (2 - (lg_sl [.ref (a 0), .int (iI p0)]).length) Slot.unset).toArray = ls at hl ⊢
  have hl : lv_has ls 2 [(0, .ref (a 0)), (1, .int (iI p0))] := hl
  unfold f4_runAt at hf
  refine lv_iload_n hx hb dX4_runAt_0 rfl (lv_at hl 1 rfl) ?_
  obtain ⟨c1a, c1b, c1t, c1f⟩ := x_ltE hf
  refine xk_if_lt (tgt := 15) hx hb c1a dX4_runAt_1 (by decide) (fun c1 => ?_) (fun c1 => ?_)
  · have hf := c1t c1
    obtain rfl := Option.some.inj hf
    obtain ⟨sa9, hsa⟩ := hTh.2.2.2 (139, "there are not so many runs") (by decide)
    exact vx_throwS (own := RX4) (cls := "java/lang/IndexOutOfBoundsException") (names := x_exn) (ik := 116) (is := 139) (ic := 120) (text := "there are not so many runs") hx hb hlS hown (by decide) (by decide) (hts (.classLink RX4 116 "java/lang/IndexOutOfBoundsException") (by decide +kernel)) (hts (.initialized "java/lang/IndexOutOfBoundsException") (by decide +kernel)) hsa (vx_hat (fun w hw => hts w (hE4 w hw)) xn_4 (fun w hw => va_Nw.use (x_ont_4 w hw) (hTh.1 w (x_sub_4 w hw)))) xg_4 hTh.2.1 hTh.2.2.1 hS (hl.1.trans hml.symm) dX4_runAt_15 dX4_runAt_18 dX4_runAt_19 dX4_runAt_21 dX4_runAt_24 (fun x hx9 => (htb x hx9).elim) (Nat.le_of_ble_eq_true rfl) (Nat.le_of_ble_eq_true rfl) (Nat.le_of_ble_eq_true rfl) (Nat.le_of_ble_eq_true rfl) hlocks (fun t hvm hz hk => xe_thx (show ¬ ((4 : Int) = 0) by decide) rfl hP hS hz hk) hS.2.2 (Nat.le_refl _) (Nat.le_refl _)
  · have hf := c1f c1
    refine lv_iload_n hx hb dX4_runAt_4 rfl (lv_at hl 1 rfl) ?_
    refine lv_aload_n hx hb dX4_runAt_5 rfl (lv_at hl 0 rfl) ?_
    refine va_get (D := (dC, dI)) (ci := 4) (v := .ref (a 1)) (C := RX4) (T := TX4) (N := 4) hx hb hts hin4 hown hK hP 0 rfl rfl 0 (by decide) (hts (.fieldLink RX4 10 "BoatRuns" "boat" "LBoatRuns$Boat;") (by decide +kernel)) (fun _ h9 => h9) rfl dX4_runAt_6 ?_
    obtain ⟨v2, ev2, hf⟩ := x_bind hf
    refine xf_ri (As := []) (rest := [.int (iI p0)]) (wcs := [w0 cs (x_sh a 1) (g4_bo y)]) ⟨hx, hb, hml, hown, hts⟩ (c0_runs l dC dI cs (x_sh a 1) (g4_bo y)  _ ev2) (cwV 0 hts gX4_runAt_X0_runs rfl rfl rfl cdX0_runs ⟨Nat.le_of_ble_eq_true rfl, Nat.le_of_ble_eq_true rfl⟩) hK hP [1] (by simp only [List.flatten_cons, List.flatten_nil, List.append_nil, List.cons_append, List.nil_append]) rfl rfl rfl rfl hl.1 rfl (Nat.le_of_ble_eq_true rfl) dX4_runAt_9 ⟨Nat.zero_le _, Nat.zero_le _⟩ ?_
    obtain ⟨c3a, c3b, c3t, c3f⟩ := x_ltE hf
    refine xk_icmp_lt (tgt := 25) hx hb c3a c3b dX4_runAt_12 (by decide) (fun c3 => ?_) (fun c3 => ?_)
    · have hf := c3t c3
      refine lv_aload_n hx hb dX4_runAt_25 rfl (lv_at hl 0 rfl) ?_
      refine va_get (D := (dC, dI)) (ci := 4) (v := .ref (a 1)) (C := RX4) (T := TX4) (N := 4) hx hb hts hin4 hown hK hP 0 rfl rfl 0 (by decide) (hts (.fieldLink RX4 10 "BoatRuns" "boat" "LBoatRuns$Boat;") (by decide +kernel)) (fun _ h9 => h9) rfl dX4_runAt_26 ?_
      refine lv_iload_n hx hb dX4_runAt_29 rfl (lv_at hl 1 rfl) ?_
      obtain ⟨v4, ev4, hf⟩ := x_bind hf
      refine xf_ri (As := [.int (iI p0)]) (rest := []) (wcs := [w0 cs (x_sh a 1) (g4_bo y)]) ⟨hx, hb, hml, hown, hts⟩ (c0_runNumber l dC dI cs (x_sh a 1) (g4_bo y) p0  _ ev4) (cwV 1 hts gX4_runAt_X0_runNumber rfl rfl rfl cdX0_runNumber ⟨Nat.le_of_ble_eq_true rfl, Nat.le_of_ble_eq_true rfl⟩) hK hP [1] (by simp only [List.flatten_cons, List.flatten_nil, List.append_nil, List.cons_append, List.nil_append]) rfl rfl rfl rfl hl.1 rfl (Nat.le_of_ble_eq_true rfl) dX4_runAt_30 ⟨Nat.zero_le _, Nat.zero_le _⟩ ?_
      obtain rfl := Option.some.inj hf
      refine W.widen (k := 1) (n := 6) (by decide) (by decide) ?_
      exact vx_ret (xe_xi hx hb hr hlocks hS hP rfl dX4_runAt_33)
    · have hf := c3f c3
      obtain rfl := Option.some.inj hf
      obtain ⟨sa9, hsa⟩ := hTh.2.2.2 (139, "there are not so many runs") (by decide)
      exact vx_throwS (own := RX4) (cls := "java/lang/IndexOutOfBoundsException") (names := x_exn) (ik := 116) (is := 139) (ic := 120) (text := "there are not so many runs") hx hb hlS hown (by decide) (by decide) (hts (.classLink RX4 116 "java/lang/IndexOutOfBoundsException") (by decide +kernel)) (hts (.initialized "java/lang/IndexOutOfBoundsException") (by decide +kernel)) hsa (vx_hat (fun w hw => hts w (hE4 w hw)) xn_4 (fun w hw => va_Nw.use (x_ont_4 w hw) (hTh.1 w (x_sub_4 w hw)))) xg_4 hTh.2.1 hTh.2.2.1 hS (hl.1.trans hml.symm) dX4_runAt_15 dX4_runAt_18 dX4_runAt_19 dX4_runAt_21 dX4_runAt_24 (fun x hx9 => (htb x hx9).elim) (Nat.le_of_ble_eq_true rfl) (Nat.le_of_ble_eq_true rfl) (Nat.le_of_ble_eq_true rfl) (Nat.le_of_ble_eq_true rfl) hlocks (fun t hvm hz hk => xe_thx (show ¬ ((4 : Int) = 0) by decide) rfl hP hS hz hk) hS.2.2 (Nat.le_refl _) (Nat.le_refl _)
theorem cdX4_runAt : yX4_runAt.cls = RX4 ∧ yX4_runAt.cls ≠ "java/lang/invoke/MethodHandle" ∧ yX4_runAt.cls ≠ "java/lang/invoke/VarHandle" ∧ (parseMethodDescriptor yX4_runAt.desc).map (fun d => d.parameters.length) = some 1 := by decide +kernel

set_option maxHeartbeats 4000000 in
set_option maxRecDepth 100000 in
theorem c4_value (l : Launch) (hlS : l.stackTraces = false) (dC : Nat → ClassId) (dI : Nat → Nat → Nat) (cs : Nat → ClassId) (a : Nat → Nat) (sz : Nat) (y : BrS) (p0 : Int) (res : Int × Int × BrS) (hf : f4_value y p0 = some res) : vx_Met l yX4_value wsX4_value ({ frames := 6, cells := 1, slots := 6, locals := 82 } : Room) (va_Pc [.ref (a 0), .int (iI p0)] (xPX (dC, dI) vwCl ((w4 cs a y).flatten) (xT cs) sz)) (xQx (dC, dI) vwCl ((w4 cs a y).flatten) ((w4 cs a res.2.2).flatten) sz res.1 res.2.1) (xXx (dC, dI) vwCl ((w4 cs a y).flatten) sz res.1) 1 6 (va_A ((w4 cs a y).flatten) sz) := by
  refine vx_ofW (cc := cX4_value) (maxL := 2) (ret := (some .int)) (by decide) rfl ?_
  intro p e s m args below meth c s₁ B hml htb hv
  obtain ⟨rfl, ⟨hsz, hP, hK, hD0⟩, hTh⟩ := hv
  have hx := B.exec
  have hb := B.bytes
  have hr := B.returns
  have hts := atoms_spec (ws := wsX4_value) B.pre
  have hown : s.vm.findClass RX4 = some m.cls := findClass_of_methodNamed B.named
  have hlocks := B.notSynchronized
  have hE1 : ∀ w ∈ (vx_atS RX4 37 "java/lang/IllegalArgumentException" x_exn).filter goodWord, w ∈ wsX4_value := by decide +kernel
  have hin4 : ∀ w ∈ wsX40, w ∈ wsX4_value := by decide +kernel
  subst hsz
  have hD := hD0.self (sz := s.heap.size)
  have hA : ∀ z9 : Nat, s.heap.size ≤ z9 → va_A ((w4 cs a y).flatten) s.heap.size z9 := fun z9 h => Or.inr h
  have hS : va_S (va_A ((w4 cs a y).flatten) s.heap.size) s.heap s.heap [] := va_S.rf
  have hl := lv_entry [.ref (a 0), .int (iI p0)] (n := 2) (Nat.le_of_ble_eq_true rfl)
  rw [lg_entry_eq]
  generalize (lg_sl [.ref (a 0), .int (iI p0)] ++ List.replicate (2 - (lg_sl [.ref (a 0), .int (iI p0)]).length) Slot.unset).toArray = ls at hl ⊢
  have hl : lv_has ls 2 [(0, .ref (a 0)), (1, .int (iI p0))] := hl
  unfold f4_value at hf
  refine lv_iload_n hx hb dX4_value_0 rfl (lv_at hl 1 rfl) ?_
  obtain ⟨c1a, c1b, c1t, c1f⟩ := x_ltE hf
  refine xk_if_lt (tgt := 10) hx hb c1a dX4_value_1 (by decide) (fun c1 => ?_) (fun c1 => ?_)
  · have hf := c1t c1
    obtain rfl := Option.some.inj hf
    obtain ⟨sa9, hsa⟩ := hTh.2.2.2 (121, "what is out of range") (by decide)
    exact vx_throwS (own := RX4) (cls := "java/lang/IllegalArgumentException") (names := x_exn) (ik := 33) (is := 121) (ic := 37) (text := "what is out of range") hx hb hlS hown (by decide) (by decide) (hts (.classLink RX4 33 "java/lang/IllegalArgumentException") (by decide +kernel)) (hts (.initialized "java/lang/IllegalArgumentException") (by decide +kernel)) hsa (vx_hat (fun w hw => hts w (hE1 w hw)) xn_1 (fun w hw => va_Nw.use (x_ont_1 w hw) (hTh.1 w (x_sub_1 w hw)))) xg_1 hTh.2.1 hTh.2.2.1 hS (hl.1.trans hml.symm) dX4_value_10 dX4_value_13 dX4_value_14 dX4_value_16 dX4_value_19 (fun x hx9 => (htb x hx9).elim) (Nat.le_of_ble_eq_true rfl) (Nat.le_of_ble_eq_true rfl) (Nat.le_of_ble_eq_true rfl) (Nat.le_of_ble_eq_true rfl) hlocks (fun t hvm hz hk => xe_thx (show ¬ ((1 : Int) = 0) by decide) rfl hP hS hz hk) hS.2.2 (Nat.le_refl _) (Nat.le_refl _)
  · have hf := c1f c1
    refine lv_iload_n hx hb dX4_value_4 rfl (lv_at hl 1 rfl) ?_
    refine xk_bipush hx hb dX4_value_5 (by decide) ?_
    obtain ⟨c2a, c2b, c2t, c2f⟩ := x_ltE hf
    refine xk_icmp_lt (tgt := 20) hx hb c2a c2b dX4_value_7 (by decide) (fun c2 => ?_) (fun c2 => ?_)
    · have hf := c2t c2
      refine lv_aload_n hx hb dX4_value_20 rfl (lv_at hl 0 rfl) ?_
      refine va_get (D := (dC, dI)) (ci := 4) (v := .ref (a 1)) (C := RX4) (T := TX4) (N := 4) hx hb hts hin4 hown hK hP 0 rfl rfl 0 (by decide) (hts (.fieldLink RX4 10 "BoatRuns" "boat" "LBoatRuns$Boat;") (by decide +kernel)) (fun _ h9 => h9) rfl dX4_value_21 ?_
      refine lv_iload_n hx hb dX4_value_24 rfl (lv_at hl 1 rfl) ?_
      obtain ⟨v3, ev3, hf⟩ := x_bind hf
      refine xf_ri (As := [.int (iI p0)]) (rest := []) (wcs := [w0 cs (x_sh a 1) (g4_bo y)]) ⟨hx, hb, hml, hown, hts⟩ (c0_number l dC dI cs (x_sh a 1) (g4_bo y) p0  _ ev3) (cwV 1 hts gX4_value_X0_number rfl rfl rfl cdX0_number ⟨Nat.le_of_ble_eq_true rfl, Nat.le_of_ble_eq_true rfl⟩) hK hP [1] (by simp only [List.flatten_cons, List.flatten_nil, List.append_nil, List.cons_append, List.nil_append]) rfl rfl rfl rfl hl.1 rfl (Nat.le_of_ble_eq_true rfl) dX4_value_25 ⟨Nat.zero_le _, Nat.zero_le _⟩ ?_
      obtain rfl := Option.some.inj hf
      refine W.widen (k := 1) (n := 6) (by decide) (by decide) ?_
      exact vx_ret (xe_xi hx hb hr hlocks hS hP rfl dX4_value_28)
    · have hf := c2f c2
      obtain rfl := Option.some.inj hf
      obtain ⟨sa9, hsa⟩ := hTh.2.2.2 (121, "what is out of range") (by decide)
      exact vx_throwS (own := RX4) (cls := "java/lang/IllegalArgumentException") (names := x_exn) (ik := 33) (is := 121) (ic := 37) (text := "what is out of range") hx hb hlS hown (by decide) (by decide) (hts (.classLink RX4 33 "java/lang/IllegalArgumentException") (by decide +kernel)) (hts (.initialized "java/lang/IllegalArgumentException") (by decide +kernel)) hsa (vx_hat (fun w hw => hts w (hE1 w hw)) xn_1 (fun w hw => va_Nw.use (x_ont_1 w hw) (hTh.1 w (x_sub_1 w hw)))) xg_1 hTh.2.1 hTh.2.2.1 hS (hl.1.trans hml.symm) dX4_value_10 dX4_value_13 dX4_value_14 dX4_value_16 dX4_value_19 (fun x hx9 => (htb x hx9).elim) (Nat.le_of_ble_eq_true rfl) (Nat.le_of_ble_eq_true rfl) (Nat.le_of_ble_eq_true rfl) (Nat.le_of_ble_eq_true rfl) hlocks (fun t hvm hz hk => xe_thx (show ¬ ((1 : Int) = 0) by decide) rfl hP hS hz hk) hS.2.2 (Nat.le_refl _) (Nat.le_refl _)
theorem cdX4_value : yX4_value.cls = RX4 ∧ yX4_value.cls ≠ "java/lang/invoke/MethodHandle" ∧ yX4_value.cls ≠ "java/lang/invoke/VarHandle" ∧ (parseMethodDescriptor yX4_value.desc).map (fun d => d.parameters.length) = some 1 := by decide +kernel

set_option maxHeartbeats 4000000 in
set_option maxRecDepth 100000 in
theorem c4_nextThrown (l : Launch) (dC : Nat → ClassId) (dI : Nat → Nat → Nat) (cs : Nat → ClassId) (a : Nat → Nat) (y : BrS) (res : Int) (hf : f4_nextThrown y = some res) : Met l yX4_nextThrown wsX4_nextThrown ({ frames := 3, cells := 0, slots := 0, locals := 69 } : Room) (va_Pc [.ref (a 0)] (xPR (dC, dI) vwCl ((w4 cs a y).flatten) (xT cs))) (vp_Si (fun r => r = iI res)) 0 0 (fun _ => False) := by
  refine Met.ofW (cc := cX4_nextThrown) (maxL := 1) (ret := (some .int)) (by decide) rfl ?_
  intro p e s m args below meth c s₁ B hml hv
  obtain ⟨rfl, hP, hK⟩ := hv
  have hx := B.exec
  have hb := B.bytes
  have hr := B.returns
  have hts := atoms_spec (ws := wsX4_nextThrown) B.pre
  have hown : s.vm.findClass RX4 = some m.cls := findClass_of_methodNamed B.named
  have hlocks := B.notSynchronized
  have hin4 : ∀ w ∈ wsX40, w ∈ wsX4_nextThrown := by decide +kernel
  have hl := lv_entry [.ref (a 0)] (n := 1) (Nat.le_of_ble_eq_true rfl)
  rw [lg_entry_eq]
  generalize (lg_sl [.ref (a 0)] ++ List.replicate (1 - (lg_sl [.ref (a 0)]).length) Slot.unset).toArray = ls at hl ⊢
  have hl : lv_has ls 1 [(0, .ref (a 0))] := hl
  unfold f4_nextThrown at hf
  refine lv_aload_n hx hb dX4_nextThrown_0 rfl (lv_at hl 0 rfl) ?_
  refine va_get (D := (dC, dI)) (ci := 4) (v := .ref (a 1)) (C := RX4) (T := TX4) (N := 4) hx hb hts hin4 hown hK hP 0 rfl rfl 0 (by decide) (hts (.fieldLink RX4 10 "BoatRuns" "boat" "LBoatRuns$Boat;") (by decide +kernel)) (fun _ h9 => h9) rfl dX4_nextThrown_1 ?_
  obtain ⟨v1, ev1, hf⟩ := x_bind hf
  refine xf_ri (As := []) (rest := []) (wcs := [w0 cs (x_sh a 1) (g4_bo y)]) ⟨hx, hb, hml, hown, hts⟩ (c0_nextOverboard l dC dI cs (x_sh a 1) (g4_bo y)  _ ev1) (cwV 0 hts gX4_nextThrown_X0_nextOverboard rfl rfl rfl cdX0_nextOverboard ⟨Nat.le_of_ble_eq_true rfl, Nat.le_of_ble_eq_true rfl⟩) hK hP [1] (by simp only [List.flatten_cons, List.flatten_nil, List.append_nil, List.cons_append, List.nil_append]) rfl rfl rfl rfl hl.1 rfl (Nat.le_of_ble_eq_true rfl) dX4_nextThrown_4 ⟨Nat.zero_le _, Nat.zero_le _⟩ ?_
  obtain rfl := Option.some.inj hf
  exact xe_ri hx hb hr hlocks dX4_nextThrown_7 rfl
theorem cdX4_nextThrown : yX4_nextThrown.cls = RX4 ∧ yX4_nextThrown.cls ≠ "java/lang/invoke/MethodHandle" ∧ yX4_nextThrown.cls ≠ "java/lang/invoke/VarHandle" ∧ (parseMethodDescriptor yX4_nextThrown.desc).map (fun d => d.parameters.length) = some 0 := by decide +kernel

set_option maxHeartbeats 4000000 in
set_option maxRecDepth 100000 in
theorem c4_runsIfEmptied (l : Launch) (dC : Nat → ClassId) (dI : Nat → Nat → Nat) (cs : Nat → ClassId) (a : Nat → Nat) (sz : Nat) (y : BrS) (res : Int × BrS) (hf : f4_runsIfEmptied y = some res) : Met l yX4_runsIfEmptied wsX4_runsIfEmptied ({ frames := 5, cells := 0, slots := 0, locals := 111 } : Room) (va_Pc [.ref (a 0)] (xPW (dC, dI) vwCl ((w4 cs a y).flatten) (xT cs) sz)) (xQi (dC, dI) vwCl ((w4 cs a y).flatten) ((w4 cs a res.2).flatten) sz res.1) 0 0 (va_A ((w4 cs a y).flatten) sz) := by
  refine Met.ofW (cc := cX4_runsIfEmptied) (maxL := 1) (ret := (some .int)) (by decide) rfl ?_
  intro p e s m args below meth c s₁ B hml hv
  obtain ⟨rfl, hsz, hP, hK, hD0⟩ := hv
  have hx := B.exec
  have hb := B.bytes
  have hr := B.returns
  have hts := atoms_spec (ws := wsX4_runsIfEmptied) B.pre
  have hown : s.vm.findClass RX4 = some m.cls := findClass_of_methodNamed B.named
  have hlocks := B.notSynchronized
  have hin4 : ∀ w ∈ wsX40, w ∈ wsX4_runsIfEmptied := by decide +kernel
  subst hsz
  have hD := hD0.self (sz := s.heap.size)
  have hA : ∀ z9 : Nat, s.heap.size ≤ z9 → va_A ((w4 cs a y).flatten) s.heap.size z9 := fun z9 h => Or.inr h
  have hS : va_S (va_A ((w4 cs a y).flatten) s.heap.size) s.heap s.heap [] := va_S.rf
  have hl := lv_entry [.ref (a 0)] (n := 1) (Nat.le_of_ble_eq_true rfl)
  rw [lg_entry_eq]
  generalize (lg_sl [.ref (a 0)] ++ List.replicate (1 - (lg_sl [.ref (a 0)]).length) Slot.unset).toArray = ls at hl ⊢
  have hl : lv_has ls 1 [(0, .ref (a 0))] := hl
  unfold f4_runsIfEmptied at hf
  refine lv_aload_n hx hb dX4_runsIfEmptied_0 rfl (lv_at hl 0 rfl) ?_
  refine va_get (D := (dC, dI)) (ci := 4) (v := .ref (a 16)) (C := RX4) (T := TX4) (N := 4) hx hb hts hin4 hown hK hP 0 rfl rfl 1 (by decide) (hts (.fieldLink RX4 16 "BoatRuns" "trial" "LBoatRuns$Boat;") (by decide +kernel)) (fun _ h9 => h9) rfl dX4_runsIfEmptied_1 ?_
  refine lv_aload_n hx hb dX4_runsIfEmptied_4 rfl (lv_at hl 0 rfl) ?_
  refine va_get (D := (dC, dI)) (ci := 4) (v := .ref (a 1)) (C := RX4) (T := TX4) (N := 4) hx hb hts hin4 hown hK hP 0 rfl rfl 0 (by decide) (hts (.fieldLink RX4 10 "BoatRuns" "boat" "LBoatRuns$Boat;") (by decide +kernel)) (fun _ h9 => h9) rfl dX4_runsIfEmptied_5 ?_
  obtain ⟨b1, eb1, hf⟩ := x_bind hf
  refine xf_wv (As := [.ref (a 1)]) (rest := []) (wcs := [w0 cs (x_sh a 16) (g4_tr y)] ++ [w0 cs (x_sh a 1) (g4_bo y)]) (w1s := [w0 cs (x_sh a 16) b1] ++ [w0 cs (x_sh a 1) (g4_bo y)]) ⟨hx, hb, hml, hown, hts⟩ (c0_copy l dC dI cs (x_sh a 16) (x_sh a 1) _ (g4_tr y) (g4_bo y)  _ eb1) (cwV 1 hts gX4_runsIfEmptied_X0_copy rfl rfl rfl cdX0_copy ⟨Nat.le_of_ble_eq_true rfl, Nat.le_of_ble_eq_true rfl⟩) hK hP (x_addrF hD rfl) hS hA [2, 1] (by simp only [List.flatten_cons, List.flatten_nil, List.append_nil, List.cons_append, List.nil_append]) (by simp only [List.flatten_cons, List.flatten_nil, List.append_nil, List.cons_append, List.nil_append]) rfl (by decide) rfl rfl rfl rfl hl.1 rfl (Nat.le_of_ble_eq_true rfl) dX4_runsIfEmptied_8 ⟨Nat.zero_le _, Nat.zero_le _⟩ (fun H locs hP hS => ?_)
  have hP : va_P (dC, dI) vwCl ((w4C cs a (g4_bo y) b1 (g4_hi y) (g4_tx y)).flatten) H := hP
  refine lv_aload_n hx hb dX4_runsIfEmptied_11 rfl (lv_at hl 0 rfl) ?_
  refine va_get (D := (dC, dI)) (ci := 4) (v := .ref (a 16)) (C := RX4) (T := TX4) (N := 4) hx hb hts hin4 hown hK hP 0 rfl rfl 1 (by decide) (hts (.fieldLink RX4 16 "BoatRuns" "trial" "LBoatRuns$Boat;") (by decide +kernel)) (fun _ h9 => h9) rfl dX4_runsIfEmptied_12 ?_
  obtain ⟨⟨v3, b2⟩, eb2, hf⟩ := x_bind hf
  refine xf_wi (As := []) (rest := []) (wcs := [w0 cs (x_sh a 16) b1]) (w1s := [w0 cs (x_sh a 16) b2]) ⟨hx, hb, hml, hown, hts⟩ (c0_throwAll l dC dI cs (x_sh a 16) _ b1  _ eb2) (cwV 0 hts gX4_runsIfEmptied_X0_throwAll rfl rfl rfl cdX0_throwAll ⟨Nat.le_of_ble_eq_true rfl, Nat.le_of_ble_eq_true rfl⟩) hK hP (x_addrF hD rfl) hS hA [2] (by simp only [List.flatten_cons, List.flatten_nil, List.append_nil, List.cons_append, List.nil_append]) (by simp only [List.flatten_cons, List.flatten_nil, List.append_nil, List.cons_append, List.nil_append]) rfl (by decide) rfl rfl rfl rfl hl.1 rfl (Nat.le_of_ble_eq_true rfl) dX4_runsIfEmptied_15 ⟨Nat.zero_le _, Nat.zero_le _⟩ (fun H locs hP hS => ?_)
  have hP : va_P (dC, dI) vwCl ((w4C cs a (g4_bo y) b2 (g4_hi y) (g4_tx y)).flatten) H := hP
  obtain rfl := Option.some.inj hf
  exact xe_wi hx hb hr hlocks hS hP dX4_runsIfEmptied_18
theorem cdX4_runsIfEmptied : yX4_runsIfEmptied.cls = RX4 ∧ yX4_runsIfEmptied.cls ≠ "java/lang/invoke/MethodHandle" ∧ yX4_runsIfEmptied.cls ≠ "java/lang/invoke/VarHandle" ∧ (parseMethodDescriptor yX4_runsIfEmptied.desc).map (fun d => d.parameters.length) = some 0 := by decide +kernel

set_option maxHeartbeats 4000000 in
set_option maxRecDepth 100000 in
theorem c4_costByWeight (l : Launch) (dC : Nat → ClassId) (dI : Nat → Nat → Nat) (cs : Nat → ClassId) (a : Nat → Nat) (sz : Nat) (y : BrS) (res : Int × BrS) (hf : f4_costByWeight y = some res) : Met l yX4_costByWeight wsX4_costByWeight ({ frames := 5, cells := 0, slots := 0, locals := 118 } : Room) (va_Pc [.ref (a 0)] (xPW (dC, dI) vwCl ((w4 cs a y).flatten) (xT cs) sz)) (xQi (dC, dI) vwCl ((w4 cs a y).flatten) ((w4 cs a res.2).flatten) sz res.1) 0 0 (va_A ((w4 cs a y).flatten) sz) := by
  refine Met.ofW (cc := cX4_costByWeight) (maxL := 1) (ret := (some .int)) (by decide) rfl ?_
  intro p e s m args below meth c s₁ B hml hv
  obtain ⟨rfl, hsz, hP, hK, hD0⟩ := hv
  have hx := B.exec
  have hb := B.bytes
  have hr := B.returns
  have hts := atoms_spec (ws := wsX4_costByWeight) B.pre
  have hown : s.vm.findClass RX4 = some m.cls := findClass_of_methodNamed B.named
  have hlocks := B.notSynchronized
  have hin4 : ∀ w ∈ wsX40, w ∈ wsX4_costByWeight := by decide +kernel
  subst hsz
  have hD := hD0.self (sz := s.heap.size)
  have hA : ∀ z9 : Nat, s.heap.size ≤ z9 → va_A ((w4 cs a y).flatten) s.heap.size z9 := fun z9 h => Or.inr h
  have hS : va_S (va_A ((w4 cs a y).flatten) s.heap.size) s.heap s.heap [] := va_S.rf
  have hl := lv_entry [.ref (a 0)] (n := 1) (Nat.le_of_ble_eq_true rfl)
  rw [lg_entry_eq]
  generalize (lg_sl [.ref (a 0)] ++ List.replicate (1 - (lg_sl [.ref (a 0)]).length) Slot.unset).toArray = ls at hl ⊢
  have hl : lv_has ls 1 [(0, .ref (a 0))] := hl
  unfold f4_costByWeight at hf
  refine lv_aload_n hx hb dX4_costByWeight_0 rfl (lv_at hl 0 rfl) ?_
  refine va_get (D := (dC, dI)) (ci := 4) (v := .ref (a 16)) (C := RX4) (T := TX4) (N := 4) hx hb hts hin4 hown hK hP 0 rfl rfl 1 (by decide) (hts (.fieldLink RX4 16 "BoatRuns" "trial" "LBoatRuns$Boat;") (by decide +kernel)) (fun _ h9 => h9) rfl dX4_costByWeight_1 ?_
  refine lv_aload_n hx hb dX4_costByWeight_4 rfl (lv_at hl 0 rfl) ?_
  refine va_get (D := (dC, dI)) (ci := 4) (v := .ref (a 1)) (C := RX4) (T := TX4) (N := 4) hx hb hts hin4 hown hK hP 0 rfl rfl 0 (by decide) (hts (.fieldLink RX4 10 "BoatRuns" "boat" "LBoatRuns$Boat;") (by decide +kernel)) (fun _ h9 => h9) rfl dX4_costByWeight_5 ?_
  obtain ⟨b1, eb1, hf⟩ := x_bind hf
  refine xf_wv (As := [.ref (a 1)]) (rest := []) (wcs := [w0 cs (x_sh a 16) (g4_tr y)] ++ [w0 cs (x_sh a 1) (g4_bo y)]) (w1s := [w0 cs (x_sh a 16) b1] ++ [w0 cs (x_sh a 1) (g4_bo y)]) ⟨hx, hb, hml, hown, hts⟩ (c0_copy l dC dI cs (x_sh a 16) (x_sh a 1) _ (g4_tr y) (g4_bo y)  _ eb1) (cwV 1 hts gX4_costByWeight_X0_copy rfl rfl rfl cdX0_copy ⟨Nat.le_of_ble_eq_true rfl, Nat.le_of_ble_eq_true rfl⟩) hK hP (x_addrF hD rfl) hS hA [2, 1] (by simp only [List.flatten_cons, List.flatten_nil, List.append_nil, List.cons_append, List.nil_append]) (by simp only [List.flatten_cons, List.flatten_nil, List.append_nil, List.cons_append, List.nil_append]) rfl (by decide) rfl rfl rfl rfl hl.1 rfl (Nat.le_of_ble_eq_true rfl) dX4_costByWeight_8 ⟨Nat.zero_le _, Nat.zero_le _⟩ (fun H locs hP hS => ?_)
  have hP : va_P (dC, dI) vwCl ((w4C cs a (g4_bo y) b1 (g4_hi y) (g4_tx y)).flatten) H := hP
  refine lv_aload_n hx hb dX4_costByWeight_11 rfl (lv_at hl 0 rfl) ?_
  refine va_get (D := (dC, dI)) (ci := 4) (v := .ref (a 16)) (C := RX4) (T := TX4) (N := 4) hx hb hts hin4 hown hK hP 0 rfl rfl 1 (by decide) (hts (.fieldLink RX4 16 "BoatRuns" "trial" "LBoatRuns$Boat;") (by decide +kernel)) (fun _ h9 => h9) rfl dX4_costByWeight_12 ?_
  obtain ⟨⟨v3, b2⟩, eb2, hf⟩ := x_bind hf
  refine xf_wi (As := []) (rest := []) (wcs := [w0 cs (x_sh a 16) b1]) (w1s := [w0 cs (x_sh a 16) b2]) ⟨hx, hb, hml, hown, hts⟩ (c0_joinAllByWeight l dC dI cs (x_sh a 16) _ b1  _ eb2) (cwV 0 hts gX4_costByWeight_X0_joinAllByWeight rfl rfl rfl cdX0_joinAllByWeight ⟨Nat.le_of_ble_eq_true rfl, Nat.le_of_ble_eq_true rfl⟩) hK hP (x_addrF hD rfl) hS hA [2] (by simp only [List.flatten_cons, List.flatten_nil, List.append_nil, List.cons_append, List.nil_append]) (by simp only [List.flatten_cons, List.flatten_nil, List.append_nil, List.cons_append, List.nil_append]) rfl (by decide) rfl rfl rfl rfl hl.1 rfl (Nat.le_of_ble_eq_true rfl) dX4_costByWeight_15 ⟨Nat.zero_le _, Nat.zero_le _⟩ (fun H locs hP hS => ?_)
  have hP : va_P (dC, dI) vwCl ((w4C cs a (g4_bo y) b2 (g4_hi y) (g4_tx y)).flatten) H := hP
  obtain rfl := Option.some.inj hf
  exact xe_wi hx hb hr hlocks hS hP dX4_costByWeight_18
theorem cdX4_costByWeight : yX4_costByWeight.cls = RX4 ∧ yX4_costByWeight.cls ≠ "java/lang/invoke/MethodHandle" ∧ yX4_costByWeight.cls ≠ "java/lang/invoke/VarHandle" ∧ (parseMethodDescriptor yX4_costByWeight.desc).map (fun d => d.parameters.length) = some 0 := by decide +kernel

set_option maxHeartbeats 4000000 in
set_option maxRecDepth 100000 in
theorem c4_costByNumber (l : Launch) (dC : Nat → ClassId) (dI : Nat → Nat → Nat) (cs : Nat → ClassId) (a : Nat → Nat) (sz : Nat) (y : BrS) (res : Int × BrS) (hf : f4_costByNumber y = some res) : Met l yX4_costByNumber wsX4_costByNumber ({ frames := 4, cells := 0, slots := 0, locals := 94 } : Room) (va_Pc [.ref (a 0)] (xPW (dC, dI) vwCl ((w4 cs a y).flatten) (xT cs) sz)) (xQi (dC, dI) vwCl ((w4 cs a y).flatten) ((w4 cs a res.2).flatten) sz res.1) 0 0 (va_A ((w4 cs a y).flatten) sz) := by
  refine Met.ofW (cc := cX4_costByNumber) (maxL := 1) (ret := (some .int)) (by decide) rfl ?_
  intro p e s m args below meth c s₁ B hml hv
  obtain ⟨rfl, hsz, hP, hK, hD0⟩ := hv
  have hx := B.exec
  have hb := B.bytes
  have hr := B.returns
  have hts := atoms_spec (ws := wsX4_costByNumber) B.pre
  have hown : s.vm.findClass RX4 = some m.cls := findClass_of_methodNamed B.named
  have hlocks := B.notSynchronized
  have hin4 : ∀ w ∈ wsX40, w ∈ wsX4_costByNumber := by decide +kernel
  subst hsz
  have hD := hD0.self (sz := s.heap.size)
  have hA : ∀ z9 : Nat, s.heap.size ≤ z9 → va_A ((w4 cs a y).flatten) s.heap.size z9 := fun z9 h => Or.inr h
  have hS : va_S (va_A ((w4 cs a y).flatten) s.heap.size) s.heap s.heap [] := va_S.rf
  have hl := lv_entry [.ref (a 0)] (n := 1) (Nat.le_of_ble_eq_true rfl)
  rw [lg_entry_eq]
  generalize (lg_sl [.ref (a 0)] ++ List.replicate (1 - (lg_sl [.ref (a 0)]).length) Slot.unset).toArray = ls at hl ⊢
  have hl : lv_has ls 1 [(0, .ref (a 0))] := hl
  unfold f4_costByNumber at hf
  refine lv_aload_n hx hb dX4_costByNumber_0 rfl (lv_at hl 0 rfl) ?_
  refine va_get (D := (dC, dI)) (ci := 4) (v := .ref (a 16)) (C := RX4) (T := TX4) (N := 4) hx hb hts hin4 hown hK hP 0 rfl rfl 1 (by decide) (hts (.fieldLink RX4 16 "BoatRuns" "trial" "LBoatRuns$Boat;") (by decide +kernel)) (fun _ h9 => h9) rfl dX4_costByNumber_1 ?_
  refine lv_aload_n hx hb dX4_costByNumber_4 rfl (lv_at hl 0 rfl) ?_
  refine va_get (D := (dC, dI)) (ci := 4) (v := .ref (a 1)) (C := RX4) (T := TX4) (N := 4) hx hb hts hin4 hown hK hP 0 rfl rfl 0 (by decide) (hts (.fieldLink RX4 10 "BoatRuns" "boat" "LBoatRuns$Boat;") (by decide +kernel)) (fun _ h9 => h9) rfl dX4_costByNumber_5 ?_
  obtain ⟨b1, eb1, hf⟩ := x_bind hf
  refine xf_wv (As := [.ref (a 1)]) (rest := []) (wcs := [w0 cs (x_sh a 16) (g4_tr y)] ++ [w0 cs (x_sh a 1) (g4_bo y)]) (w1s := [w0 cs (x_sh a 16) b1] ++ [w0 cs (x_sh a 1) (g4_bo y)]) ⟨hx, hb, hml, hown, hts⟩ (c0_copy l dC dI cs (x_sh a 16) (x_sh a 1) _ (g4_tr y) (g4_bo y)  _ eb1) (cwV 1 hts gX4_costByNumber_X0_copy rfl rfl rfl cdX0_copy ⟨Nat.le_of_ble_eq_true rfl, Nat.le_of_ble_eq_true rfl⟩) hK hP (x_addrF hD rfl) hS hA [2, 1] (by simp only [List.flatten_cons, List.flatten_nil, List.append_nil, List.cons_append, List.nil_append]) (by simp only [List.flatten_cons, List.flatten_nil, List.append_nil, List.cons_append, List.nil_append]) rfl (by decide) rfl rfl rfl rfl hl.1 rfl (Nat.le_of_ble_eq_true rfl) dX4_costByNumber_8 ⟨Nat.zero_le _, Nat.zero_le _⟩ (fun H locs hP hS => ?_)
  have hP : va_P (dC, dI) vwCl ((w4C cs a (g4_bo y) b1 (g4_hi y) (g4_tx y)).flatten) H := hP
  refine lv_aload_n hx hb dX4_costByNumber_11 rfl (lv_at hl 0 rfl) ?_
  refine va_get (D := (dC, dI)) (ci := 4) (v := .ref (a 16)) (C := RX4) (T := TX4) (N := 4) hx hb hts hin4 hown hK hP 0 rfl rfl 1 (by decide) (hts (.fieldLink RX4 16 "BoatRuns" "trial" "LBoatRuns$Boat;") (by decide +kernel)) (fun _ h9 => h9) rfl dX4_costByNumber_12 ?_
  obtain ⟨⟨v3, b2⟩, eb2, hf⟩ := x_bind hf
  refine xf_wi (As := []) (rest := []) (wcs := [w0 cs (x_sh a 16) b1]) (w1s := [w0 cs (x_sh a 16) b2]) ⟨hx, hb, hml, hown, hts⟩ (c0_joinAllByNumber l dC dI cs (x_sh a 16) _ b1  _ eb2) (cwV 0 hts gX4_costByNumber_X0_joinAllByNumber rfl rfl rfl cdX0_joinAllByNumber ⟨Nat.le_of_ble_eq_true rfl, Nat.le_of_ble_eq_true rfl⟩) hK hP (x_addrF hD rfl) hS hA [2] (by simp only [List.flatten_cons, List.flatten_nil, List.append_nil, List.cons_append, List.nil_append]) (by simp only [List.flatten_cons, List.flatten_nil, List.append_nil, List.cons_append, List.nil_append]) rfl (by decide) rfl rfl rfl rfl hl.1 rfl (Nat.le_of_ble_eq_true rfl) dX4_costByNumber_15 ⟨Nat.zero_le _, Nat.zero_le _⟩ (fun H locs hP hS => ?_)
  have hP : va_P (dC, dI) vwCl ((w4C cs a (g4_bo y) b2 (g4_hi y) (g4_tx y)).flatten) H := hP
  obtain rfl := Option.some.inj hf
  exact xe_wi hx hb hr hlocks hS hP dX4_costByNumber_18
theorem cdX4_costByNumber : yX4_costByNumber.cls = RX4 ∧ yX4_costByNumber.cls ≠ "java/lang/invoke/MethodHandle" ∧ yX4_costByNumber.cls ≠ "java/lang/invoke/VarHandle" ∧ (parseMethodDescriptor yX4_costByNumber.desc).map (fun d => d.parameters.length) = some 0 := by decide +kernel

set_option maxHeartbeats 4000000 in
set_option maxRecDepth 100000 in
theorem c4_runsWith (l : Launch) (hlS : l.stackTraces = false) (dC : Nat → ClassId) (dI : Nat → Nat → Nat) (cs : Nat → ClassId) (a : Nat → Nat) (sz : Nat) (y : BrS) (p0 : Int) (res : Int × Int × BrS) (hf : f4_runsWith y p0 = some res) : vx_Met l yX4_runsWith wsX4_runsWith ({ frames := 6, cells := 1, slots := 6, locals := 113 } : Room) (va_Pc [.ref (a 0), .int (iI p0)] (xPX (dC, dI) vwCl ((w4 cs a y).flatten) (xT cs) sz)) (xQx (dC, dI) vwCl ((w4 cs a y).flatten) ((w4 cs a res.2.2).flatten) sz res.1 res.2.1) (xXx (dC, dI) vwCl ((w4 cs a y).flatten) sz res.1) 1 6 (va_A ((w4 cs a y).flatten) sz) := by
  refine vx_ofW (cc := cX4_runsWith) (maxL := 3) (ret := (some .int)) (by decide) rfl ?_
  intro p e s m args below meth c s₁ B hml htb hv
  obtain ⟨rfl, ⟨hsz, hP, hK, hD0⟩, hTh⟩ := hv
  have hx := B.exec
  have hb := B.bytes
  have hr := B.returns
  have hts := atoms_spec (ws := wsX4_runsWith) B.pre
  have hown : s.vm.findClass RX4 = some m.cls := findClass_of_methodNamed B.named
  have hlocks := B.notSynchronized
  have hE1 : ∀ w ∈ (vx_atS RX4 37 "java/lang/IllegalArgumentException" x_exn).filter goodWord, w ∈ wsX4_runsWith := by decide +kernel
  have hin4 : ∀ w ∈ wsX40, w ∈ wsX4_runsWith := by decide +kernel
  subst hsz
  have hD := hD0.self (sz := s.heap.size)
  have hA : ∀ z9 : Nat, s.heap.size ≤ z9 → va_A ((w4 cs a y).flatten) s.heap.size z9 := fun z9 h => Or.inr h
  have hS : va_S (va_A ((w4 cs a y).flatten) s.heap.size) s.heap s.heap [] := va_S.rf
  have hl := lv_entry [.ref (a 0), .int (iI p0)] (n := 3) (Nat.le_of_ble_eq_true rfl)
  rw [lg_entry_eq]
  generalize (lg_sl [.ref (a 0), .int (iI p0)] ++ List.replicate (3 - (lg_sl [.ref (a 0), .int (iI p0)]).length) Slot.unset).toArray = ls at hl ⊢
  have hl : lv_has ls 3 [(0, .ref (a 0)), (1, .int (iI p0))] := hl
  unfold f4_runsWith at hf
  refine lv_iload_n hx hb dX4_runsWith_0 rfl (lv_at hl 1 rfl) ?_
  refine xk_iconst hx hb dX4_runsWith_1 ?_
  obtain ⟨c1a, c1b, c1t, c1f⟩ := x_ltE hf
  refine xk_icmp_lt (tgt := 11) hx hb c1a c1b dX4_runsWith_2 (by decide) (fun c1 => ?_) (fun c1 => ?_)
  · have hf := c1t c1
    obtain rfl := Option.some.inj hf
    obtain ⟨sa9, hsa⟩ := hTh.2.2.2 (35, "room is out of range") (by decide)
    exact vx_throwS (own := RX4) (cls := "java/lang/IllegalArgumentException") (names := x_exn) (ik := 33) (is := 35) (ic := 37) (text := "room is out of range") hx hb hlS hown (by decide) (by decide) (hts (.classLink RX4 33 "java/lang/IllegalArgumentException") (by decide +kernel)) (hts (.initialized "java/lang/IllegalArgumentException") (by decide +kernel)) hsa (vx_hat (fun w hw => hts w (hE1 w hw)) xn_1 (fun w hw => va_Nw.use (x_ont_1 w hw) (hTh.1 w (x_sub_1 w hw)))) xg_1 hTh.2.1 hTh.2.2.1 hS (hl.1.trans hml.symm) dX4_runsWith_11 dX4_runsWith_14 dX4_runsWith_15 dX4_runsWith_17 dX4_runsWith_20 (fun x hx9 => (htb x hx9).elim) (Nat.le_of_ble_eq_true rfl) (Nat.le_of_ble_eq_true rfl) (Nat.le_of_ble_eq_true rfl) (Nat.le_of_ble_eq_true rfl) hlocks (fun t hvm hz hk => xe_thx (show ¬ ((1 : Int) = 0) by decide) rfl hP hS hz hk) hS.2.2 (Nat.le_refl _) (Nat.le_refl _)
  · have hf := c1f c1
    refine lv_iload_n hx hb dX4_runsWith_5 rfl (lv_at hl 1 rfl) ?_
    refine xk_bipush hx hb dX4_runsWith_6 (by decide) ?_
    obtain ⟨c2a, c2b, c2t, c2f⟩ := x_ltE hf
    refine xk_icmp_le (tgt := 21) hx hb c2b c2a dX4_runsWith_8 (by decide) (fun c2 => ?_) (fun c2 => ?_)
    · have hf := c2t c2
      obtain rfl := Option.some.inj hf
      obtain ⟨sa9, hsa⟩ := hTh.2.2.2 (35, "room is out of range") (by decide)
      exact vx_throwS (own := RX4) (cls := "java/lang/IllegalArgumentException") (names := x_exn) (ik := 33) (is := 35) (ic := 37) (text := "room is out of range") hx hb hlS hown (by decide) (by decide) (hts (.classLink RX4 33 "java/lang/IllegalArgumentException") (by decide +kernel)) (hts (.initialized "java/lang/IllegalArgumentException") (by decide +kernel)) hsa (vx_hat (fun w hw => hts w (hE1 w hw)) xn_1 (fun w hw => va_Nw.use (x_ont_1 w hw) (hTh.1 w (x_sub_1 w hw)))) xg_1 hTh.2.1 hTh.2.2.1 hS (hl.1.trans hml.symm) dX4_runsWith_11 dX4_runsWith_14 dX4_runsWith_15 dX4_runsWith_17 dX4_runsWith_20 (fun x hx9 => (htb x hx9).elim) (Nat.le_of_ble_eq_true rfl) (Nat.le_of_ble_eq_true rfl) (Nat.le_of_ble_eq_true rfl) (Nat.le_of_ble_eq_true rfl) hlocks (fun t hvm hz hk => xe_thx (show ¬ ((1 : Int) = 0) by decide) rfl hP hS hz hk) hS.2.2 (Nat.le_refl _) (Nat.le_refl _)
    · have hf := c2f c2
      refine lv_aload_n hx hb dX4_runsWith_21 rfl (lv_at hl 0 rfl) ?_
      refine va_get (D := (dC, dI)) (ci := 4) (v := .ref (a 16)) (C := RX4) (T := TX4) (N := 4) hx hb hts hin4 hown hK hP 0 rfl rfl 1 (by decide) (hts (.fieldLink RX4 16 "BoatRuns" "trial" "LBoatRuns$Boat;") (by decide +kernel)) (fun _ h9 => h9) rfl dX4_runsWith_22 ?_
      refine lv_iload_n hx hb dX4_runsWith_25 rfl (lv_at hl 1 rfl) ?_
      obtain ⟨b3, eb3, hf⟩ := x_bind hf
      refine xf_wv (As := [.int (iI p0)]) (rest := []) (wcs := [w0 cs (x_sh a 16) (g4_tr y)]) (w1s := [w0 cs (x_sh a 16) b3]) ⟨hx, hb, hml, hown, hts⟩ (c0_startAgain l dC dI cs (x_sh a 16) _ (g4_tr y) p0  _ eb3) (cwV 1 hts gX4_runsWith_X0_startAgain rfl rfl rfl cdX0_startAgain ⟨Nat.le_of_ble_eq_true rfl, Nat.le_of_ble_eq_true rfl⟩) hK hP (x_addrF hD rfl) hS hA [2] (by simp only [List.flatten_cons, List.flatten_nil, List.append_nil, List.cons_append, List.nil_append]) (by simp only [List.flatten_cons, List.flatten_nil, List.append_nil, List.cons_append, List.nil_append]) rfl (by decide) rfl rfl rfl rfl hl.1 rfl (Nat.le_of_ble_eq_true rfl) dX4_runsWith_26 ⟨Nat.zero_le _, Nat.zero_le _⟩ (fun H locs hP hS => ?_)
      have hP : va_P (dC, dI) vwCl ((w4C cs a (g4_bo y) b3 (g4_hi y) (g4_tx y)).flatten) H := hP
      refine xk_iconst hx hb dX4_runsWith_29 ?_
      refine lv_istore_n (lv' := [(2, .int (iI 0)), (0, .ref (a 0)), (1, .int (iI p0))]) hx hb dX4_runsWith_30 rfl hl (by decide) rfl (fun ls hl => ?_)
      have hL31 : ∀ (n5 : Nat) (l2 : Int) (y4 : BrS), f4_runsWith_L31  n5 l2 y4 = some res → ∀ (H : Heap) (locs : List Loc), va_P (dC, dI) vwCl ((w4 cs a y4).flatten) H → va_S (va_A ((w4 cs a y).flatten) s.heap.size) s.heap H locs → ∀ (ls : Array Slot), lv_has ls 3 [(0, .ref (a 0)), (2, .int (iI l2))] → W p l e (headSpec wsX4_runsWith ({ frames := 6, cells := 1, slots := 6, locals := 113 } : Room)).room s m ([.ref (a 0), .int (iI p0)] : List Value).toArray below meth c H locs 0 0 (vx_MQ below (xQx (dC, dI) vwCl ((w4 cs a y).flatten) ((w4 cs a res.2.2).flatten) s.heap.size res.1 res.2.1) (xXx (dC, dI) vwCl ((w4 cs a y).flatten) s.heap.size res.1) ([.ref (a 0), .int (iI p0)] : List Value).toArray s 1 6 (va_A ((w4 cs a y).flatten) s.heap.size)) (F0 m 31 ls []) := by
        intro  n5
        induction n5 with
        | zero => intro l2 y4 hf; have hf : (none : Option (Int × Int × BrS)) = some res := hf; cases hf
        | succ n5 ih31 =>
          intro l2 y4 hf H locs hP hS ls hl
          rw [f4_runsWith_L31] at hf
          refine lv_iload_n hx hb dX4_runsWith_31 rfl (lv_at hl 1 rfl) ?_
          refine lv_aload_n hx hb dX4_runsWith_32 rfl (lv_at hl 0 rfl) ?_
          refine va_get (D := (dC, dI)) (ci := 4) (v := .ref (a 1)) (C := RX4) (T := TX4) (N := 4) hx hb hts hin4 hown hK hP 0 rfl rfl 0 (by decide) (hts (.fieldLink RX4 10 "BoatRuns" "boat" "LBoatRuns$Boat;") (by decide +kernel)) (fun _ h9 => h9) rfl dX4_runsWith_33 ?_
          obtain ⟨v6, ev6, hf⟩ := x_bind hf
          refine xf_ri (As := []) (rest := [.int (iI l2)]) (wcs := [w0 cs (x_sh a 1) (g4_bo y4)]) ⟨hx, hb, hml, hown, hts⟩ (c0_loaded l dC dI cs (x_sh a 1) (g4_bo y4)  _ ev6) (cwV 0 hts gX4_runsWith_X0_loaded rfl rfl rfl cdX0_loaded ⟨Nat.le_of_ble_eq_true rfl, Nat.le_of_ble_eq_true rfl⟩) hK hP [1] (by simp only [List.flatten_cons, List.flatten_nil, List.append_nil, List.cons_append, List.nil_append]) rfl rfl rfl rfl hl.1 rfl (Nat.le_of_ble_eq_true rfl) dX4_runsWith_36 ⟨Nat.zero_le _, Nat.zero_le _⟩ ?_
          obtain ⟨c7a, c7b, c7t, c7f⟩ := x_ltE hf
          refine xk_icmp_ge (tgt := 72) hx hb c7a c7b dX4_runsWith_39 (by decide) (fun c7 => ?_) (fun c7 => ?_)
          · have hf := c7t c7
            refine lv_aload_n hx hb dX4_runsWith_42 rfl (lv_at hl 0 rfl) ?_
            refine va_get (D := (dC, dI)) (ci := 4) (v := .ref (a 16)) (C := RX4) (T := TX4) (N := 4) hx hb hts hin4 hown hK hP 0 rfl rfl 1 (by decide) (hts (.fieldLink RX4 16 "BoatRuns" "trial" "LBoatRuns$Boat;") (by decide +kernel)) (fun _ h9 => h9) rfl dX4_runsWith_43 ?_
            refine lv_aload_n hx hb dX4_runsWith_46 rfl (lv_at hl 0 rfl) ?_
            refine va_get (D := (dC, dI)) (ci := 4) (v := .ref (a 1)) (C := RX4) (T := TX4) (N := 4) hx hb hts hin4 hown hK hP 0 rfl rfl 0 (by decide) (hts (.fieldLink RX4 10 "BoatRuns" "boat" "LBoatRuns$Boat;") (by decide +kernel)) (fun _ h9 => h9) rfl dX4_runsWith_47 ?_
            refine lv_iload_n hx hb dX4_runsWith_50 rfl (lv_at hl 1 rfl) ?_
            obtain ⟨v8, ev8, hf⟩ := x_bind hf
            refine xf_ri (As := [.int (iI l2)]) (rest := [.ref (a 16)]) (wcs := [w0 cs (x_sh a 1) (g4_bo y4)]) ⟨hx, hb, hml, hown, hts⟩ (c0_keyOf l dC dI cs (x_sh a 1) (g4_bo y4) l2  _ ev8) (cwV 1 hts gX4_runsWith_X0_keyOf rfl rfl rfl cdX0_keyOf ⟨Nat.le_of_ble_eq_true rfl, Nat.le_of_ble_eq_true rfl⟩) hK hP [1] (by simp only [List.flatten_cons, List.flatten_nil, List.append_nil, List.cons_append, List.nil_append]) rfl rfl rfl rfl hl.1 rfl (Nat.le_of_ble_eq_true rfl) dX4_runsWith_51 ⟨Nat.zero_le _, Nat.zero_le _⟩ ?_
            refine lv_aload_n hx hb dX4_runsWith_54 rfl (lv_at hl 0 rfl) ?_
            refine va_get (D := (dC, dI)) (ci := 4) (v := .ref (a 1)) (C := RX4) (T := TX4) (N := 4) hx hb hts hin4 hown hK hP 0 rfl rfl 0 (by decide) (hts (.fieldLink RX4 10 "BoatRuns" "boat" "LBoatRuns$Boat;") (by decide +kernel)) (fun _ h9 => h9) rfl dX4_runsWith_55 ?_
            refine lv_iload_n hx hb dX4_runsWith_58 rfl (lv_at hl 1 rfl) ?_
            obtain ⟨v9, ev9, hf⟩ := x_bind hf
            refine xf_ri (As := [.int (iI l2)]) (rest := [.int (iI v8), .ref (a 16)]) (wcs := [w0 cs (x_sh a 1) (g4_bo y4)]) ⟨hx, hb, hml, hown, hts⟩ (c0_weightOf l dC dI cs (x_sh a 1) (g4_bo y4) l2  _ ev9) (cwV 1 hts gX4_runsWith_X0_weightOf rfl rfl rfl cdX0_weightOf ⟨Nat.le_of_ble_eq_true rfl, Nat.le_of_ble_eq_true rfl⟩) hK hP [1] (by simp only [List.flatten_cons, List.flatten_nil, List.append_nil, List.cons_append, List.nil_append]) rfl rfl rfl rfl hl.1 rfl (Nat.le_of_ble_eq_true rfl) dX4_runsWith_59 ⟨Nat.zero_le _, Nat.zero_le _⟩ ?_
            obtain ⟨⟨v11, b10⟩, eb10, hf⟩ := x_bind hf
            refine xf_wi (As := [.int (iI v8), .int (iI v9)]) (rest := []) (wcs := [w0 cs (x_sh a 16) (g4_tr y4)]) (w1s := [w0 cs (x_sh a 16) b10]) ⟨hx, hb, hml, hown, hts⟩ (c0_take l dC dI cs (x_sh a 16) _ (g4_tr y4) v8 v9  _ eb10) (cwV 2 hts gX4_runsWith_X0_take rfl rfl rfl cdX0_take ⟨Nat.le_of_ble_eq_true rfl, Nat.le_of_ble_eq_true rfl⟩) hK hP (x_addrF hD rfl) hS hA [2] (by simp only [List.flatten_cons, List.flatten_nil, List.append_nil, List.cons_append, List.nil_append]) (by simp only [List.flatten_cons, List.flatten_nil, List.append_nil, List.cons_append, List.nil_append]) rfl (by decide) rfl rfl rfl rfl hl.1 rfl (Nat.le_of_ble_eq_true rfl) dX4_runsWith_62 ⟨Nat.zero_le _, Nat.zero_le _⟩ (fun H locs hP hS => ?_)
            have hP : va_P (dC, dI) vwCl ((w4C cs a (g4_bo y4) b10 (g4_hi y4) (g4_tx y4)).flatten) H := hP
            refine lv_pop hx hb dX4_runsWith_65 rfl ?_
            refine xk_iinc (lv' := [(2, .int (iI (l2 + 1))), (0, .ref (a 0))]) hx hb dX4_runsWith_66 hl (k := 1) rfl (by decide) rfl (fun ls hl => ?_)
            refine lv_goto (tgt := 31) hx hb dX4_runsWith_69 (by decide) ?_
            exact ih31 (l2 + 1) (s4_tr y4 b10) hf _ _ hP hS ls (lv_sub hl [1, 0] rfl)
          · have hf := c7f c7
            refine lv_aload_n hx hb dX4_runsWith_72 rfl (lv_at hl 0 rfl) ?_
            refine va_get (D := (dC, dI)) (ci := 4) (v := .ref (a 16)) (C := RX4) (T := TX4) (N := 4) hx hb hts hin4 hown hK hP 0 rfl rfl 1 (by decide) (hts (.fieldLink RX4 16 "BoatRuns" "trial" "LBoatRuns$Boat;") (by decide +kernel)) (fun _ h9 => h9) rfl dX4_runsWith_73 ?_
            obtain ⟨⟨v13, b12⟩, eb12, hf⟩ := x_bind hf
            refine xf_wi (As := []) (rest := []) (wcs := [w0 cs (x_sh a 16) (g4_tr y4)]) (w1s := [w0 cs (x_sh a 16) b12]) ⟨hx, hb, hml, hown, hts⟩ (c0_throwAll l dC dI cs (x_sh a 16) _ (g4_tr y4)  _ eb12) (cwV 0 hts gX4_runsWith_X0_throwAll rfl rfl rfl cdX0_throwAll ⟨Nat.le_of_ble_eq_true rfl, Nat.le_of_ble_eq_true rfl⟩) hK hP (x_addrF hD rfl) hS hA [2] (by simp only [List.flatten_cons, List.flatten_nil, List.append_nil, List.cons_append, List.nil_append]) (by simp only [List.flatten_cons, List.flatten_nil, List.append_nil, List.cons_append, List.nil_append]) rfl (by decide) rfl rfl rfl rfl hl.1 rfl (Nat.le_of_ble_eq_true rfl) dX4_runsWith_76 ⟨Nat.zero_le _, Nat.zero_le _⟩ (fun H locs hP hS => ?_)
            have hP : va_P (dC, dI) vwCl ((w4C cs a (g4_bo y4) b12 (g4_hi y4) (g4_tx y4)).flatten) H := hP
            obtain rfl := Option.some.inj hf
            refine W.widen (k := 1) (n := 6) (by decide) (by decide) ?_
            exact vx_ret (xe_xi hx hb hr hlocks hS hP rfl dX4_runsWith_79)
      exact hL31  xFU 0 (s4_tr y b3) hf _ _ hP hS ls (lv_sub hl [1, 0] rfl)
theorem cdX4_runsWith : yX4_runsWith.cls = RX4 ∧ yX4_runsWith.cls ≠ "java/lang/invoke/MethodHandle" ∧ yX4_runsWith.cls ≠ "java/lang/invoke/VarHandle" ∧ (parseMethodDescriptor yX4_runsWith.desc).map (fun d => d.parameters.length) = some 1 := by decide +kernel

set_option maxHeartbeats 4000000 in
set_option maxRecDepth 100000 in
theorem c4_leastRoom (l : Launch) (dC : Nat → ClassId) (dI : Nat → Nat → Nat) (cs : Nat → ClassId) (a : Nat → Nat) (y : BrS) (res : Int) (hf : f4_leastRoom y = some res) : Met l yX4_leastRoom wsX4_leastRoom ({ frames := 2, cells := 0, slots := 0, locals := 44 } : Room) (va_Pc [.ref (a 0)] (xPR (dC, dI) vwCl ((w4 cs a y).flatten) (xT cs))) (vp_Si (fun r => r = iI res)) 0 0 (fun _ => False) := by
  refine Met.ofW (cc := cX4_leastRoom) (maxL := 3) (ret := (some .int)) (by decide) rfl ?_
  intro p e s m args below meth c s₁ B hml hv
  obtain ⟨rfl, hP, hK⟩ := hv
  have hx := B.exec
  have hb := B.bytes
  have hr := B.returns
  have hts := atoms_spec (ws := wsX4_leastRoom) B.pre
  have hown : s.vm.findClass RX4 = some m.cls := findClass_of_methodNamed B.named
  have hlocks := B.notSynchronized
  have hin4 : ∀ w ∈ wsX40, w ∈ wsX4_leastRoom := by decide +kernel
  have hl := lv_entry [.ref (a 0)] (n := 3) (Nat.le_of_ble_eq_true rfl)
  rw [lg_entry_eq]
  generalize (lg_sl [.ref (a 0)] ++ List.replicate (3 - (lg_sl [.ref (a 0)]).length) Slot.unset).toArray = ls at hl ⊢
  have hl : lv_has ls 3 [(0, .ref (a 0))] := hl
  unfold f4_leastRoom at hf
  refine xk_iconst hx hb dX4_leastRoom_0 ?_
  refine lv_istore_n (lv' := [(1, .int (iI 0)), (0, .ref (a 0))]) hx hb dX4_leastRoom_1 rfl hl (by decide) rfl (fun ls hl => ?_)
  refine xk_iconst hx hb dX4_leastRoom_2 ?_
  refine lv_istore_n (lv' := [(2, .int (iI 0)), (1, .int (iI 0)), (0, .ref (a 0))]) hx hb dX4_leastRoom_3 rfl hl (by decide) rfl (fun ls hl => ?_)
  have hL4 : ∀ (n1 : Nat) (l1 : Int) (l2 : Int), f4_leastRoom_L4 y n1 l1 l2 = some res → ∀ (ls : Array Slot), lv_has ls 3 [(0, .ref (a 0)), (1, .int (iI l1)), (2, .int (iI l2))] → W p l e (headSpec wsX4_leastRoom ({ frames := 2, cells := 0, slots := 0, locals := 44 } : Room)).room s m ([.ref (a 0)] : List Value).toArray below meth c s.heap [] 0 0 (MQ below (vp_Si (fun r => r = iI res)) ([.ref (a 0)] : List Value).toArray s 0 0 (fun _ => False)) (F0 m 4 ls []) := by
    intro  n1
    induction n1 with
    | zero => intro l1 l2 hf; have hf : (none : Option (Int)) = some res := hf; cases hf
    | succ n1 ih4 =>
      intro l1 l2 hf ls hl
      rw [f4_leastRoom_L4] at hf
      refine lv_iload_n hx hb dX4_leastRoom_4 rfl (lv_at hl 2 rfl) ?_
      refine lv_aload_n hx hb dX4_leastRoom_5 rfl (lv_at hl 0 rfl) ?_
      refine va_get (D := (dC, dI)) (ci := 4) (v := .ref (a 1)) (C := RX4) (T := TX4) (N := 4) hx hb hts hin4 hown hK hP 0 rfl rfl 0 (by decide) (hts (.fieldLink RX4 10 "BoatRuns" "boat" "LBoatRuns$Boat;") (by decide +kernel)) (fun _ h9 => h9) rfl dX4_leastRoom_6 ?_
      obtain ⟨v2, ev2, hf⟩ := x_bind hf
      refine xf_ri (As := []) (rest := [.int (iI l2)]) (wcs := [w0 cs (x_sh a 1) (g4_bo y)]) ⟨hx, hb, hml, hown, hts⟩ (c0_loaded l dC dI cs (x_sh a 1) (g4_bo y)  _ ev2) (cwV 0 hts gX4_leastRoom_X0_loaded rfl rfl rfl cdX0_loaded ⟨Nat.le_of_ble_eq_true rfl, Nat.le_of_ble_eq_true rfl⟩) hK hP [1] (by simp only [List.flatten_cons, List.flatten_nil, List.append_nil, List.cons_append, List.nil_append]) rfl rfl rfl rfl hl.1 rfl (Nat.le_of_ble_eq_true rfl) dX4_leastRoom_9 ⟨Nat.zero_le _, Nat.zero_le _⟩ ?_
      obtain ⟨c3a, c3b, c3t, c3f⟩ := x_ltE hf
      refine xk_icmp_ge (tgt := 34) hx hb c3a c3b dX4_leastRoom_12 (by decide) (fun c3 => ?_) (fun c3 => ?_)
      · have hf := c3t c3
        refine lv_iload_n hx hb dX4_leastRoom_15 rfl (lv_at hl 1 rfl) ?_
        refine lv_aload_n hx hb dX4_leastRoom_16 rfl (lv_at hl 0 rfl) ?_
        refine va_get (D := (dC, dI)) (ci := 4) (v := .ref (a 1)) (C := RX4) (T := TX4) (N := 4) hx hb hts hin4 hown hK hP 0 rfl rfl 0 (by decide) (hts (.fieldLink RX4 10 "BoatRuns" "boat" "LBoatRuns$Boat;") (by decide +kernel)) (fun _ h9 => h9) rfl dX4_leastRoom_17 ?_
        refine lv_iload_n hx hb dX4_leastRoom_20 rfl (lv_at hl 2 rfl) ?_
        obtain ⟨v4, ev4, hf⟩ := x_bind hf
        refine xf_ri (As := [.int (iI l2)]) (rest := [.int (iI l1)]) (wcs := [w0 cs (x_sh a 1) (g4_bo y)]) ⟨hx, hb, hml, hown, hts⟩ (c0_earlierGreater l dC dI cs (x_sh a 1) (g4_bo y) l2  _ ev4) (cwV 1 hts gX4_leastRoom_X0_earlierGreater rfl rfl rfl cdX0_earlierGreater ⟨Nat.le_of_ble_eq_true rfl, Nat.le_of_ble_eq_true rfl⟩) hK hP [1] (by simp only [List.flatten_cons, List.flatten_nil, List.append_nil, List.cons_append, List.nil_append]) rfl rfl rfl rfl hl.1 rfl (Nat.le_of_ble_eq_true rfl) dX4_leastRoom_21 ⟨Nat.zero_le _, Nat.zero_le _⟩ ?_
        obtain ⟨v5, ev5, hf⟩ := x_bind hf
        refine xk_mmax hx hb (by rw [hml]; exact hl.1.symm) hown (hts (.methodLink RX4 168 Lib.Math.max.name) (by decide +kernel)) (hts (.static Lib.Math.max.name) (by decide +kernel)) (hts (.initialized "java/lang/Math") (by decide +kernel)) (hts (.code Lib.Math.max.name Lib.Math.max.code 2 (some .int)) (by decide +kernel)) (Nat.le_of_ble_eq_true rfl) (Nat.le_of_ble_eq_true rfl) (Nat.zero_le _) (Nat.zero_le _) ev5 dX4_leastRoom_24 ?_
        refine lv_istore_n (lv' := [(1, .int (iI v5)), (0, .ref (a 0)), (2, .int (iI l2))]) hx hb dX4_leastRoom_27 rfl hl (by decide) rfl (fun ls hl => ?_)
        refine xk_iinc (lv' := [(2, .int (iI (l2 + 1))), (1, .int (iI v5)), (0, .ref (a 0))]) hx hb dX4_leastRoom_28 hl (k := 2) rfl (by decide) rfl (fun ls hl => ?_)
        refine lv_goto (tgt := 4) hx hb dX4_leastRoom_31 (by decide) ?_
        exact ih4 v5 (l2 + 1) hf ls (lv_sub hl [2, 1, 0] rfl)
      · have hf := c3f c3
        refine lv_iload_n hx hb dX4_leastRoom_34 rfl (lv_at hl 1 rfl) ?_
        refine xk_iconst hx hb dX4_leastRoom_35 ?_
        refine xk_iadd hx hb dX4_leastRoom_36 ?_
        obtain rfl := Option.some.inj hf
        exact xe_ri hx hb hr hlocks dX4_leastRoom_37 rfl
  exact hL4  xFU 0 0 hf ls (lv_sub hl [2, 1, 0] rfl)
theorem cdX4_leastRoom : yX4_leastRoom.cls = RX4 ∧ yX4_leastRoom.cls ≠ "java/lang/invoke/MethodHandle" ∧ yX4_leastRoom.cls ≠ "java/lang/invoke/VarHandle" ∧ (parseMethodDescriptor yX4_leastRoom.desc).map (fun d => d.parameters.length) = some 0 := by decide +kernel

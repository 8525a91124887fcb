set_option maxHeartbeats 4000000 in
set_option maxRecDepth 100000 in
theorem c4_begin (l : Launch) (hlS : l.stackTraces = false) (dC : Nat → ClassId) (dI : Nat → Nat → Nat) (cs : Nat → ClassId) (a : Nat → Nat) (sz : Nat) (y : BrS) (p0 : Int) (res : Int × Int × BrS) (hf : f4_begin y p0 = some res) : vx_Met l yX4_begin wsX4_begin ({ frames := 6, cells := 1, slots := 6, locals := 82 } : Room) (va_Pc [.ref (a 0), .int (iI p0)] (xPX (dC, dI) vwCl ((w4 cs a y).flatten) (xT cs) sz)) (xQx (dC, dI) vwCl ((w4 cs a y).flatten) ((w4 cs a res.2.2).flatten) sz res.1 res.2.1) (xXx (dC, dI) vwCl ((w4 cs a y).flatten) sz res.1) 1 6 (va_A ((w4 cs a y).flatten) sz) := by
  refine vx_ofW (cc := cX4_begin) (maxL := 3) (ret := (some .int)) (by decide) rfl ?_
  intro p e s m args below meth c s₁ B hml htb hv
  obtain ⟨rfl, ⟨hsz, hP, hK, hD0⟩, hTh⟩ := hv
  have hx := B.exec
  have hb := B.bytes
  have hr := B.returns
  have hts := atoms_spec (ws := wsX4_begin) B.pre
  have hown : s.vm.findClass RX4 = some m.cls := findClass_of_methodNamed B.named
  have hlocks := B.notSynchronized
  have hE1 : ∀ w ∈ (vx_atS RX4 37 "java/lang/IllegalArgumentException" x_exn).filter goodWord, w ∈ wsX4_begin := by decide +kernel
  have hin4 : ∀ w ∈ wsX40, w ∈ wsX4_begin := by decide +kernel
  subst hsz
  have hD := hD0.self (sz := s.heap.size)
  have hA : ∀ z9 : Nat, s.heap.size ≤ z9 → va_A ((w4 cs a y).flatten) s.heap.size z9 := fun z9 h => Or.inr h
  have hS : va_S (va_A ((w4 cs a y).flatten) s.heap.size) s.heap s.heap [] := va_S.rf
  have hl := lv_entry [.ref (a 0), .int (iI p0)] (n := 3) (Nat.le_of_ble_eq_true rfl)
  rw [lg_entry_eq]
  generalize (lg_sl [.ref (a 0), .int (iI p0)] ++ List.replicate (3 - (lg_sl [.ref (a 0), .int (iI p0)]).length) Slot.unset).toArray = ls at hl ⊢
  have hl : lv_has ls 3 [(0, .ref (a 0)), (1, .int (iI p0))] := hl
  unfold f4_begin at hf
  refine lv_iload_n hx hb dX4_begin_0 rfl (lv_at hl 1 rfl) ?_
  refine xk_iconst hx hb dX4_begin_1 ?_
  obtain ⟨c1a, c1b, c1t, c1f⟩ := x_ltE hf
  refine xk_icmp_lt (tgt := 11) hx hb c1a c1b dX4_begin_2 (by decide) (fun c1 => ?_) (fun c1 => ?_)
  · have hf := c1t c1
    obtain rfl := Option.some.inj hf
    obtain ⟨sa9, hsa⟩ := hTh.2.2.2 (35, "room is out of range") (by decide)
    exact vx_throwS (own := RX4) (cls := "java/lang/IllegalArgumentException") (names := x_exn) (ik := 33) (is := 35) (ic := 37) (text := "room is out of range") hx hb hlS hown (by decide) (by decide) (hts (.classLink RX4 33 "java/lang/IllegalArgumentException") (by decide +kernel)) (hts (.initialized "java/lang/IllegalArgumentException") (by decide +kernel)) hsa (vx_hat (fun w hw => hts w (hE1 w hw)) xn_1 (fun w hw => va_Nw.use (x_ont_1 w hw) (hTh.1 w (x_sub_1 w hw)))) xg_1 hTh.2.1 hTh.2.2.1 hS (hl.1.trans hml.symm) dX4_begin_11 dX4_begin_14 dX4_begin_15 dX4_begin_17 dX4_begin_20 (fun x hx9 => (htb x hx9).elim) (Nat.le_of_ble_eq_true rfl) (Nat.le_of_ble_eq_true rfl) (Nat.le_of_ble_eq_true rfl) (Nat.le_of_ble_eq_true rfl) hlocks (fun t hvm hz hk => xe_thx (show ¬ ((1 : Int) = 0) by decide) rfl hP hS hz hk) hS.2.2 (Nat.le_refl _) (Nat.le_refl _)
  · have hf := c1f c1
    refine lv_iload_n hx hb dX4_begin_5 rfl (lv_at hl 1 rfl) ?_
    refine xk_bipush hx hb dX4_begin_6 (by decide) ?_
    obtain ⟨c2a, c2b, c2t, c2f⟩ := x_ltE hf
    refine xk_icmp_le (tgt := 21) hx hb c2b c2a dX4_begin_8 (by decide) (fun c2 => ?_) (fun c2 => ?_)
    · have hf := c2t c2
      obtain rfl := Option.some.inj hf
      obtain ⟨sa9, hsa⟩ := hTh.2.2.2 (35, "room is out of range") (by decide)
      exact vx_throwS (own := RX4) (cls := "java/lang/IllegalArgumentException") (names := x_exn) (ik := 33) (is := 35) (ic := 37) (text := "room is out of range") hx hb hlS hown (by decide) (by decide) (hts (.classLink RX4 33 "java/lang/IllegalArgumentException") (by decide +kernel)) (hts (.initialized "java/lang/IllegalArgumentException") (by decide +kernel)) hsa (vx_hat (fun w hw => hts w (hE1 w hw)) xn_1 (fun w hw => va_Nw.use (x_ont_1 w hw) (hTh.1 w (x_sub_1 w hw)))) xg_1 hTh.2.1 hTh.2.2.1 hS (hl.1.trans hml.symm) dX4_begin_11 dX4_begin_14 dX4_begin_15 dX4_begin_17 dX4_begin_20 (fun x hx9 => (htb x hx9).elim) (Nat.le_of_ble_eq_true rfl) (Nat.le_of_ble_eq_true rfl) (Nat.le_of_ble_eq_true rfl) (Nat.le_of_ble_eq_true rfl) hlocks (fun t hvm hz hk => xe_thx (show ¬ ((1 : Int) = 0) by decide) rfl hP hS hz hk) hS.2.2 (Nat.le_refl _) (Nat.le_refl _)
    · have hf := c2f c2
      refine lv_aload_n hx hb dX4_begin_21 rfl (lv_at hl 0 rfl) ?_
      refine va_get (D := (dC, dI)) (ci := 4) (v := .ref (a 31)) (C := RX4) (T := TX4) (N := 4) hx hb hts hin4 hown hK hP 0 rfl rfl 2 (by decide) (hts (.fieldLink RX4 22 "BoatRuns" "history" "LBoatRuns$History;") (by decide +kernel)) (fun _ h9 => h9) rfl dX4_begin_22 ?_
      refine lv_aload_n hx hb dX4_begin_25 rfl (lv_at hl 0 rfl) ?_
      refine va_get (D := (dC, dI)) (ci := 4) (v := .ref (a 1)) (C := RX4) (T := TX4) (N := 4) hx hb hts hin4 hown hK hP 0 rfl rfl 0 (by decide) (hts (.fieldLink RX4 10 "BoatRuns" "boat" "LBoatRuns$Boat;") (by decide +kernel)) (fun _ h9 => h9) rfl dX4_begin_26 ?_
      obtain ⟨h3, eh3, hf⟩ := x_bind hf
      refine xf_wv (As := [.ref (a 1)]) (rest := []) (wcs := w1 cs (x_sh a 31) (g4_hi y) ++ [w0 cs (x_sh a 1) (g4_bo y)]) (w1s := w1 cs (x_sh a 31) h3 ++ [w0 cs (x_sh a 1) (g4_bo y)]) ⟨hx, hb, hml, hown, hts⟩ (c1_save l dC dI cs (x_sh a 31) (x_sh a 1) _ (g4_hi y) (g4_bo y)  _ eh3) (cwV 1 hts gX4_begin_X1_save rfl rfl rfl cdX1_save ⟨Nat.le_of_ble_eq_true rfl, Nat.le_of_ble_eq_true rfl⟩) hK hP (x_addrF hD rfl) hS hA [3, 4, 5, 6, 7, 8, 1] rfl rfl rfl (by decide) rfl rfl rfl rfl hl.1 rfl (Nat.le_of_ble_eq_true rfl) dX4_begin_29 ⟨Nat.zero_le _, Nat.zero_le _⟩ (fun H locs hP hS => ?_)
      have hP : va_P (dC, dI) vwCl ((w4C cs a (g4_bo y) (g4_tr y) h3 (g4_tx y)).flatten) H := hP
      refine lv_aload_n hx hb dX4_begin_32 rfl (lv_at hl 0 rfl) ?_
      refine va_get (D := (dC, dI)) (ci := 4) (v := .ref (a 1)) (C := RX4) (T := TX4) (N := 4) hx hb hts hin4 hown hK hP 0 rfl rfl 0 (by decide) (hts (.fieldLink RX4 10 "BoatRuns" "boat" "LBoatRuns$Boat;") (by decide +kernel)) (fun _ h9 => h9) rfl dX4_begin_33 ?_
      obtain ⟨v4, ev4, hf⟩ := x_bind hf
      refine xf_ri (As := []) (rest := []) (wcs := [w0 cs (x_sh a 1) (g4_bo y)]) ⟨hx, hb, hml, hown, hts⟩ (c0_loaded l dC dI cs (x_sh a 1) (g4_bo y)  _ ev4) (cwV 0 hts gX4_begin_X0_loaded rfl rfl rfl cdX0_loaded ⟨Nat.le_of_ble_eq_true rfl, Nat.le_of_ble_eq_true rfl⟩) hK hP [1] (by simp only [List.flatten_cons, List.flatten_nil, List.append_nil, List.cons_append, List.nil_append]) rfl rfl rfl rfl hl.1 rfl (Nat.le_of_ble_eq_true rfl) dX4_begin_36 ⟨Nat.zero_le _, Nat.zero_le _⟩ ?_
      refine lv_istore_n (lv' := [(2, .int (iI v4)), (0, .ref (a 0)), (1, .int (iI p0))]) hx hb dX4_begin_39 rfl hl (by decide) rfl (fun ls hl => ?_)
      refine lv_aload_n hx hb dX4_begin_40 rfl (lv_at hl 1 rfl) ?_
      refine va_get (D := (dC, dI)) (ci := 4) (v := .ref (a 1)) (C := RX4) (T := TX4) (N := 4) hx hb hts hin4 hown hK hP 0 rfl rfl 0 (by decide) (hts (.fieldLink RX4 10 "BoatRuns" "boat" "LBoatRuns$Boat;") (by decide +kernel)) (fun _ h9 => h9) rfl dX4_begin_41 ?_
      refine lv_iload_n hx hb dX4_begin_44 rfl (lv_at hl 2 rfl) ?_
      obtain ⟨b5, eb5, hf⟩ := x_bind hf
      refine xf_wv (As := [.int (iI p0)]) (rest := []) (wcs := [w0 cs (x_sh a 1) (g4_bo y)]) (w1s := [w0 cs (x_sh a 1) b5]) ⟨hx, hb, hml, hown, hts⟩ (c0_startAgain l dC dI cs (x_sh a 1) _ (g4_bo y) p0  _ eb5) (cwV 1 hts gX4_begin_X0_startAgain rfl rfl rfl cdX0_startAgain ⟨Nat.le_of_ble_eq_true rfl, Nat.le_of_ble_eq_true rfl⟩) hK hP (x_addrF hD rfl) hS hA [1] (by simp only [List.flatten_cons, List.flatten_nil, List.append_nil, List.cons_append, List.nil_append]) (by simp only [List.flatten_cons, List.flatten_nil, List.append_nil, List.cons_append, List.nil_append]) rfl (by decide) rfl rfl rfl rfl hl.1 rfl (Nat.le_of_ble_eq_true rfl) dX4_begin_45 ⟨Nat.zero_le _, Nat.zero_le _⟩ (fun H locs hP hS => ?_)
      have hP : va_P (dC, dI) vwCl ((w4C cs a b5 (g4_tr y) h3 (g4_tx y)).flatten) H := hP
      refine lv_iload_n hx hb dX4_begin_48 rfl (lv_at hl 0 rfl) ?_
      obtain rfl := Option.some.inj hf
      refine W.widen (k := 1) (n := 6) (by decide) (by decide) ?_
      exact vx_ret (xe_xi hx hb hr hlocks hS hP rfl dX4_begin_49)
theorem cdX4_begin : yX4_begin.cls = RX4 ∧ yX4_begin.cls ≠ "java/lang/invoke/MethodHandle" ∧ yX4_begin.cls ≠ "java/lang/invoke/VarHandle" ∧ (parseMethodDescriptor yX4_begin.desc).map (fun d => d.parameters.length) = some 1 := by decide +kernel

set_option maxHeartbeats 4000000 in
set_option maxRecDepth 100000 in
theorem c4_load (l : Launch) (hlS : l.stackTraces = false) (dC : Nat → ClassId) (dI : Nat → Nat → Nat) (cs : Nat → ClassId) (a : Nat → Nat) (sz : Nat) (y : BrS) (p0 : Int) (p1 : Int) (res : Int × Int × BrS) (hf : f4_load y p0 p1 = some res) : vx_Met l yX4_load wsX4_load ({ frames := 6, cells := 1, slots := 6, locals := 113 } : Room) (va_Pc [.ref (a 0), .int (iI p0), .int (iI p1)] (xPX (dC, dI) vwCl ((w4 cs a y).flatten) (xT cs) sz)) (xQx (dC, dI) vwCl ((w4 cs a y).flatten) ((w4 cs a res.2.2).flatten) sz res.1 res.2.1) (xXx (dC, dI) vwCl ((w4 cs a y).flatten) sz res.1) 1 6 (va_A ((w4 cs a y).flatten) sz) := by
  refine vx_ofW (cc := cX4_load) (maxL := 3) (ret := (some .int)) (by decide) rfl ?_
  intro p e s m args below meth c s₁ B hml htb hv
  obtain ⟨rfl, ⟨hsz, hP, hK, hD0⟩, hTh⟩ := hv
  have hx := B.exec
  have hb := B.bytes
  have hr := B.returns
  have hts := atoms_spec (ws := wsX4_load) B.pre
  have hown : s.vm.findClass RX4 = some m.cls := findClass_of_methodNamed B.named
  have hlocks := B.notSynchronized
  have hE1 : ∀ w ∈ (vx_atS RX4 37 "java/lang/IllegalArgumentException" x_exn).filter goodWord, w ∈ wsX4_load := by decide +kernel
  have hE2 : ∀ w ∈ (vx_atS RX4 62 "java/lang/IllegalStateException" x_exn).filter goodWord, w ∈ wsX4_load := by decide +kernel
  have hin4 : ∀ w ∈ wsX40, w ∈ wsX4_load := by decide +kernel
  subst hsz
  have hD := hD0.self (sz := s.heap.size)
  have hA : ∀ z9 : Nat, s.heap.size ≤ z9 → va_A ((w4 cs a y).flatten) s.heap.size z9 := fun z9 h => Or.inr h
  have hS : va_S (va_A ((w4 cs a y).flatten) s.heap.size) s.heap s.heap [] := va_S.rf
  have hl := lv_entry [.ref (a 0), .int (iI p0), .int (iI p1)] (n := 3) (Nat.le_of_ble_eq_true rfl)
  rw [lg_entry_eq]
  generalize (lg_sl [.ref (a 0), .int (iI p0), .int (iI p1)] ++ List.replicate (3 - (lg_sl [.ref (a 0), .int (iI p0), .int (iI p1)]).length) Slot.unset).toArray = ls at hl ⊢
  have hl : lv_has ls 3 [(0, .ref (a 0)), (1, .int (iI p0)), (2, .int (iI p1))] := hl
  unfold f4_load at hf
  refine lv_iload_n hx hb dX4_load_0 rfl (lv_at hl 1 rfl) ?_
  obtain ⟨c1a, c1b, c1t, c1f⟩ := x_ltE hf
  refine xk_if_lt (tgt := 22) hx hb c1a dX4_load_1 (by decide) (fun c1 => ?_) (fun c1 => ?_)
  · have hf := c1t c1
    obtain rfl := Option.some.inj hf
    obtain ⟨sa9, hsa⟩ := hTh.2.2.2 (52, "key or weight is out of range") (by decide)
    exact vx_throwS (own := RX4) (cls := "java/lang/IllegalArgumentException") (names := x_exn) (ik := 33) (is := 52) (ic := 37) (text := "key or weight is out of range") hx hb hlS hown (by decide) (by decide) (hts (.classLink RX4 33 "java/lang/IllegalArgumentException") (by decide +kernel)) (hts (.initialized "java/lang/IllegalArgumentException") (by decide +kernel)) hsa (vx_hat (fun w hw => hts w (hE1 w hw)) xn_1 (fun w hw => va_Nw.use (x_ont_1 w hw) (hTh.1 w (x_sub_1 w hw)))) xg_1 hTh.2.1 hTh.2.2.1 hS (hl.1.trans hml.symm) dX4_load_22 dX4_load_25 dX4_load_26 dX4_load_28 dX4_load_31 (fun x hx9 => (htb x hx9).elim) (Nat.le_of_ble_eq_true rfl) (Nat.le_of_ble_eq_true rfl) (Nat.le_of_ble_eq_true rfl) (Nat.le_of_ble_eq_true rfl) hlocks (fun t hvm hz hk => xe_thx (show ¬ ((1 : Int) = 0) by decide) rfl hP hS hz hk) hS.2.2 (Nat.le_refl _) (Nat.le_refl _)
  · have hf := c1f c1
    refine lv_iload_n hx hb dX4_load_4 rfl (lv_at hl 1 rfl) ?_
    refine xk_sipush hx hb dX4_load_5 (by decide) ?_
    obtain ⟨c2a, c2b, c2t, c2f⟩ := x_ltE hf
    refine xk_icmp_gt (tgt := 22) hx hb c2b c2a dX4_load_8 (by decide) (fun c2 => ?_) (fun c2 => ?_)
    · have hf := c2t c2
      obtain rfl := Option.some.inj hf
      obtain ⟨sa9, hsa⟩ := hTh.2.2.2 (52, "key or weight is out of range") (by decide)
      exact vx_throwS (own := RX4) (cls := "java/lang/IllegalArgumentException") (names := x_exn) (ik := 33) (is := 52) (ic := 37) (text := "key or weight is out of range") hx hb hlS hown (by decide) (by decide) (hts (.classLink RX4 33 "java/lang/IllegalArgumentException") (by decide +kernel)) (hts (.initialized "java/lang/IllegalArgumentException") (by decide +kernel)) hsa (vx_hat (fun w hw => hts w (hE1 w hw)) xn_1 (fun w hw => va_Nw.use (x_ont_1 w hw) (hTh.1 w (x_sub_1 w hw)))) xg_1 hTh.2.1 hTh.2.2.1 hS (hl.1.trans hml.symm) dX4_load_22 dX4_load_25 dX4_load_26 dX4_load_28 dX4_load_31 (fun x hx9 => (htb x hx9).elim) (Nat.le_of_ble_eq_true rfl) (Nat.le_of_ble_eq_true rfl) (Nat.le_of_ble_eq_true rfl) (Nat.le_of_ble_eq_true rfl) hlocks (fun t hvm hz hk => xe_thx (show ¬ ((1 : Int) = 0) by decide) rfl hP hS hz hk) hS.2.2 (Nat.le_refl _) (Nat.le_refl _)
    · have hf := c2f c2
      refine lv_iload_n hx hb dX4_load_11 rfl (lv_at hl 2 rfl) ?_
      refine xk_iconst hx hb dX4_load_12 ?_
      obtain ⟨c3a, c3b, c3t, c3f⟩ := x_ltE hf
      refine xk_icmp_lt (tgt := 22) hx hb c3a c3b dX4_load_13 (by decide) (fun c3 => ?_) (fun c3 => ?_)
      · have hf := c3t c3
        obtain rfl := Option.some.inj hf
        obtain ⟨sa9, hsa⟩ := hTh.2.2.2 (52, "key or weight is out of range") (by decide)
        exact vx_throwS (own := RX4) (cls := "java/lang/IllegalArgumentException") (names := x_exn) (ik := 33) (is := 52) (ic := 37) (text := "key or weight is out of range") hx hb hlS hown (by decide) (by decide) (hts (.classLink RX4 33 "java/lang/IllegalArgumentException") (by decide +kernel)) (hts (.initialized "java/lang/IllegalArgumentException") (by decide +kernel)) hsa (vx_hat (fun w hw => hts w (hE1 w hw)) xn_1 (fun w hw => va_Nw.use (x_ont_1 w hw) (hTh.1 w (x_sub_1 w hw)))) xg_1 hTh.2.1 hTh.2.2.1 hS (hl.1.trans hml.symm) dX4_load_22 dX4_load_25 dX4_load_26 dX4_load_28 dX4_load_31 (fun x hx9 => (htb x hx9).elim) (Nat.le_of_ble_eq_true rfl) (Nat.le_of_ble_eq_true rfl) (Nat.le_of_ble_eq_true rfl) (Nat.le_of_ble_eq_true rfl) hlocks (fun t hvm hz hk => xe_thx (show ¬ ((1 : Int) = 0) by decide) rfl hP hS hz hk) hS.2.2 (Nat.le_refl _) (Nat.le_refl _)
      · have hf := c3f c3
        refine lv_iload_n hx hb dX4_load_16 rfl (lv_at hl 2 rfl) ?_
        refine xk_bipush hx hb dX4_load_17 (by decide) ?_
        obtain ⟨c4a, c4b, c4t, c4f⟩ := x_ltE hf
        refine xk_icmp_le (tgt := 32) hx hb c4b c4a dX4_load_19 (by decide) (fun c4 => ?_) (fun c4 => ?_)
        · have hf := c4t c4
          obtain rfl := Option.some.inj hf
          obtain ⟨sa9, hsa⟩ := hTh.2.2.2 (52, "key or weight is out of range") (by decide)
          exact vx_throwS (own := RX4) (cls := "java/lang/IllegalArgumentException") (names := x_exn) (ik := 33) (is := 52) (ic := 37) (text := "key or weight is out of range") hx hb hlS hown (by decide) (by decide) (hts (.classLink RX4 33 "java/lang/IllegalArgumentException") (by decide +kernel)) (hts (.initialized "java/lang/IllegalArgumentException") (by decide +kernel)) hsa (vx_hat (fun w hw => hts w (hE1 w hw)) xn_1 (fun w hw => va_Nw.use (x_ont_1 w hw) (hTh.1 w (x_sub_1 w hw)))) xg_1 hTh.2.1 hTh.2.2.1 hS (hl.1.trans hml.symm) dX4_load_22 dX4_load_25 dX4_load_26 dX4_load_28 dX4_load_31 (fun x hx9 => (htb x hx9).elim) (Nat.le_of_ble_eq_true rfl) (Nat.le_of_ble_eq_true rfl) (Nat.le_of_ble_eq_true rfl) (Nat.le_of_ble_eq_true rfl) hlocks (fun t hvm hz hk => xe_thx (show ¬ ((1 : Int) = 0) by decide) rfl hP hS hz hk) hS.2.2 (Nat.le_refl _) (Nat.le_refl _)
        · have hf := c4f c4
          refine lv_aload_n hx hb dX4_load_32 rfl (lv_at hl 0 rfl) ?_
          refine va_get (D := (dC, dI)) (ci := 4) (v := .ref (a 1)) (C := RX4) (T := TX4) (N := 4) hx hb hts hin4 hown hK hP 0 rfl rfl 0 (by decide) (hts (.fieldLink RX4 10 "BoatRuns" "boat" "LBoatRuns$Boat;") (by decide +kernel)) (fun _ h9 => h9) rfl dX4_load_33 ?_
          obtain ⟨v5, ev5, hf⟩ := x_bind hf
          refine xf_ri (As := []) (rest := []) (wcs := [w0 cs (x_sh a 1) (g4_bo y)]) ⟨hx, hb, hml, hown, hts⟩ (c0_allLoaded l dC dI cs (x_sh a 1) (g4_bo y)  _ ev5) (cwV 0 hts gX4_load_X0_allLoaded rfl rfl rfl cdX0_allLoaded ⟨Nat.le_of_ble_eq_true rfl, Nat.le_of_ble_eq_true rfl⟩) hK hP [1] (by simp only [List.flatten_cons, List.flatten_nil, List.append_nil, List.cons_append, List.nil_append]) rfl rfl rfl rfl hl.1 rfl (Nat.le_of_ble_eq_true rfl) dX4_load_36 ⟨Nat.zero_le _, Nat.zero_le _⟩ ?_
          obtain ⟨c6a, c6b, c6t, c6f⟩ := x_eqE hf
          refine xk_if_eq (tgt := 52) hx hb c6a dX4_load_39 (by decide) (fun c6 => ?_) (fun c6 => ?_)
          · have hf := c6t c6
            refine lv_aload_n hx hb dX4_load_52 rfl (lv_at hl 0 rfl) ?_
            refine va_get (D := (dC, dI)) (ci := 4) (v := .ref (a 31)) (C := RX4) (T := TX4) (N := 4) hx hb hts hin4 hown hK hP 0 rfl rfl 2 (by decide) (hts (.fieldLink RX4 22 "BoatRuns" "history" "LBoatRuns$History;") (by decide +kernel)) (fun _ h9 => h9) rfl dX4_load_53 ?_
            refine lv_aload_n hx hb dX4_load_56 rfl (lv_at hl 0 rfl) ?_
            refine va_get (D := (dC, dI)) (ci := 4) (v := .ref (a 1)) (C := RX4) (T := TX4) (N := 4) hx hb hts hin4 hown hK hP 0 rfl rfl 0 (by decide) (hts (.fieldLink RX4 10 "BoatRuns" "boat" "LBoatRuns$Boat;") (by decide +kernel)) (fun _ h9 => h9) rfl dX4_load_57 ?_
            obtain ⟨h7, eh7, hf⟩ := x_bind hf
            refine xf_wv (As := [.ref (a 1)]) (rest := []) (wcs := w1 cs (x_sh a 31) (g4_hi y) ++ [w0 cs (x_sh a 1) (g4_bo y)]) (w1s := w1 cs (x_sh a 31) h7 ++ [w0 cs (x_sh a 1) (g4_bo y)]) ⟨hx, hb, hml, hown, hts⟩ (c1_save l dC dI cs (x_sh a 31) (x_sh a 1) _ (g4_hi y) (g4_bo y)  _ eh7) (cwV 1 hts gX4_load_X1_save rfl rfl rfl cdX1_save ⟨Nat.le_of_ble_eq_true rfl, Nat.le_of_ble_eq_true rfl⟩) hK hP (x_addrF hD rfl) hS hA [3, 4, 5, 6, 7, 8, 1] rfl rfl rfl (by decide) rfl rfl rfl rfl hl.1 rfl (Nat.le_of_ble_eq_true rfl) dX4_load_60 ⟨Nat.zero_le _, Nat.zero_le _⟩ (fun H locs hP hS => ?_)
            have hP : va_P (dC, dI) vwCl ((w4C cs a (g4_bo y) (g4_tr y) h7 (g4_tx y)).flatten) H := hP
            refine lv_aload_n hx hb dX4_load_63 rfl (lv_at hl 0 rfl) ?_
            refine va_get (D := (dC, dI)) (ci := 4) (v := .ref (a 1)) (C := RX4) (T := TX4) (N := 4) hx hb hts hin4 hown hK hP 0 rfl rfl 0 (by decide) (hts (.fieldLink RX4 10 "BoatRuns" "boat" "LBoatRuns$Boat;") (by decide +kernel)) (fun _ h9 => h9) rfl dX4_load_64 ?_
            refine lv_iload_n hx hb dX4_load_67 rfl (lv_at hl 1 rfl) ?_
            refine lv_iload_n hx hb dX4_load_68 rfl (lv_at hl 2 rfl) ?_
            obtain ⟨⟨v9, b8⟩, eb8, hf⟩ := x_bind hf
            refine xf_wi (As := [.int (iI p0), .int (iI p1)]) (rest := []) (wcs := [w0 cs (x_sh a 1) (g4_bo y)]) (w1s := [w0 cs (x_sh a 1) b8]) ⟨hx, hb, hml, hown, hts⟩ (c0_take l dC dI cs (x_sh a 1) _ (g4_bo y) p0 p1  _ eb8) (cwV 2 hts gX4_load_X0_take rfl rfl rfl cdX0_take ⟨Nat.le_of_ble_eq_true rfl, Nat.le_of_ble_eq_true rfl⟩) hK hP (x_addrF hD rfl) hS hA [1] (by simp only [List.flatten_cons, List.flatten_nil, List.append_nil, List.cons_append, List.nil_append]) (by simp only [List.flatten_cons, List.flatten_nil, List.append_nil, List.cons_append, List.nil_append]) rfl (by decide) rfl rfl rfl rfl hl.1 rfl (Nat.le_of_ble_eq_true rfl) dX4_load_69 ⟨Nat.zero_le _, Nat.zero_le _⟩ (fun H locs hP hS => ?_)
            have hP : va_P (dC, dI) vwCl ((w4C cs a b8 (g4_tr y) h7 (g4_tx y)).flatten) H := hP
            obtain rfl := Option.some.inj hf
            refine W.widen (k := 1) (n := 6) (by decide) (by decide) ?_
            exact vx_ret (xe_xi hx hb hr hlocks hS hP rfl dX4_load_72)
          · have hf := c6f c6
            obtain rfl := Option.some.inj hf
            obtain ⟨sa9, hsa⟩ := hTh.2.2.2 (60, "no more parcels can be loaded") (by decide)
            exact vx_throwS (own := RX4) (cls := "java/lang/IllegalStateException") (names := x_exn) (ik := 58) (is := 60) (ic := 62) (text := "no more parcels can be loaded") hx hb hlS hown (by decide) (by decide) (hts (.classLink RX4 58 "java/lang/IllegalStateException") (by decide +kernel)) (hts (.initialized "java/lang/IllegalStateException") (by decide +kernel)) hsa (vx_hat (fun w hw => hts w (hE2 w hw)) xn_2 (fun w hw => va_Nw.use (x_ont_2 w hw) (hTh.1 w (x_sub_2 w hw)))) xg_2 hTh.2.1 hTh.2.2.1 hS (hl.1.trans hml.symm) dX4_load_42 dX4_load_45 dX4_load_46 dX4_load_48 dX4_load_51 (fun x hx9 => (htb x hx9).elim) (Nat.le_of_ble_eq_true rfl) (Nat.le_of_ble_eq_true rfl) (Nat.le_of_ble_eq_true rfl) (Nat.le_of_ble_eq_true rfl) hlocks (fun t hvm hz hk => xe_thx (show ¬ ((2 : Int) = 0) by decide) rfl hP hS hz hk) hS.2.2 (Nat.le_refl _) (Nat.le_refl _)
theorem cdX4_load : yX4_load.cls = RX4 ∧ yX4_load.cls ≠ "java/lang/invoke/MethodHandle" ∧ yX4_load.cls ≠ "java/lang/invoke/VarHandle" ∧ (parseMethodDescriptor yX4_load.desc).map (fun d => d.parameters.length) = some 2 := by decide +kernel

set_option maxHeartbeats 4000000 in
set_option maxRecDepth 100000 in
theorem c4_empty (l : Launch) (dC : Nat → ClassId) (dI : Nat → Nat → Nat) (cs : Nat → ClassId) (a : Nat → Nat) (sz : Nat) (y : BrS) (res : Int × BrS) (hf : f4_empty y = some res) : Met l yX4_empty wsX4_empty ({ frames := 5, cells := 0, slots := 0, locals := 111 } : Room) (va_Pc [.ref (a 0)] (xPW (dC, dI) vwCl ((w4 cs a y).flatten) (xT cs) sz)) (xQi (dC, dI) vwCl ((w4 cs a y).flatten) ((w4 cs a res.2).flatten) sz res.1) 0 0 (va_A ((w4 cs a y).flatten) sz) := by
  refine Met.ofW (cc := cX4_empty) (maxL := 1) (ret := (some .int)) (by decide) rfl ?_
  intro p e s m args below meth c s₁ B hml hv
  obtain ⟨rfl, hsz, hP, hK, hD0⟩ := hv
  have hx := B.exec
  have hb := B.bytes
  have hr := B.returns
  have hts := atoms_spec (ws := wsX4_empty) B.pre
  have hown : s.vm.findClass RX4 = some m.cls := findClass_of_methodNamed B.named
  have hlocks := B.notSynchronized
  have hin4 : ∀ w ∈ wsX40, w ∈ wsX4_empty := by decide +kernel
  subst hsz
  have hD := hD0.self (sz := s.heap.size)
  have hA : ∀ z9 : Nat, s.heap.size ≤ z9 → va_A ((w4 cs a y).flatten) s.heap.size z9 := fun z9 h => Or.inr h
  have hS : va_S (va_A ((w4 cs a y).flatten) s.heap.size) s.heap s.heap [] := va_S.rf
  have hl := lv_entry [.ref (a 0)] (n := 1) (Nat.le_of_ble_eq_true rfl)
  rw [lg_entry_eq]
  generalize (lg_sl [.ref (a 0)] ++ List.replicate (1 - (lg_sl [.ref (a 0)]).length) Slot.unset).toArray = ls at hl ⊢
  have hl : lv_has ls 1 [(0, .ref (a 0))] := hl
  unfold f4_empty at hf
  refine lv_aload_n hx hb dX4_empty_0 rfl (lv_at hl 0 rfl) ?_
  refine va_get (D := (dC, dI)) (ci := 4) (v := .ref (a 31)) (C := RX4) (T := TX4) (N := 4) hx hb hts hin4 hown hK hP 0 rfl rfl 2 (by decide) (hts (.fieldLink RX4 22 "BoatRuns" "history" "LBoatRuns$History;") (by decide +kernel)) (fun _ h9 => h9) rfl dX4_empty_1 ?_
  refine lv_aload_n hx hb dX4_empty_4 rfl (lv_at hl 0 rfl) ?_
  refine va_get (D := (dC, dI)) (ci := 4) (v := .ref (a 1)) (C := RX4) (T := TX4) (N := 4) hx hb hts hin4 hown hK hP 0 rfl rfl 0 (by decide) (hts (.fieldLink RX4 10 "BoatRuns" "boat" "LBoatRuns$Boat;") (by decide +kernel)) (fun _ h9 => h9) rfl dX4_empty_5 ?_
  obtain ⟨h1, eh1, hf⟩ := x_bind hf
  refine xf_wv (As := [.ref (a 1)]) (rest := []) (wcs := w1 cs (x_sh a 31) (g4_hi y) ++ [w0 cs (x_sh a 1) (g4_bo y)]) (w1s := w1 cs (x_sh a 31) h1 ++ [w0 cs (x_sh a 1) (g4_bo y)]) ⟨hx, hb, hml, hown, hts⟩ (c1_save l dC dI cs (x_sh a 31) (x_sh a 1) _ (g4_hi y) (g4_bo y)  _ eh1) (cwV 1 hts gX4_empty_X1_save rfl rfl rfl cdX1_save ⟨Nat.le_of_ble_eq_true rfl, Nat.le_of_ble_eq_true rfl⟩) hK hP (x_addrF hD rfl) hS hA [3, 4, 5, 6, 7, 8, 1] rfl rfl rfl (by decide) rfl rfl rfl rfl hl.1 rfl (Nat.le_of_ble_eq_true rfl) dX4_empty_8 ⟨Nat.zero_le _, Nat.zero_le _⟩ (fun H locs hP hS => ?_)
  have hP : va_P (dC, dI) vwCl ((w4C cs a (g4_bo y) (g4_tr y) h1 (g4_tx y)).flatten) H := hP
  refine lv_aload_n hx hb dX4_empty_11 rfl (lv_at hl 0 rfl) ?_
  refine va_get (D := (dC, dI)) (ci := 4) (v := .ref (a 1)) (C := RX4) (T := TX4) (N := 4) hx hb hts hin4 hown hK hP 0 rfl rfl 0 (by decide) (hts (.fieldLink RX4 10 "BoatRuns" "boat" "LBoatRuns$Boat;") (by decide +kernel)) (fun _ h9 => h9) rfl dX4_empty_12 ?_
  obtain ⟨⟨v3, b2⟩, eb2, hf⟩ := x_bind hf
  refine xf_wi (As := []) (rest := []) (wcs := [w0 cs (x_sh a 1) (g4_bo y)]) (w1s := [w0 cs (x_sh a 1) b2]) ⟨hx, hb, hml, hown, hts⟩ (c0_throwAll l dC dI cs (x_sh a 1) _ (g4_bo y)  _ eb2) (cwV 0 hts gX4_empty_X0_throwAll rfl rfl rfl cdX0_throwAll ⟨Nat.le_of_ble_eq_true rfl, Nat.le_of_ble_eq_true rfl⟩) hK hP (x_addrF hD rfl) hS hA [1] (by simp only [List.flatten_cons, List.flatten_nil, List.append_nil, List.cons_append, List.nil_append]) (by simp only [List.flatten_cons, List.flatten_nil, List.append_nil, List.cons_append, List.nil_append]) rfl (by decide) rfl rfl rfl rfl hl.1 rfl (Nat.le_of_ble_eq_true rfl) dX4_empty_15 ⟨Nat.zero_le _, Nat.zero_le _⟩ (fun H locs hP hS => ?_)
  have hP : va_P (dC, dI) vwCl ((w4C cs a b2 (g4_tr y) h1 (g4_tx y)).flatten) H := hP
  obtain rfl := Option.some.inj hf
  exact xe_wi hx hb hr hlocks hS hP dX4_empty_18
theorem cdX4_empty : yX4_empty.cls = RX4 ∧ yX4_empty.cls ≠ "java/lang/invoke/MethodHandle" ∧ yX4_empty.cls ≠ "java/lang/invoke/VarHandle" ∧ (parseMethodDescriptor yX4_empty.desc).map (fun d => d.parameters.length) = some 0 := by decide +kernel

set_option maxHeartbeats 4000000 in
set_option maxRecDepth 100000 in
theorem c4_merge (l : Launch) (hlS : l.stackTraces = false) (dC : Nat → ClassId) (dI : Nat → Nat → Nat) (cs : Nat → ClassId) (a : Nat → Nat) (sz : Nat) (y : BrS) (p0 : Int) (p1 : Int) (res : Int × Int × BrS) (hf : f4_merge y p0 p1 = some res) : vx_Met l yX4_merge wsX4_merge ({ frames := 6, cells := 1, slots := 6, locals := 82 } : Room) (va_Pc [.ref (a 0), .int (iI p0), .int (iI p1)] (xPX (dC, dI) vwCl ((w4 cs a y).flatten) (xT cs) sz)) (xQx (dC, dI) vwCl ((w4 cs a y).flatten) ((w4 cs a res.2.2).flatten) sz res.1 res.2.1) (xXx (dC, dI) vwCl ((w4 cs a y).flatten) sz res.1) 1 6 (va_A ((w4 cs a y).flatten) sz) := by
  refine vx_ofW (cc := cX4_merge) (maxL := 3) (ret := (some .int)) (by decide) rfl ?_
  intro p e s m args below meth c s₁ B hml htb hv
  obtain ⟨rfl, ⟨hsz, hP, hK, hD0⟩, hTh⟩ := hv
  have hx := B.exec
  have hb := B.bytes
  have hr := B.returns
  have hts := atoms_spec (ws := wsX4_merge) B.pre
  have hown : s.vm.findClass RX4 = some m.cls := findClass_of_methodNamed B.named
  have hlocks := B.notSynchronized
  have hE1 : ∀ w ∈ (vx_atS RX4 37 "java/lang/IllegalArgumentException" x_exn).filter goodWord, w ∈ wsX4_merge := by decide +kernel
  have hE3 : ∀ w ∈ (vx_atS RX4 85 "java/util/NoSuchElementException" x_exn).filter goodWord, w ∈ wsX4_merge := by decide +kernel
  have hin4 : ∀ w ∈ wsX40, w ∈ wsX4_merge := by decide +kernel
  subst hsz
  have hD := hD0.self (sz := s.heap.size)
  have hA : ∀ z9 : Nat, s.heap.size ≤ z9 → va_A ((w4 cs a y).flatten) s.heap.size z9 := fun z9 h => Or.inr h
  have hS : va_S (va_A ((w4 cs a y).flatten) s.heap.size) s.heap s.heap [] := va_S.rf
  have hl := lv_entry [.ref (a 0), .int (iI p0), .int (iI p1)] (n := 3) (Nat.le_of_ble_eq_true rfl)
  rw [lg_entry_eq]
  generalize (lg_sl [.ref (a 0), .int (iI p0), .int (iI p1)] ++ List.replicate (3 - (lg_sl [.ref (a 0), .int (iI p0), .int (iI p1)]).length) Slot.unset).toArray = ls at hl ⊢
  have hl : lv_has ls 3 [(0, .ref (a 0)), (1, .int (iI p0)), (2, .int (iI p1))] := hl
  unfold f4_merge at hf
  refine lv_aload_n hx hb dX4_merge_0 rfl (lv_at hl 0 rfl) ?_
  refine va_get (D := (dC, dI)) (ci := 4) (v := .ref (a 1)) (C := RX4) (T := TX4) (N := 4) hx hb hts hin4 hown hK hP 0 rfl rfl 0 (by decide) (hts (.fieldLink RX4 10 "BoatRuns" "boat" "LBoatRuns$Boat;") (by decide +kernel)) (fun _ h9 => h9) rfl dX4_merge_1 ?_
  refine lv_iload_n hx hb dX4_merge_4 rfl (lv_at hl 1 rfl) ?_
  obtain ⟨v1, ev1, hf⟩ := x_bind hf
  refine xf_ri (As := [.int (iI p0)]) (rest := []) (wcs := [w0 cs (x_sh a 1) (g4_bo y)]) ⟨hx, hb, hml, hown, hts⟩ (c0_hasRun l dC dI cs (x_sh a 1) (g4_bo y) p0  _ ev1) (cwV 1 hts gX4_merge_X0_hasRun rfl rfl rfl cdX0_hasRun ⟨Nat.le_of_ble_eq_true rfl, Nat.le_of_ble_eq_true rfl⟩) hK hP [1] (by simp only [List.flatten_cons, List.flatten_nil, List.append_nil, List.cons_append, List.nil_append]) rfl rfl rfl rfl hl.1 rfl (Nat.le_of_ble_eq_true rfl) dX4_merge_5 ⟨Nat.zero_le _, Nat.zero_le _⟩ ?_
  obtain ⟨c2a, c2b, c2t, c2f⟩ := x_eqE hf
  refine xk_if_eq (tgt := 22) hx hb c2a dX4_merge_8 (by decide) (fun c2 => ?_) (fun c2 => ?_)
  · have hf := c2t c2
    obtain rfl := Option.some.inj hf
    obtain ⟨sa9, hsa⟩ := hTh.2.2.2 (83, "there is no such run") (by decide)
    exact vx_throwS (own := RX4) (cls := "java/util/NoSuchElementException") (names := x_exn) (ik := 81) (is := 83) (ic := 85) (text := "there is no such run") hx hb hlS hown (by decide) (by decide) (hts (.classLink RX4 81 "java/util/NoSuchElementException") (by decide +kernel)) (hts (.initialized "java/util/NoSuchElementException") (by decide +kernel)) hsa (vx_hat (fun w hw => hts w (hE3 w hw)) xn_3 (fun w hw => va_Nw.use (x_ont_3 w hw) (hTh.1 w (x_sub_3 w hw)))) xg_3 hTh.2.1 hTh.2.2.1 hS (hl.1.trans hml.symm) dX4_merge_22 dX4_merge_25 dX4_merge_26 dX4_merge_28 dX4_merge_31 (fun x hx9 => (htb x hx9).elim) (Nat.le_of_ble_eq_true rfl) (Nat.le_of_ble_eq_true rfl) (Nat.le_of_ble_eq_true rfl) (Nat.le_of_ble_eq_true rfl) hlocks (fun t hvm hz hk => xe_thx (show ¬ ((3 : Int) = 0) by decide) rfl hP hS hz hk) hS.2.2 (Nat.le_refl _) (Nat.le_refl _)
  · have hf := c2f c2
    refine lv_aload_n hx hb dX4_merge_11 rfl (lv_at hl 0 rfl) ?_
    refine va_get (D := (dC, dI)) (ci := 4) (v := .ref (a 1)) (C := RX4) (T := TX4) (N := 4) hx hb hts hin4 hown hK hP 0 rfl rfl 0 (by decide) (hts (.fieldLink RX4 10 "BoatRuns" "boat" "LBoatRuns$Boat;") (by decide +kernel)) (fun _ h9 => h9) rfl dX4_merge_12 ?_
    refine lv_iload_n hx hb dX4_merge_15 rfl (lv_at hl 2 rfl) ?_
    obtain ⟨v3, ev3, hf⟩ := x_bind hf
    refine xf_ri (As := [.int (iI p1)]) (rest := []) (wcs := [w0 cs (x_sh a 1) (g4_bo y)]) ⟨hx, hb, hml, hown, hts⟩ (c0_hasRun l dC dI cs (x_sh a 1) (g4_bo y) p1  _ ev3) (cwV 1 hts gX4_merge_X0_hasRun rfl rfl rfl cdX0_hasRun ⟨Nat.le_of_ble_eq_true rfl, Nat.le_of_ble_eq_true rfl⟩) hK hP [1] (by simp only [List.flatten_cons, List.flatten_nil, List.append_nil, List.cons_append, List.nil_append]) rfl rfl rfl rfl hl.1 rfl (Nat.le_of_ble_eq_true rfl) dX4_merge_16 ⟨Nat.zero_le _, Nat.zero_le _⟩ ?_
    obtain ⟨c4a, c4b, c4t, c4f⟩ := x_eqE hf
    refine xk_if_ne (tgt := 32) hx hb c4a dX4_merge_19 (by decide) (fun c4 => ?_) (fun c4 => ?_)
    · have hf := c4t c4
      obtain rfl := Option.some.inj hf
      obtain ⟨sa9, hsa⟩ := hTh.2.2.2 (83, "there is no such run") (by decide)
      exact vx_throwS (own := RX4) (cls := "java/util/NoSuchElementException") (names := x_exn) (ik := 81) (is := 83) (ic := 85) (text := "there is no such run") hx hb hlS hown (by decide) (by decide) (hts (.classLink RX4 81 "java/util/NoSuchElementException") (by decide +kernel)) (hts (.initialized "java/util/NoSuchElementException") (by decide +kernel)) hsa (vx_hat (fun w hw => hts w (hE3 w hw)) xn_3 (fun w hw => va_Nw.use (x_ont_3 w hw) (hTh.1 w (x_sub_3 w hw)))) xg_3 hTh.2.1 hTh.2.2.1 hS (hl.1.trans hml.symm) dX4_merge_22 dX4_merge_25 dX4_merge_26 dX4_merge_28 dX4_merge_31 (fun x hx9 => (htb x hx9).elim) (Nat.le_of_ble_eq_true rfl) (Nat.le_of_ble_eq_true rfl) (Nat.le_of_ble_eq_true rfl) (Nat.le_of_ble_eq_true rfl) hlocks (fun t hvm hz hk => xe_thx (show ¬ ((3 : Int) = 0) by decide) rfl hP hS hz hk) hS.2.2 (Nat.le_refl _) (Nat.le_refl _)
    · have hf := c4f c4
      refine lv_iload_n hx hb dX4_merge_32 rfl (lv_at hl 1 rfl) ?_
      refine lv_iload_n hx hb dX4_merge_33 rfl (lv_at hl 2 rfl) ?_
      obtain ⟨c5a, c5b, c5t, c5f⟩ := x_eqE hf
      refine xk_icmp_ne (tgt := 47) hx hb c5a c5b dX4_merge_34 (by decide) (fun c5 => ?_) (fun c5 => ?_)
      · have hf := c5t c5
        obtain rfl := Option.some.inj hf
        obtain ⟨sa9, hsa⟩ := hTh.2.2.2 (86, "both runs are the same") (by decide)
        exact vx_throwS (own := RX4) (cls := "java/lang/IllegalArgumentException") (names := x_exn) (ik := 33) (is := 86) (ic := 37) (text := "both runs are the same") hx hb hlS hown (by decide) (by decide) (hts (.classLink RX4 33 "java/lang/IllegalArgumentException") (by decide +kernel)) (hts (.initialized "java/lang/IllegalArgumentException") (by decide +kernel)) hsa (vx_hat (fun w hw => hts w (hE1 w hw)) xn_1 (fun w hw => va_Nw.use (x_ont_1 w hw) (hTh.1 w (x_sub_1 w hw)))) xg_1 hTh.2.1 hTh.2.2.1 hS (hl.1.trans hml.symm) dX4_merge_37 dX4_merge_40 dX4_merge_41 dX4_merge_43 dX4_merge_46 (fun x hx9 => (htb x hx9).elim) (Nat.le_of_ble_eq_true rfl) (Nat.le_of_ble_eq_true rfl) (Nat.le_of_ble_eq_true rfl) (Nat.le_of_ble_eq_true rfl) hlocks (fun t hvm hz hk => xe_thx (show ¬ ((1 : Int) = 0) by decide) rfl hP hS hz hk) hS.2.2 (Nat.le_refl _) (Nat.le_refl _)
      · have hf := c5f c5
        refine lv_aload_n hx hb dX4_merge_47 rfl (lv_at hl 0 rfl) ?_
        refine va_get (D := (dC, dI)) (ci := 4) (v := .ref (a 31)) (C := RX4) (T := TX4) (N := 4) hx hb hts hin4 hown hK hP 0 rfl rfl 2 (by decide) (hts (.fieldLink RX4 22 "BoatRuns" "history" "LBoatRuns$History;") (by decide +kernel)) (fun _ h9 => h9) rfl dX4_merge_48 ?_
        refine lv_aload_n hx hb dX4_merge_51 rfl (lv_at hl 0 rfl) ?_
        refine va_get (D := (dC, dI)) (ci := 4) (v := .ref (a 1)) (C := RX4) (T := TX4) (N := 4) hx hb hts hin4 hown hK hP 0 rfl rfl 0 (by decide) (hts (.fieldLink RX4 10 "BoatRuns" "boat" "LBoatRuns$Boat;") (by decide +kernel)) (fun _ h9 => h9) rfl dX4_merge_52 ?_
        obtain ⟨h6, eh6, hf⟩ := x_bind hf
        refine xf_wv (As := [.ref (a 1)]) (rest := []) (wcs := w1 cs (x_sh a 31) (g4_hi y) ++ [w0 cs (x_sh a 1) (g4_bo y)]) (w1s := w1 cs (x_sh a 31) h6 ++ [w0 cs (x_sh a 1) (g4_bo y)]) ⟨hx, hb, hml, hown, hts⟩ (c1_save l dC dI cs (x_sh a 31) (x_sh a 1) _ (g4_hi y) (g4_bo y)  _ eh6) (cwV 1 hts gX4_merge_X1_save rfl rfl rfl cdX1_save ⟨Nat.le_of_ble_eq_true rfl, Nat.le_of_ble_eq_true rfl⟩) hK hP (x_addrF hD rfl) hS hA [3, 4, 5, 6, 7, 8, 1] rfl rfl rfl (by decide) rfl rfl rfl rfl hl.1 rfl (Nat.le_of_ble_eq_true rfl) dX4_merge_55 ⟨Nat.zero_le _, Nat.zero_le _⟩ (fun H locs hP hS => ?_)
        have hP : va_P (dC, dI) vwCl ((w4C cs a (g4_bo y) (g4_tr y) h6 (g4_tx y)).flatten) H := hP
        refine lv_aload_n hx hb dX4_merge_58 rfl (lv_at hl 0 rfl) ?_
        refine va_get (D := (dC, dI)) (ci := 4) (v := .ref (a 1)) (C := RX4) (T := TX4) (N := 4) hx hb hts hin4 hown hK hP 0 rfl rfl 0 (by decide) (hts (.fieldLink RX4 10 "BoatRuns" "boat" "LBoatRuns$Boat;") (by decide +kernel)) (fun _ h9 => h9) rfl dX4_merge_59 ?_
        refine lv_iload_n hx hb dX4_merge_62 rfl (lv_at hl 1 rfl) ?_
        refine lv_iload_n hx hb dX4_merge_63 rfl (lv_at hl 2 rfl) ?_
        obtain ⟨⟨v8, b7⟩, eb7, hf⟩ := x_bind hf
        refine xf_wi (As := [.int (iI p0), .int (iI p1)]) (rest := []) (wcs := [w0 cs (x_sh a 1) (g4_bo y)]) (w1s := [w0 cs (x_sh a 1) b7]) ⟨hx, hb, hml, hown, hts⟩ (c0_join l dC dI cs (x_sh a 1) _ (g4_bo y) p0 p1  _ eb7) (cwV 2 hts gX4_merge_X0_join rfl rfl rfl cdX0_join ⟨Nat.le_of_ble_eq_true rfl, Nat.le_of_ble_eq_true rfl⟩) hK hP (x_addrF hD rfl) hS hA [1] (by simp only [List.flatten_cons, List.flatten_nil, List.append_nil, List.cons_append, List.nil_append]) (by simp only [List.flatten_cons, List.flatten_nil, List.append_nil, List.cons_append, List.nil_append]) rfl (by decide) rfl rfl rfl rfl hl.1 rfl (Nat.le_of_ble_eq_true rfl) dX4_merge_64 ⟨Nat.zero_le _, Nat.zero_le _⟩ (fun H locs hP hS => ?_)
        have hP : va_P (dC, dI) vwCl ((w4C cs a b7 (g4_tr y) h6 (g4_tx y)).flatten) H := hP
        obtain rfl := Option.some.inj hf
        refine W.widen (k := 1) (n := 6) (by decide) (by decide) ?_
        exact vx_ret (xe_xi hx hb hr hlocks hS hP rfl dX4_merge_67)
theorem cdX4_merge : yX4_merge.cls = RX4 ∧ yX4_merge.cls ≠ "java/lang/invoke/MethodHandle" ∧ yX4_merge.cls ≠ "java/lang/invoke/VarHandle" ∧ (parseMethodDescriptor yX4_merge.desc).map (fun d => d.parameters.length) = some 2 := by decide +kernel

set_option maxHeartbeats 4000000 in
set_option maxRecDepth 100000 in
theorem c4_mergeLightest (l : Launch) (hlS : l.stackTraces = false) (dC : Nat → ClassId) (dI : Nat → Nat → Nat) (cs : Nat → ClassId) (a : Nat → Nat) (sz : Nat) (y : BrS) (res : Int × Int × BrS) (hf : f4_mergeLightest y = some res) : vx_Met l yX4_mergeLightest wsX4_mergeLightest ({ frames := 6, cells := 1, slots := 6, locals := 96 } : Room) (va_Pc [.ref (a 0)] (xPX (dC, dI) vwCl ((w4 cs a y).flatten) (xT cs) sz)) (xQx (dC, dI) vwCl ((w4 cs a y).flatten) ((w4 cs a res.2.2).flatten) sz res.1 res.2.1) (xXx (dC, dI) vwCl ((w4 cs a y).flatten) sz res.1) 1 6 (va_A ((w4 cs a y).flatten) sz) := by
  refine vx_ofW (cc := cX4_mergeLightest) (maxL := 1) (ret := (some .int)) (by decide) rfl ?_
  intro p e s m args below meth c s₁ B hml htb hv
  obtain ⟨rfl, ⟨hsz, hP, hK, hD0⟩, hTh⟩ := hv
  have hx := B.exec
  have hb := B.bytes
  have hr := B.returns
  have hts := atoms_spec (ws := wsX4_mergeLightest) B.pre
  have hown : s.vm.findClass RX4 = some m.cls := findClass_of_methodNamed B.named
  have hlocks := B.notSynchronized
  have hE2 : ∀ w ∈ (vx_atS RX4 62 "java/lang/IllegalStateException" x_exn).filter goodWord, w ∈ wsX4_mergeLightest := by decide +kernel
  have hin4 : ∀ w ∈ wsX40, w ∈ wsX4_mergeLightest := by decide +kernel
  subst hsz
  have hD := hD0.self (sz := s.heap.size)
  have hA : ∀ z9 : Nat, s.heap.size ≤ z9 → va_A ((w4 cs a y).flatten) s.heap.size z9 := fun z9 h => Or.inr h
  have hS : va_S (va_A ((w4 cs a y).flatten) s.heap.size) s.heap s.heap [] := va_S.rf
  have hl := lv_entry [.ref (a 0)] (n := 1) (Nat.le_of_ble_eq_true rfl)
  rw [lg_entry_eq]
  generalize (lg_sl [.ref (a 0)] ++ List.replicate (1 - (lg_sl [.ref (a 0)]).length) Slot.unset).toArray = ls at hl ⊢
  have hl : lv_has ls 1 [(0, .ref (a 0))] := hl
  unfold f4_mergeLightest at hf
  refine lv_aload_n hx hb dX4_mergeLightest_0 rfl (lv_at hl 0 rfl) ?_
  refine va_get (D := (dC, dI)) (ci := 4) (v := .ref (a 1)) (C := RX4) (T := TX4) (N := 4) hx hb hts hin4 hown hK hP 0 rfl rfl 0 (by decide) (hts (.fieldLink RX4 10 "BoatRuns" "boat" "LBoatRuns$Boat;") (by decide +kernel)) (fun _ h9 => h9) rfl dX4_mergeLightest_1 ?_
  obtain ⟨v1, ev1, hf⟩ := x_bind hf
  refine xf_ri (As := []) (rest := []) (wcs := [w0 cs (x_sh a 1) (g4_bo y)]) ⟨hx, hb, hml, hown, hts⟩ (c0_runs l dC dI cs (x_sh a 1) (g4_bo y)  _ ev1) (cwV 0 hts gX4_mergeLightest_X0_runs rfl rfl rfl cdX0_runs ⟨Nat.le_of_ble_eq_true rfl, Nat.le_of_ble_eq_true rfl⟩) hK hP [1] (by simp only [List.flatten_cons, List.flatten_nil, List.append_nil, List.cons_append, List.nil_append]) rfl rfl rfl rfl hl.1 rfl (Nat.le_of_ble_eq_true rfl) dX4_mergeLightest_4 ⟨Nat.zero_le _, Nat.zero_le _⟩ ?_
  refine xk_iconst hx hb dX4_mergeLightest_7 ?_
  obtain ⟨c2a, c2b, c2t, c2f⟩ := x_ltE hf
  refine xk_icmp_ge (tgt := 21) hx hb c2a c2b dX4_mergeLightest_8 (by decide) (fun c2 => ?_) (fun c2 => ?_)
  · have hf := c2t c2
    obtain rfl := Option.some.inj hf
    obtain ⟨sa9, hsa⟩ := hTh.2.2.2 (94, "there are fewer than two runs") (by decide)
    exact vx_throwS (own := RX4) (cls := "java/lang/IllegalStateException") (names := x_exn) (ik := 58) (is := 94) (ic := 62) (text := "there are fewer than two runs") hx hb hlS hown (by decide) (by decide) (hts (.classLink RX4 58 "java/lang/IllegalStateException") (by decide +kernel)) (hts (.initialized "java/lang/IllegalStateException") (by decide +kernel)) hsa (vx_hat (fun w hw => hts w (hE2 w hw)) xn_2 (fun w hw => va_Nw.use (x_ont_2 w hw) (hTh.1 w (x_sub_2 w hw)))) xg_2 hTh.2.1 hTh.2.2.1 hS (hl.1.trans hml.symm) dX4_mergeLightest_11 dX4_mergeLightest_14 dX4_mergeLightest_15 dX4_mergeLightest_17 dX4_mergeLightest_20 (fun x hx9 => (htb x hx9).elim) (Nat.le_of_ble_eq_true rfl) (Nat.le_of_ble_eq_true rfl) (Nat.le_of_ble_eq_true rfl) (Nat.le_of_ble_eq_true rfl) hlocks (fun t hvm hz hk => xe_thx (show ¬ ((2 : Int) = 0) by decide) rfl hP hS hz hk) hS.2.2 (Nat.le_refl _) (Nat.le_refl _)
  · have hf := c2f c2
    refine lv_aload_n hx hb dX4_mergeLightest_21 rfl (lv_at hl 0 rfl) ?_
    refine va_get (D := (dC, dI)) (ci := 4) (v := .ref (a 31)) (C := RX4) (T := TX4) (N := 4) hx hb hts hin4 hown hK hP 0 rfl rfl 2 (by decide) (hts (.fieldLink RX4 22 "BoatRuns" "history" "LBoatRuns$History;") (by decide +kernel)) (fun _ h9 => h9) rfl dX4_mergeLightest_22 ?_
    refine lv_aload_n hx hb dX4_mergeLightest_25 rfl (lv_at hl 0 rfl) ?_
    refine va_get (D := (dC, dI)) (ci := 4) (v := .ref (a 1)) (C := RX4) (T := TX4) (N := 4) hx hb hts hin4 hown hK hP 0 rfl rfl 0 (by decide) (hts (.fieldLink RX4 10 "BoatRuns" "boat" "LBoatRuns$Boat;") (by decide +kernel)) (fun _ h9 => h9) rfl dX4_mergeLightest_26 ?_
    obtain ⟨h3, eh3, hf⟩ := x_bind hf
    refine xf_wv (As := [.ref (a 1)]) (rest := []) (wcs := w1 cs (x_sh a 31) (g4_hi y) ++ [w0 cs (x_sh a 1) (g4_bo y)]) (w1s := w1 cs (x_sh a 31) h3 ++ [w0 cs (x_sh a 1) (g4_bo y)]) ⟨hx, hb, hml, hown, hts⟩ (c1_save l dC dI cs (x_sh a 31) (x_sh a 1) _ (g4_hi y) (g4_bo y)  _ eh3) (cwV 1 hts gX4_mergeLightest_X1_save rfl rfl rfl cdX1_save ⟨Nat.le_of_ble_eq_true rfl, Nat.le_of_ble_eq_true rfl⟩) hK hP (x_addrF hD rfl) hS hA [3, 4, 5, 6, 7, 8, 1] rfl rfl rfl (by decide) rfl rfl rfl rfl hl.1 rfl (Nat.le_of_ble_eq_true rfl) dX4_mergeLightest_29 ⟨Nat.zero_le _, Nat.zero_le _⟩ (fun H locs hP hS => ?_)
    have hP : va_P (dC, dI) vwCl ((w4C cs a (g4_bo y) (g4_tr y) h3 (g4_tx y)).flatten) H := hP
    refine lv_aload_n hx hb dX4_mergeLightest_32 rfl (lv_at hl 0 rfl) ?_
    refine va_get (D := (dC, dI)) (ci := 4) (v := .ref (a 1)) (C := RX4) (T := TX4) (N := 4) hx hb hts hin4 hown hK hP 0 rfl rfl 0 (by decide) (hts (.fieldLink RX4 10 "BoatRuns" "boat" "LBoatRuns$Boat;") (by decide +kernel)) (fun _ h9 => h9) rfl dX4_mergeLightest_33 ?_
    obtain ⟨⟨v5, b4⟩, eb4, hf⟩ := x_bind hf
    refine xf_wi (As := []) (rest := []) (wcs := [w0 cs (x_sh a 1) (g4_bo y)]) (w1s := [w0 cs (x_sh a 1) b4]) ⟨hx, hb, hml, hown, hts⟩ (c0_joinLightest l dC dI cs (x_sh a 1) _ (g4_bo y)  _ eb4) (cwV 0 hts gX4_mergeLightest_X0_joinLightest rfl rfl rfl cdX0_joinLightest ⟨Nat.le_of_ble_eq_true rfl, Nat.le_of_ble_eq_true rfl⟩) hK hP (x_addrF hD rfl) hS hA [1] (by simp only [List.flatten_cons, List.flatten_nil, List.append_nil, List.cons_append, List.nil_append]) (by simp only [List.flatten_cons, List.flatten_nil, List.append_nil, List.cons_append, List.nil_append]) rfl (by decide) rfl rfl rfl rfl hl.1 rfl (Nat.le_of_ble_eq_true rfl) dX4_mergeLightest_36 ⟨Nat.zero_le _, Nat.zero_le _⟩ (fun H locs hP hS => ?_)
    have hP : va_P (dC, dI) vwCl ((w4C cs a b4 (g4_tr y) h3 (g4_tx y)).flatten) H := hP
    obtain rfl := Option.some.inj hf
    refine W.widen (k := 1) (n := 6) (by decide) (by decide) ?_
    exact vx_ret (xe_xi hx hb hr hlocks hS hP rfl dX4_mergeLightest_39)
theorem cdX4_mergeLightest : yX4_mergeLightest.cls = RX4 ∧ yX4_mergeLightest.cls ≠ "java/lang/invoke/MethodHandle" ∧ yX4_mergeLightest.cls ≠ "java/lang/invoke/VarHandle" ∧ (parseMethodDescriptor yX4_mergeLightest.desc).map (fun d => d.parameters.length) = some 0 := by decide +kernel

set_option maxHeartbeats 4000000 in
set_option maxRecDepth 100000 in
theorem c4_storm (l : Launch) (hlS : l.stackTraces = false) (dC : Nat → ClassId) (dI : Nat → Nat → Nat) (cs : Nat → ClassId) (a : Nat → Nat) (sz : Nat) (y : BrS) (p0 : Int) (res : Int × Int × BrS) (hf : f4_storm y p0 = some res) : vx_Met l yX4_storm wsX4_storm ({ frames := 6, cells := 1, slots := 6, locals := 116 } : Room) (va_Pc [.ref (a 0), .int (iI p0)] (xPX (dC, dI) vwCl ((w4 cs a y).flatten) (xT cs) sz)) (xQx (dC, dI) vwCl ((w4 cs a y).flatten) ((w4 cs a res.2.2).flatten) sz res.1 res.2.1) (xXx (dC, dI) vwCl ((w4 cs a y).flatten) sz res.1) 1 6 (va_A ((w4 cs a y).flatten) sz) := by
  refine vx_ofW (cc := cX4_storm) (maxL := 2) (ret := (some .int)) (by decide) rfl ?_
  intro p e s m args below meth c s₁ B hml htb hv
  obtain ⟨rfl, ⟨hsz, hP, hK, hD0⟩, hTh⟩ := hv
  have hx := B.exec
  have hb := B.bytes
  have hr := B.returns
  have hts := atoms_spec (ws := wsX4_storm) B.pre
  have hown : s.vm.findClass RX4 = some m.cls := findClass_of_methodNamed B.named
  have hlocks := B.notSynchronized
  have hE1 : ∀ w ∈ (vx_atS RX4 37 "java/lang/IllegalArgumentException" x_exn).filter goodWord, w ∈ wsX4_storm := by decide +kernel
  have hin4 : ∀ w ∈ wsX40, w ∈ wsX4_storm := by decide +kernel
  subst hsz
  have hD := hD0.self (sz := s.heap.size)
  have hA : ∀ z9 : Nat, s.heap.size ≤ z9 → va_A ((w4 cs a y).flatten) s.heap.size z9 := fun z9 h => Or.inr h
  have hS : va_S (va_A ((w4 cs a y).flatten) s.heap.size) s.heap s.heap [] := va_S.rf
  have hl := lv_entry [.ref (a 0), .int (iI p0)] (n := 2) (Nat.le_of_ble_eq_true rfl)
  rw [lg_entry_eq]
  generalize (lg_sl [.ref (a 0), .int (iI p0)] ++ List.replicate (2 - (lg_sl [.ref (a 0), .int (iI p0)]).length) Slot.unset).toArray = ls at hl ⊢
  have hl : lv_has ls 2 [(0, .ref (a 0)), (1, .int (iI p0))] := hl
  unfold f4_storm at hf
  refine lv_iload_n hx hb dX4_storm_0 rfl (lv_at hl 1 rfl) ?_
  refine xk_iconst hx hb dX4_storm_1 ?_
  obtain ⟨c1a, c1b, c1t, c1f⟩ := x_ltE hf
  refine xk_icmp_lt (tgt := 11) hx hb c1a c1b dX4_storm_2 (by decide) (fun c1 => ?_) (fun c1 => ?_)
  · have hf := c1t c1
    obtain rfl := Option.some.inj hf
    obtain ⟨sa9, hsa⟩ := hTh.2.2.2 (99, "force is out of range") (by decide)
    exact vx_throwS (own := RX4) (cls := "java/lang/IllegalArgumentException") (names := x_exn) (ik := 33) (is := 99) (ic := 37) (text := "force is out of range") hx hb hlS hown (by decide) (by decide) (hts (.classLink RX4 33 "java/lang/IllegalArgumentException") (by decide +kernel)) (hts (.initialized "java/lang/IllegalArgumentException") (by decide +kernel)) hsa (vx_hat (fun w hw => hts w (hE1 w hw)) xn_1 (fun w hw => va_Nw.use (x_ont_1 w hw) (hTh.1 w (x_sub_1 w hw)))) xg_1 hTh.2.1 hTh.2.2.1 hS (hl.1.trans hml.symm) dX4_storm_11 dX4_storm_14 dX4_storm_15 dX4_storm_17 dX4_storm_20 (fun x hx9 => (htb x hx9).elim) (Nat.le_of_ble_eq_true rfl) (Nat.le_of_ble_eq_true rfl) (Nat.le_of_ble_eq_true rfl) (Nat.le_of_ble_eq_true rfl) hlocks (fun t hvm hz hk => xe_thx (show ¬ ((1 : Int) = 0) by decide) rfl hP hS hz hk) hS.2.2 (Nat.le_refl _) (Nat.le_refl _)
  · have hf := c1f c1
    refine lv_iload_n hx hb dX4_storm_5 rfl (lv_at hl 1 rfl) ?_
    refine xk_bipush hx hb dX4_storm_6 (by decide) ?_
    obtain ⟨c2a, c2b, c2t, c2f⟩ := x_ltE hf
    refine xk_icmp_le (tgt := 21) hx hb c2b c2a dX4_storm_8 (by decide) (fun c2 => ?_) (fun c2 => ?_)
    · have hf := c2t c2
      obtain rfl := Option.some.inj hf
      obtain ⟨sa9, hsa⟩ := hTh.2.2.2 (99, "force is out of range") (by decide)
      exact vx_throwS (own := RX4) (cls := "java/lang/IllegalArgumentException") (names := x_exn) (ik := 33) (is := 99) (ic := 37) (text := "force is out of range") hx hb hlS hown (by decide) (by decide) (hts (.classLink RX4 33 "java/lang/IllegalArgumentException") (by decide +kernel)) (hts (.initialized "java/lang/IllegalArgumentException") (by decide +kernel)) hsa (vx_hat (fun w hw => hts w (hE1 w hw)) xn_1 (fun w hw => va_Nw.use (x_ont_1 w hw) (hTh.1 w (x_sub_1 w hw)))) xg_1 hTh.2.1 hTh.2.2.1 hS (hl.1.trans hml.symm) dX4_storm_11 dX4_storm_14 dX4_storm_15 dX4_storm_17 dX4_storm_20 (fun x hx9 => (htb x hx9).elim) (Nat.le_of_ble_eq_true rfl) (Nat.le_of_ble_eq_true rfl) (Nat.le_of_ble_eq_true rfl) (Nat.le_of_ble_eq_true rfl) hlocks (fun t hvm hz hk => xe_thx (show ¬ ((1 : Int) = 0) by decide) rfl hP hS hz hk) hS.2.2 (Nat.le_refl _) (Nat.le_refl _)
    · have hf := c2f c2
      refine lv_aload_n hx hb dX4_storm_21 rfl (lv_at hl 0 rfl) ?_
      refine va_get (D := (dC, dI)) (ci := 4) (v := .ref (a 31)) (C := RX4) (T := TX4) (N := 4) hx hb hts hin4 hown hK hP 0 rfl rfl 2 (by decide) (hts (.fieldLink RX4 22 "BoatRuns" "history" "LBoatRuns$History;") (by decide +kernel)) (fun _ h9 => h9) rfl dX4_storm_22 ?_
      refine lv_aload_n hx hb dX4_storm_25 rfl (lv_at hl 0 rfl) ?_
      refine va_get (D := (dC, dI)) (ci := 4) (v := .ref (a 1)) (C := RX4) (T := TX4) (N := 4) hx hb hts hin4 hown hK hP 0 rfl rfl 0 (by decide) (hts (.fieldLink RX4 10 "BoatRuns" "boat" "LBoatRuns$Boat;") (by decide +kernel)) (fun _ h9 => h9) rfl dX4_storm_26 ?_
      obtain ⟨h3, eh3, hf⟩ := x_bind hf
      refine xf_wv (As := [.ref (a 1)]) (rest := []) (wcs := w1 cs (x_sh a 31) (g4_hi y) ++ [w0 cs (x_sh a 1) (g4_bo y)]) (w1s := w1 cs (x_sh a 31) h3 ++ [w0 cs (x_sh a 1) (g4_bo y)]) ⟨hx, hb, hml, hown, hts⟩ (c1_save l dC dI cs (x_sh a 31) (x_sh a 1) _ (g4_hi y) (g4_bo y)  _ eh3) (cwV 1 hts gX4_storm_X1_save rfl rfl rfl cdX1_save ⟨Nat.le_of_ble_eq_true rfl, Nat.le_of_ble_eq_true rfl⟩) hK hP (x_addrF hD rfl) hS hA [3, 4, 5, 6, 7, 8, 1] rfl rfl rfl (by decide) rfl rfl rfl rfl hl.1 rfl (Nat.le_of_ble_eq_true rfl) dX4_storm_29 ⟨Nat.zero_le _, Nat.zero_le _⟩ (fun H locs hP hS => ?_)
      have hP : va_P (dC, dI) vwCl ((w4C cs a (g4_bo y) (g4_tr y) h3 (g4_tx y)).flatten) H := hP
      refine lv_aload_n hx hb dX4_storm_32 rfl (lv_at hl 0 rfl) ?_
      refine va_get (D := (dC, dI)) (ci := 4) (v := .ref (a 1)) (C := RX4) (T := TX4) (N := 4) hx hb hts hin4 hown hK hP 0 rfl rfl 0 (by decide) (hts (.fieldLink RX4 10 "BoatRuns" "boat" "LBoatRuns$Boat;") (by decide +kernel)) (fun _ h9 => h9) rfl dX4_storm_33 ?_
      refine lv_iload_n hx hb dX4_storm_36 rfl (lv_at hl 1 rfl) ?_
      obtain ⟨⟨v5, b4⟩, eb4, hf⟩ := x_bind hf
      refine xf_wi (As := [.int (iI p0)]) (rest := []) (wcs := [w0 cs (x_sh a 1) (g4_bo y)]) (w1s := [w0 cs (x_sh a 1) b4]) ⟨hx, hb, hml, hown, hts⟩ (c0_breakRuns l dC dI cs (x_sh a 1) _ (g4_bo y) p0  _ eb4) (cwV 1 hts gX4_storm_X0_breakRuns rfl rfl rfl cdX0_breakRuns ⟨Nat.le_of_ble_eq_true rfl, Nat.le_of_ble_eq_true rfl⟩) hK hP (x_addrF hD rfl) hS hA [1] (by simp only [List.flatten_cons, List.flatten_nil, List.append_nil, List.cons_append, List.nil_append]) (by simp only [List.flatten_cons, List.flatten_nil, List.append_nil, List.cons_append, List.nil_append]) rfl (by decide) rfl rfl rfl rfl hl.1 rfl (Nat.le_of_ble_eq_true rfl) dX4_storm_37 ⟨Nat.zero_le _, Nat.zero_le _⟩ (fun H locs hP hS => ?_)
      have hP : va_P (dC, dI) vwCl ((w4C cs a b4 (g4_tr y) h3 (g4_tx y)).flatten) H := hP
      obtain rfl := Option.some.inj hf
      refine W.widen (k := 1) (n := 6) (by decide) (by decide) ?_
      exact vx_ret (xe_xi hx hb hr hlocks hS hP rfl dX4_storm_40)
theorem cdX4_storm : yX4_storm.cls = RX4 ∧ yX4_storm.cls ≠ "java/lang/invoke/MethodHandle" ∧ yX4_storm.cls ≠ "java/lang/invoke/VarHandle" ∧ (parseMethodDescriptor yX4_storm.desc).map (fun d => d.parameters.length) = some 1 := by decide +kernel

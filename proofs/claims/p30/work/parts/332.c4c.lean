set_option maxHeartbeats 4000000 in
set_option maxRecDepth 100000 in
theorem c4_value (l : Launch) (hlS : l.stackTraces = false) (dC : Nat → ClassId) (dI : Nat → Nat → Nat) (cs : Nat → ClassId) (a : Nat → Nat) (sz : Nat) (y : BrS) (p0 : Int) (res : Int × Int × BrS) (hf : f4_value y p0 = some res) : vx_Met l yX4_value wsX4_value ({ frames := 6, cells := 1, slots := 6, locals := 82 } : Room) (va_Pc [.ref (a 0), .int (iI p0)] (xPX (dC, dI) vwCl ((w4 cs a y).flatten) (xT cs) sz)) (xQx (dC, dI) vwCl ((w4 cs a y).flatten) ((w4 cs a res.2.2).flatten) sz res.1 res.2.1) (xXx (dC, dI) vwCl ((w4 cs a y).flatten) sz res.1) 1 6 (va_A ((w4 cs a y).flatten) sz) := by
  refine vx_ofW (cc := cX4_value) (maxL := 2) (ret := (some .int)) (by decide) rfl ?_
  intro p e s m args below meth c s₁ B hml htb hv
  obtain ⟨rfl, ⟨hsz, hP, hK, hD0⟩, hTh⟩ := hv
  have hx := B.exec
  have hb := B.bytes
  have hr := B.returns
  have hts := atoms_spec (ws := wsX4_value) B.pre
  have hown : s.vm.findClass RX4 = some m.cls := findClass_of_methodNamed B.named
  have hlocks := B.notSynchronized
  have hE1 : ∀ w ∈ (vx_atS RX4 37 "java/lang/IllegalArgumentException" x_exn).filter goodWord, w ∈ wsX4_value := by decide +kernel
  have hin4 : ∀ w ∈ wsX40, w ∈ wsX4_value := by decide +kernel
  subst hsz
  have hD := hD0.self (sz := s.heap.size)
  have hA : ∀ z9 : Nat, s.heap.size ≤ z9 → va_A ((w4 cs a y).flatten) s.heap.size z9 := fun z9 h => Or.inr h
  have hS : va_S (va_A ((w4 cs a y).flatten) s.heap.size) s.heap s.heap [] := va_S.rf
  have hl := lv_entry [.ref (a 0), .int (iI p0)] (n := 2) (Nat.le_of_ble_eq_true rfl)
  rw [lg_entry_eq]
  generalize (lg_sl [.ref (a 0), .int (iI p0)] ++ List.replicate (2 - (lg_sl [.ref (a 0), .int (iI p0)]).length) Slot.unset).toArray = ls at hl ⊢
  have hl : lv_has ls 2 [(0, .ref (a 0)), (1, .int (iI p0))] := hl
  unfold f4_value at hf
  refine lv_iload_n hx hb dX4_value_0 rfl (lv_at hl 1 rfl) ?_
  obtain ⟨c1a, c1b, c1t, c1f⟩ := x_ltE hf
  refine xk_if_lt (tgt := 10) hx hb c1a dX4_value_1 (by decide) (fun c1 => ?_) (fun c1 => ?_)
  · have hf := c1t c1
    obtain rfl := Option.some.inj hf
    obtain ⟨sa9, hsa⟩ := hTh.2.2.2 (121, "what is out of range") (by decide)
    exact vx_throwS (own := RX4) (cls := "java/lang/IllegalArgumentException") (names := x_exn) (ik := 33) (is := 121) (ic := 37) (text := "what is out of range") hx hb hlS hown (by decide) (by decide) (hts (.classLink RX4 33 "java/lang/IllegalArgumentException") (by decide +kernel)) (hts (.initialized "java/lang/IllegalArgumentException") (by decide +kernel)) hsa (vx_hat (fun w hw => hts w (hE1 w hw)) xn_1 (fun w hw => va_Nw.use (x_ont_1 w hw) (hTh.1 w (x_sub_1 w hw)))) xg_1 hTh.2.1 hTh.2.2.1 hS (hl.1.trans hml.symm) dX4_value_10 dX4_value_13 dX4_value_14 dX4_value_16 dX4_value_19 (fun x hx9 => (htb x hx9).elim) (Nat.le_of_ble_eq_true rfl) (Nat.le_of_ble_eq_true rfl) (Nat.le_of_ble_eq_true rfl) (Nat.le_of_ble_eq_true rfl) hlocks (fun t hvm hz hk => xe_thx (show ¬ ((1 : Int) = 0) by decide) rfl hP hS hz hk) hS.2.2 (Nat.le_refl _) (Nat.le_refl _)
  · have hf := c1f c1
    refine lv_iload_n hx hb dX4_value_4 rfl (lv_at hl 1 rfl) ?_
    refine xk_bipush hx hb dX4_value_5 (by decide) ?_
    obtain ⟨c2a, c2b, c2t, c2f⟩ := x_ltE hf
    refine xk_icmp_lt (tgt := 20) hx hb c2a c2b dX4_value_7 (by decide) (fun c2 => ?_) (fun c2 => ?_)
    · have hf := c2t c2
      refine lv_aload_n hx hb dX4_value_20 rfl (lv_at hl 0 rfl) ?_
      refine va_get (D := (dC, dI)) (ci := 4) (v := .ref (a 1)) (C := RX4) (T := TX4) (N := 4) hx hb hts hin4 hown hK hP 0 rfl rfl 0 (by decide) (hts (.fieldLink RX4 10 "BoatRuns" "boat" "LBoatRuns$Boat;") (by decide +kernel)) (fun _ h9 => h9) rfl dX4_value_21 ?_
      refine lv_iload_n hx hb dX4_value_24 rfl (lv_at hl 1 rfl) ?_
      obtain ⟨v3, ev3, hf⟩ := x_bind hf
      refine xf_ri (As := [.int (iI p0)]) (rest := []) (wcs := [w0 cs (x_sh a 1) (g4_bo y)]) ⟨hx, hb, hml, hown, hts⟩ (c0_number l dC dI cs (x_sh a 1) (g4_bo y) p0  _ ev3) (cwV 1 hts gX4_value_X0_number rfl rfl rfl cdX0_number ⟨Nat.le_of_ble_eq_true rfl, Nat.le_of_ble_eq_true rfl⟩) hK hP [1] (by simp only [List.flatten_cons, List.flatten_nil, List.append_nil, List.cons_append, List.nil_append]) rfl rfl rfl rfl hl.1 rfl (Nat.le_of_ble_eq_true rfl) dX4_value_25 ⟨Nat.zero_le _, Nat.zero_le _⟩ ?_
      obtain rfl := Option.some.inj hf
      refine W.widen (k := 1) (n := 6) (by decide) (by decide) ?_
      exact vx_ret (xe_xi hx hb hr hlocks hS hP rfl dX4_value_28)
    · have hf := c2f c2
      obtain rfl := Option.some.inj hf
      obtain ⟨sa9, hsa⟩ := hTh.2.2.2 (121, "what is out of range") (by decide)
      exact vx_throwS (own := RX4) (cls := "java/lang/IllegalArgumentException") (names := x_exn) (ik := 33) (is := 121) (ic := 37) (text := "what is out of range") hx hb hlS hown (by decide) (by decide) (hts (.classLink RX4 33 "java/lang/IllegalArgumentException") (by decide +kernel)) (hts (.initialized "java/lang/IllegalArgumentException") (by decide +kernel)) hsa (vx_hat (fun w hw => hts w (hE1 w hw)) xn_1 (fun w hw => va_Nw.use (x_ont_1 w hw) (hTh.1 w (x_sub_1 w hw)))) xg_1 hTh.2.1 hTh.2.2.1 hS (hl.1.trans hml.symm) dX4_value_10 dX4_value_13 dX4_value_14 dX4_value_16 dX4_value_19 (fun x hx9 => (htb x hx9).elim) (Nat.le_of_ble_eq_true rfl) (Nat.le_of_ble_eq_true rfl) (Nat.le_of_ble_eq_true rfl) (Nat.le_of_ble_eq_true rfl) hlocks (fun t hvm hz hk => xe_thx (show ¬ ((1 : Int) = 0) by decide) rfl hP hS hz hk) hS.2.2 (Nat.le_refl _) (Nat.le_refl _)
theorem cdX4_value : yX4_value.cls = RX4 ∧ yX4_value.cls ≠ "java/lang/invoke/MethodHandle" ∧ yX4_value.cls ≠ "java/lang/invoke/VarHandle" ∧ (parseMethodDescriptor yX4_value.desc).map (fun d => d.parameters.length) = some 1 := by decide +kernel

set_option maxHeartbeats 4000000 in
set_option maxRecDepth 100000 in
theorem c4_nextThrown (l : Launch) (dC : Nat → ClassId) (dI : Nat → Nat → Nat) (cs : Nat → ClassId) (a : Nat → Nat) (y : BrS) (res : Int) (hf : f4_nextThrown y = some res) : Met l yX4_nextThrown wsX4_nextThrown ({ frames := 3, cells := 0, slots := 0, locals := 69 } : Room) (va_Pc [.ref (a 0)] (xPR (dC, dI) vwCl ((w4 cs a y).flatten) (xT cs))) (vp_Si (fun r => r = iI res)) 0 0 (fun _ => False) := by
  refine Met.ofW (cc := cX4_nextThrown) (maxL := 1) (ret := (some .int)) (by decide) rfl ?_
  intro p e s m args below meth c s₁ B hml hv
  obtain ⟨rfl, hP, hK⟩ := hv
  have hx := B.exec
  have hb := B.bytes
  have hr := B.returns
  have hts := atoms_spec (ws := wsX4_nextThrown) B.pre
  have hown : s.vm.findClass RX4 = some m.cls := findClass_of_methodNamed B.named
  have hlocks := B.notSynchronized
  have hin4 : ∀ w ∈ wsX40, w ∈ wsX4_nextThrown := by decide +kernel
  have hl := lv_entry [.ref (a 0)] (n := 1) (Nat.le_of_ble_eq_true rfl)
  rw [lg_entry_eq]
  generalize (lg_sl [.ref (a 0)] ++ List.replicate (1 - (lg_sl [.ref (a 0)]).length) Slot.unset).toArray = ls at hl ⊢
  have hl : lv_has ls 1 [(0, .ref (a 0))] := hl
  unfold f4_nextThrown at hf
  refine lv_aload_n hx hb dX4_nextThrown_0 rfl (lv_at hl 0 rfl) ?_
  refine va_get (D := (dC, dI)) (ci := 4) (v := .ref (a 1)) (C := RX4) (T := TX4) (N := 4) hx hb hts hin4 hown hK hP 0 rfl rfl 0 (by decide) (hts (.fieldLink RX4 10 "BoatRuns" "boat" "LBoatRuns$Boat;") (by decide +kernel)) (fun _ h9 => h9) rfl dX4_nextThrown_1 ?_
  obtain ⟨v1, ev1, hf⟩ := x_bind hf
  refine xf_ri (As := []) (rest := []) (wcs := [w0 cs (x_sh a 1) (g4_bo y)]) ⟨hx, hb, hml, hown, hts⟩ (c0_nextOverboard l dC dI cs (x_sh a 1) (g4_bo y)  _ ev1) (cwV 0 hts gX4_nextThrown_X0_nextOverboard rfl rfl rfl cdX0_nextOverboard ⟨Nat.le_of_ble_eq_true rfl, Nat.le_of_ble_eq_true rfl⟩) hK hP [1] (by simp only [List.flatten_cons, List.flatten_nil, List.append_nil, List.cons_append, List.nil_append]) rfl rfl rfl rfl hl.1 rfl (Nat.le_of_ble_eq_true rfl) dX4_nextThrown_4 ⟨Nat.zero_le _, Nat.zero_le _⟩ ?_
  obtain rfl := Option.some.inj hf
  exact xe_ri hx hb hr hlocks dX4_nextThrown_7 rfl
theorem cdX4_nextThrown : yX4_nextThrown.cls = RX4 ∧ yX4_nextThrown.cls ≠ "java/lang/invoke/MethodHandle" ∧ yX4_nextThrown.cls ≠ "java/lang/invoke/VarHandle" ∧ (parseMethodDescriptor yX4_nextThrown.desc).map (fun d => d.parameters.length) = some 0 := by decide +kernel

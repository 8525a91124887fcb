set_option maxHeartbeats 4000000 in
set_option maxRecDepth 100000 in
theorem c4_inversions (l : Launch) (dC : Nat → ClassId) (dI : Nat → Nat → Nat) (cs : Nat → ClassId) (a : Nat → Nat) (y : BrS) (res : Int) (hf : f4_inversions y = some res) : Met l yX4_inversions wsX4_inversions ({ frames := 2, cells := 0, slots := 0, locals := 44 } : Room) (va_Pc [.ref (a 0)] (xPR (dC, dI) vwCl ((w4 cs a y).flatten) (xT cs))) (vp_Si (fun r => r = iI res)) 0 0 (fun _ => False) := by
  refine Met.ofW (cc := cX4_inversions) (maxL := 3) (ret := (some .int)) (by decide) rfl ?_
  intro p e s m args below meth c s₁ B hml hv
  obtain ⟨rfl, hP, hK⟩ := hv
  have hx := B.exec
  have hb := B.bytes
  have hr := B.returns
  have hts := atoms_spec (ws := wsX4_inversions) B.pre
  have hown : s.vm.findClass RX4 = some m.cls := findClass_of_methodNamed B.named
  have hlocks := B.notSynchronized
  have hin4 : ∀ w ∈ wsX40, w ∈ wsX4_inversions := by decide +kernel
  have hl := lv_entry [.ref (a 0)] (n := 3) (Nat.le_of_ble_eq_true rfl)
  rw [lg_entry_eq]
  generalize (lg_sl [.ref (a 0)] ++ List.replicate (3 - (lg_sl [.ref (a 0)]).length) Slot.unset).toArray = ls at hl ⊢
  have hl : lv_has ls 3 [(0, .ref (a 0))] := hl
  unfold f4_inversions at hf
  refine xk_iconst hx hb dX4_inversions_0 ?_
  refine lv_istore_n (lv' := [(1, .int (iI 0)), (0, .ref (a 0))]) hx hb dX4_inversions_1 rfl hl (by decide) rfl (fun ls hl => ?_)
  refine xk_iconst hx hb dX4_inversions_2 ?_
  refine lv_istore_n (lv' := [(2, .int (iI 0)), (1, .int (iI 0)), (0, .ref (a 0))]) hx hb dX4_inversions_3 rfl hl (by decide) rfl (fun ls hl => ?_)
  have hL4 : ∀ (n1 : Nat) (l1 : Int) (l2 : Int), f4_inversions_L4 y n1 l1 l2 = some res → ∀ (ls : Array Slot), lv_has ls 3 [(0, .ref (a 0)), (1, .int (iI l1)), (2, .int (iI l2))] → W p l e (headSpec wsX4_inversions ({ frames := 2, cells := 0, slots := 0, locals := 44 } : Room)).room s m ([.ref (a 0)] : List Value).toArray below meth c s.heap [] 0 0 (MQ below (vp_Si (fun r => r = iI res)) ([.ref (a 0)] : List Value).toArray s 0 0 (fun _ => False)) (F0 m 4 ls []) := by
    intro  n1
    induction n1 with
    | zero => intro l1 l2 hf; have hf : (none : Option (Int)) = some res := hf; cases hf
    | succ n1 ih4 =>
      intro l1 l2 hf ls hl
      rw [f4_inversions_L4] at hf
      refine lv_iload_n hx hb dX4_inversions_4 rfl (lv_at hl 2 rfl) ?_
      refine lv_aload_n hx hb dX4_inversions_5 rfl (lv_at hl 0 rfl) ?_
      refine va_get (D := (dC, dI)) (ci := 4) (v := .ref (a 1)) (C := RX4) (T := TX4) (N := 4) hx hb hts hin4 hown hK hP 0 rfl rfl 0 (by decide) (hts (.fieldLink RX4 10 "BoatRuns" "boat" "LBoatRuns$Boat;") (by decide +kernel)) (fun _ h9 => h9) rfl dX4_inversions_6 ?_
      obtain ⟨v2, ev2, hf⟩ := x_bind hf
      refine xf_ri (As := []) (rest := [.int (iI l2)]) (wcs := [w0 cs (x_sh a 1) (g4_bo y)]) ⟨hx, hb, hml, hown, hts⟩ (c0_loaded l dC dI cs (x_sh a 1) (g4_bo y)  _ ev2) (cwV 0 hts gX4_inversions_X0_loaded rfl rfl rfl cdX0_loaded ⟨Nat.le_of_ble_eq_true rfl, Nat.le_of_ble_eq_true rfl⟩) hK hP [1] (by simp only [List.flatten_cons, List.flatten_nil, List.append_nil, List.cons_append, List.nil_append]) rfl rfl rfl rfl hl.1 rfl (Nat.le_of_ble_eq_true rfl) dX4_inversions_9 ⟨Nat.zero_le _, Nat.zero_le _⟩ ?_
      obtain ⟨c3a, c3b, c3t, c3f⟩ := x_ltE hf
      refine xk_icmp_ge (tgt := 32) hx hb c3a c3b dX4_inversions_12 (by decide) (fun c3 => ?_) (fun c3 => ?_)
      · have hf := c3t c3
        refine lv_iload_n hx hb dX4_inversions_15 rfl (lv_at hl 1 rfl) ?_
        refine lv_aload_n hx hb dX4_inversions_16 rfl (lv_at hl 0 rfl) ?_
        refine va_get (D := (dC, dI)) (ci := 4) (v := .ref (a 1)) (C := RX4) (T := TX4) (N := 4) hx hb hts hin4 hown hK hP 0 rfl rfl 0 (by decide) (hts (.fieldLink RX4 10 "BoatRuns" "boat" "LBoatRuns$Boat;") (by decide +kernel)) (fun _ h9 => h9) rfl dX4_inversions_17 ?_
        refine lv_iload_n hx hb dX4_inversions_20 rfl (lv_at hl 2 rfl) ?_
        obtain ⟨v4, ev4, hf⟩ := x_bind hf
        refine xf_ri (As := [.int (iI l2)]) (rest := [.int (iI l1)]) (wcs := [w0 cs (x_sh a 1) (g4_bo y)]) ⟨hx, hb, hml, hown, hts⟩ (c0_earlierGreater l dC dI cs (x_sh a 1) (g4_bo y) l2  _ ev4) (cwV 1 hts gX4_inversions_X0_earlierGreater rfl rfl rfl cdX0_earlierGreater ⟨Nat.le_of_ble_eq_true rfl, Nat.le_of_ble_eq_true rfl⟩) hK hP [1] (by simp only [List.flatten_cons, List.flatten_nil, List.append_nil, List.cons_append, List.nil_append]) rfl rfl rfl rfl hl.1 rfl (Nat.le_of_ble_eq_true rfl) dX4_inversions_21 ⟨Nat.zero_le _, Nat.zero_le _⟩ ?_
        refine xk_iadd hx hb dX4_inversions_24 ?_
        refine lv_istore_n (lv' := [(1, .int (iI (l1 + v4))), (0, .ref (a 0)), (2, .int (iI l2))]) hx hb dX4_inversions_25 rfl hl (by decide) rfl (fun ls hl => ?_)
        refine xk_iinc (lv' := [(2, .int (iI (l2 + 1))), (1, .int (iI (l1 + v4))), (0, .ref (a 0))]) hx hb dX4_inversions_26 hl (k := 2) rfl (by decide) rfl (fun ls hl => ?_)
        refine lv_goto (tgt := 4) hx hb dX4_inversions_29 (by decide) ?_
        exact ih4 (l1 + v4) (l2 + 1) hf ls (lv_sub hl [2, 1, 0] rfl)
      · have hf := c3f c3
        refine lv_iload_n hx hb dX4_inversions_32 rfl (lv_at hl 1 rfl) ?_
        obtain rfl := Option.some.inj hf
        exact xe_ri hx hb hr hlocks dX4_inversions_33 rfl
  exact hL4  xFU 0 0 hf ls (lv_sub hl [2, 1, 0] rfl)
theorem cdX4_inversions : yX4_inversions.cls = RX4 ∧ yX4_inversions.cls ≠ "java/lang/invoke/MethodHandle" ∧ yX4_inversions.cls ≠ "java/lang/invoke/VarHandle" ∧ (parseMethodDescriptor yX4_inversions.desc).map (fun d => d.parameters.length) = some 0 := by decide +kernel

set_option maxHeartbeats 4000000 in
set_option maxRecDepth 100000 in
theorem c4_append (l : Launch) (hlS : l.stackTraces = false) (dC : Nat → ClassId) (dI : Nat → Nat → Nat) (cs : Nat → ClassId) (a : Nat → Nat) (sz : Nat) (y : BrS) (p0 : Int) (res : Int × Int × BrS) (hf : f4_append y p0 = some res) : vx_Met l yX4_append wsX4_append ({ frames := 6, cells := 1, slots := 6, locals := 82 } : Room) (va_Pc [.ref (a 0), .int (iI p0)] (xPX (dC, dI) vwCl ((w4 cs a y).flatten) (xT cs) sz)) (xQx (dC, dI) vwCl ((w4 cs a y).flatten) ((w4 cs a res.2.2).flatten) sz res.1 res.2.1) (xXx (dC, dI) vwCl ((w4 cs a y).flatten) sz res.1) 1 6 (va_A ((w4 cs a y).flatten) sz) := by
  refine vx_ofW (cc := cX4_append) (maxL := 2) (ret := (some .int)) (by decide) rfl ?_
  intro p e s m args below meth c s₁ B hml htb hv
  obtain ⟨rfl, ⟨hsz, hP, hK, hD0⟩, hTh⟩ := hv
  have hx := B.exec
  have hb := B.bytes
  have hr := B.returns
  have hts := atoms_spec (ws := wsX4_append) B.pre
  have hown : s.vm.findClass RX4 = some m.cls := findClass_of_methodNamed B.named
  have hlocks := B.notSynchronized
  have hE1 : ∀ w ∈ (vx_atS RX4 37 "java/lang/IllegalArgumentException" x_exn).filter goodWord, w ∈ wsX4_append := by decide +kernel
  have hE2 : ∀ w ∈ (vx_atS RX4 62 "java/lang/IllegalStateException" x_exn).filter goodWord, w ∈ wsX4_append := by decide +kernel
  have hin4 : ∀ w ∈ wsX40, w ∈ wsX4_append := by decide +kernel
  subst hsz
  have hD := hD0.self (sz := s.heap.size)
  have hA : ∀ z9 : Nat, s.heap.size ≤ z9 → va_A ((w4 cs a y).flatten) s.heap.size z9 := fun z9 h => Or.inr h
  have hS : va_S (va_A ((w4 cs a y).flatten) s.heap.size) s.heap s.heap [] := va_S.rf
  have hl := lv_entry [.ref (a 0), .int (iI p0)] (n := 2) (Nat.le_of_ble_eq_true rfl)
  rw [lg_entry_eq]
  generalize (lg_sl [.ref (a 0), .int (iI p0)] ++ List.replicate (2 - (lg_sl [.ref (a 0), .int (iI p0)]).length) Slot.unset).toArray = ls at hl ⊢
  have hl : lv_has ls 2 [(0, .ref (a 0)), (1, .int (iI p0))] := hl
  unfold f4_append at hf
  refine lv_iload_n hx hb dX4_append_0 rfl (lv_at hl 1 rfl) ?_
  obtain ⟨c1a, c1b, c1t, c1f⟩ := x_ltE hf
  refine xk_if_lt (tgt := 10) hx hb c1a dX4_append_1 (by decide) (fun c1 => ?_) (fun c1 => ?_)
  · have hf := c1t c1
    obtain rfl := Option.some.inj hf
    obtain ⟨sa9, hsa⟩ := hTh.2.2.2 (173, "value is out of range") (by decide)
    exact vx_throwS (own := RX4) (cls := "java/lang/IllegalArgumentException") (names := x_exn) (ik := 33) (is := 173) (ic := 37) (text := "value is out of range") hx hb hlS hown (by decide) (by decide) (hts (.classLink RX4 33 "java/lang/IllegalArgumentException") (by decide +kernel)) (hts (.initialized "java/lang/IllegalArgumentException") (by decide +kernel)) hsa (vx_hat (fun w hw => hts w (hE1 w hw)) xn_1 (fun w hw => va_Nw.use (x_ont_1 w hw) (hTh.1 w (x_sub_1 w hw)))) xg_1 hTh.2.1 hTh.2.2.1 hS (hl.1.trans hml.symm) dX4_append_10 dX4_append_13 dX4_append_14 dX4_append_16 dX4_append_19 (fun x hx9 => (htb x hx9).elim) (Nat.le_of_ble_eq_true rfl) (Nat.le_of_ble_eq_true rfl) (Nat.le_of_ble_eq_true rfl) (Nat.le_of_ble_eq_true rfl) hlocks (fun t hvm hz hk => xe_thx (show ¬ ((1 : Int) = 0) by decide) rfl hP hS hz hk) hS.2.2 (Nat.le_refl _) (Nat.le_refl _)
  · have hf := c1f c1
    refine lv_iload_n hx hb dX4_append_4 rfl (lv_at hl 1 rfl) ?_
    refine xk_bipush hx hb dX4_append_5 (by decide) ?_
    obtain ⟨c2a, c2b, c2t, c2f⟩ := x_ltE hf
    refine xk_icmp_le (tgt := 20) hx hb c2b c2a dX4_append_7 (by decide) (fun c2 => ?_) (fun c2 => ?_)
    · have hf := c2t c2
      obtain rfl := Option.some.inj hf
      obtain ⟨sa9, hsa⟩ := hTh.2.2.2 (173, "value is out of range") (by decide)
      exact vx_throwS (own := RX4) (cls := "java/lang/IllegalArgumentException") (names := x_exn) (ik := 33) (is := 173) (ic := 37) (text := "value is out of range") hx hb hlS hown (by decide) (by decide) (hts (.classLink RX4 33 "java/lang/IllegalArgumentException") (by decide +kernel)) (hts (.initialized "java/lang/IllegalArgumentException") (by decide +kernel)) hsa (vx_hat (fun w hw => hts w (hE1 w hw)) xn_1 (fun w hw => va_Nw.use (x_ont_1 w hw) (hTh.1 w (x_sub_1 w hw)))) xg_1 hTh.2.1 hTh.2.2.1 hS (hl.1.trans hml.symm) dX4_append_10 dX4_append_13 dX4_append_14 dX4_append_16 dX4_append_19 (fun x hx9 => (htb x hx9).elim) (Nat.le_of_ble_eq_true rfl) (Nat.le_of_ble_eq_true rfl) (Nat.le_of_ble_eq_true rfl) (Nat.le_of_ble_eq_true rfl) hlocks (fun t hvm hz hk => xe_thx (show ¬ ((1 : Int) = 0) by decide) rfl hP hS hz hk) hS.2.2 (Nat.le_refl _) (Nat.le_refl _)
    · have hf := c2f c2
      refine lv_aload_n hx hb dX4_append_20 rfl (lv_at hl 0 rfl) ?_
      refine va_get (D := (dC, dI)) (ci := 4) (v := .ref (a 93)) (C := RX4) (T := TX4) (N := 4) hx hb hts hin4 hown hK hP 0 rfl rfl 3 (by decide) (hts (.fieldLink RX4 29 "BoatRuns" "text" "LBoatRuns$Text;") (by decide +kernel)) (fun _ h9 => h9) rfl dX4_append_21 ?_
      obtain ⟨v3, ev3, hf⟩ := x_bind hf
      refine xf_ri (As := []) (rest := []) (wcs := [w3 cs (x_sh a 93) (g4_tx y)]) ⟨hx, hb, hml, hown, hts⟩ (c3_length l dC dI cs (x_sh a 93) (g4_tx y)  _ ev3) (cwV 0 hts gX4_append_X3_length rfl rfl rfl cdX3_length ⟨Nat.le_of_ble_eq_true rfl, Nat.le_of_ble_eq_true rfl⟩) hK hP [9] (by simp only [List.flatten_cons, List.flatten_nil, List.append_nil, List.cons_append, List.nil_append]) rfl rfl rfl rfl hl.1 rfl (Nat.le_of_ble_eq_true rfl) dX4_append_24 ⟨Nat.zero_le _, Nat.zero_le _⟩ ?_
      refine xk_bipush hx hb dX4_append_27 (by decide) ?_
      obtain ⟨c4a, c4b, c4t, c4f⟩ := x_ltE hf
      refine xk_icmp_lt (tgt := 42) hx hb c4a c4b dX4_append_29 (by decide) (fun c4 => ?_) (fun c4 => ?_)
      · have hf := c4t c4
        refine lv_aload_n hx hb dX4_append_42 rfl (lv_at hl 0 rfl) ?_
        refine va_get (D := (dC, dI)) (ci := 4) (v := .ref (a 93)) (C := RX4) (T := TX4) (N := 4) hx hb hts hin4 hown hK hP 0 rfl rfl 3 (by decide) (hts (.fieldLink RX4 29 "BoatRuns" "text" "LBoatRuns$Text;") (by decide +kernel)) (fun _ h9 => h9) rfl dX4_append_43 ?_
        refine lv_iload_n hx hb dX4_append_46 rfl (lv_at hl 1 rfl) ?_
        obtain ⟨⟨v6, t5⟩, et5, hf⟩ := x_bind hf
        refine xf_wi (As := [.int (iI p0)]) (rest := []) (wcs := [w3 cs (x_sh a 93) (g4_tx y)]) (w1s := [w3 cs (x_sh a 93) t5]) ⟨hx, hb, hml, hown, hts⟩ (c3_write l dC dI cs (x_sh a 93) _ (g4_tx y) p0  _ et5) (cwV 1 hts gX4_append_X3_write rfl rfl rfl cdX3_write ⟨Nat.le_of_ble_eq_true rfl, Nat.le_of_ble_eq_true rfl⟩) hK hP (x_addrF hD rfl) hS hA [9] (by simp only [List.flatten_cons, List.flatten_nil, List.append_nil, List.cons_append, List.nil_append]) (by simp only [List.flatten_cons, List.flatten_nil, List.append_nil, List.cons_append, List.nil_append]) rfl (by decide) rfl rfl rfl rfl hl.1 rfl (Nat.le_of_ble_eq_true rfl) dX4_append_47 ⟨Nat.zero_le _, Nat.zero_le _⟩ (fun H locs hP hS => ?_)
        have hP : va_P (dC, dI) vwCl ((w4C cs a (g4_bo y) (g4_tr y) (g4_hi y) t5).flatten) H := hP
        obtain rfl := Option.some.inj hf
        refine W.widen (k := 1) (n := 6) (by decide) (by decide) ?_
        exact vx_ret (xe_xi hx hb hr hlocks hS hP rfl dX4_append_50)
      · have hf := c4f c4
        obtain rfl := Option.some.inj hf
        obtain ⟨sa9, hsa⟩ := hTh.2.2.2 (178, "the text is full") (by decide)
        exact vx_throwS (own := RX4) (cls := "java/lang/IllegalStateException") (names := x_exn) (ik := 58) (is := 178) (ic := 62) (text := "the text is full") hx hb hlS hown (by decide) (by decide) (hts (.classLink RX4 58 "java/lang/IllegalStateException") (by decide +kernel)) (hts (.initialized "java/lang/IllegalStateException") (by decide +kernel)) hsa (vx_hat (fun w hw => hts w (hE2 w hw)) xn_2 (fun w hw => va_Nw.use (x_ont_2 w hw) (hTh.1 w (x_sub_2 w hw)))) xg_2 hTh.2.1 hTh.2.2.1 hS (hl.1.trans hml.symm) dX4_append_32 dX4_append_35 dX4_append_36 dX4_append_38 dX4_append_41 (fun x hx9 => (htb x hx9).elim) (Nat.le_of_ble_eq_true rfl) (Nat.le_of_ble_eq_true rfl) (Nat.le_of_ble_eq_true rfl) (Nat.le_of_ble_eq_true rfl) hlocks (fun t hvm hz hk => xe_thx (show ¬ ((2 : Int) = 0) by decide) rfl hP hS hz hk) hS.2.2 (Nat.le_refl _) (Nat.le_refl _)
theorem cdX4_append : yX4_append.cls = RX4 ∧ yX4_append.cls ≠ "java/lang/invoke/MethodHandle" ∧ yX4_append.cls ≠ "java/lang/invoke/VarHandle" ∧ (parseMethodDescriptor yX4_append.desc).map (fun d => d.parameters.length) = some 1 := by decide +kernel

set_option maxHeartbeats 4000000 in
set_option maxRecDepth 100000 in
theorem c4_clearText (l : Launch) (dC : Nat → ClassId) (dI : Nat → Nat → Nat) (cs : Nat → ClassId) (a : Nat → Nat) (sz : Nat) (y : BrS) (res : Int × BrS) (hf : f4_clearText y = some res) : Met l yX4_clearText wsX4_clearText ({ frames := 2, cells := 0, slots := 0, locals := 41 } : Room) (va_Pc [.ref (a 0)] (xPW (dC, dI) vwCl ((w4 cs a y).flatten) (xT cs) sz)) (xQi (dC, dI) vwCl ((w4 cs a y).flatten) ((w4 cs a res.2).flatten) sz res.1) 0 0 (va_A ((w4 cs a y).flatten) sz) := by
  refine Met.ofW (cc := cX4_clearText) (maxL := 1) (ret := (some .int)) (by decide) rfl ?_
  intro p e s m args below meth c s₁ B hml hv
  obtain ⟨rfl, hsz, hP, hK, hD0⟩ := hv
  have hx := B.exec
  have hb := B.bytes
  have hr := B.returns
  have hts := atoms_spec (ws := wsX4_clearText) B.pre
  have hown : s.vm.findClass RX4 = some m.cls := findClass_of_methodNamed B.named
  have hlocks := B.notSynchronized
  have hin4 : ∀ w ∈ wsX40, w ∈ wsX4_clearText := by decide +kernel
  subst hsz
  have hD := hD0.self (sz := s.heap.size)
  have hA : ∀ z9 : Nat, s.heap.size ≤ z9 → va_A ((w4 cs a y).flatten) s.heap.size z9 := fun z9 h => Or.inr h
  have hS : va_S (va_A ((w4 cs a y).flatten) s.heap.size) s.heap s.heap [] := va_S.rf
  have hl := lv_entry [.ref (a 0)] (n := 1) (Nat.le_of_ble_eq_true rfl)
  rw [lg_entry_eq]
  generalize (lg_sl [.ref (a 0)] ++ List.replicate (1 - (lg_sl [.ref (a 0)]).length) Slot.unset).toArray = ls at hl ⊢
  have hl : lv_has ls 1 [(0, .ref (a 0))] := hl
  unfold f4_clearText at hf
  refine lv_aload_n hx hb dX4_clearText_0 rfl (lv_at hl 0 rfl) ?_
  refine va_get (D := (dC, dI)) (ci := 4) (v := .ref (a 93)) (C := RX4) (T := TX4) (N := 4) hx hb hts hin4 hown hK hP 0 rfl rfl 3 (by decide) (hts (.fieldLink RX4 29 "BoatRuns" "text" "LBoatRuns$Text;") (by decide +kernel)) (fun _ h9 => h9) rfl dX4_clearText_1 ?_
  obtain ⟨⟨v2, t1⟩, et1, hf⟩ := x_bind hf
  refine xf_wi (As := []) (rest := []) (wcs := [w3 cs (x_sh a 93) (g4_tx y)]) (w1s := [w3 cs (x_sh a 93) t1]) ⟨hx, hb, hml, hown, hts⟩ (c3_wipe l dC dI cs (x_sh a 93) _ (g4_tx y)  _ et1) (cwV 0 hts gX4_clearText_X3_wipe rfl rfl rfl cdX3_wipe ⟨Nat.le_of_ble_eq_true rfl, Nat.le_of_ble_eq_true rfl⟩) hK hP (x_addrF hD rfl) hS hA [9] (by simp only [List.flatten_cons, List.flatten_nil, List.append_nil, List.cons_append, List.nil_append]) (by simp only [List.flatten_cons, List.flatten_nil, List.append_nil, List.cons_append, List.nil_append]) rfl (by decide) rfl rfl rfl rfl hl.1 rfl (Nat.le_of_ble_eq_true rfl) dX4_clearText_4 ⟨Nat.zero_le _, Nat.zero_le _⟩ (fun H locs hP hS => ?_)
  have hP : va_P (dC, dI) vwCl ((w4C cs a (g4_bo y) (g4_tr y) (g4_hi y) t1).flatten) H := hP
  obtain rfl := Option.some.inj hf
  exact xe_wi hx hb hr hlocks hS hP dX4_clearText_7
theorem cdX4_clearText : yX4_clearText.cls = RX4 ∧ yX4_clearText.cls ≠ "java/lang/invoke/MethodHandle" ∧ yX4_clearText.cls ≠ "java/lang/invoke/VarHandle" ∧ (parseMethodDescriptor yX4_clearText.desc).map (fun d => d.parameters.length) = some 0 := by decide +kernel

set_option maxHeartbeats 4000000 in
set_option maxRecDepth 100000 in
theorem c4_obey (l : Launch) (dC : Nat → ClassId) (dI : Nat → Nat → Nat) (cs : Nat → ClassId) (a : Nat → Nat) (sz : Nat) (y : BrS) (p0 : Int) (p1 : Int) (p2 : Int) (res : Int × BrS) (hf : f4_obey y p0 p1 p2 = some res) : Met l yX4_obey wsX4_obey ({ frames := 5, cells := 0, slots := 0, locals := 116 } : Room) (va_Pc [.ref (a 0), .int (iI p0), .int (iI p1), .int (iI p2)] (xPW (dC, dI) vwCl ((w4 cs a y).flatten) (xT cs) sz)) (xQi (dC, dI) vwCl ((w4 cs a y).flatten) ((w4 cs a res.2).flatten) sz res.1) 0 0 (va_A ((w4 cs a y).flatten) sz) := by
  refine Met.ofW (cc := cX4_obey) (maxL := 4) (ret := (some .boolean)) (by decide) rfl ?_
  intro p e s m args below meth c s₁ B hml hv
  obtain ⟨rfl, hsz, hP, hK, hD0⟩ := hv
  have hx := B.exec
  have hb := B.bytes
  have hr := B.returns
  have hts := atoms_spec (ws := wsX4_obey) B.pre
  have hown : s.vm.findClass RX4 = some m.cls := findClass_of_methodNamed B.named
  have hlocks := B.notSynchronized
  have hin4 : ∀ w ∈ wsX40, w ∈ wsX4_obey := by decide +kernel
  subst hsz
  have hD := hD0.self (sz := s.heap.size)
  have hA : ∀ z9 : Nat, s.heap.size ≤ z9 → va_A ((w4 cs a y).flatten) s.heap.size z9 := fun z9 h => Or.inr h
  have hS : va_S (va_A ((w4 cs a y).flatten) s.heap.size) s.heap s.heap [] := va_S.rf
  have hl := lv_entry [.ref (a 0), .int (iI p0), .int (iI p1), .int (iI p2)] (n := 4) (Nat.le_of_ble_eq_true rfl)
  rw [lg_entry_eq]
  generalize (lg_sl [.ref (a 0), .int (iI p0), .int (iI p1), .int (iI p2)] ++ List.replicate (4 - (lg_sl [.ref (a 0), .int (iI p0), .int (iI p1), .int (iI p2)]).length) Slot.unset).toArray = ls at hl ⊢
  have hl : lv_has ls 4 [(0, .ref (a 0)), (1, .int (iI p0)), (2, .int (iI p1)), (3, .int (iI p2))] := hl
  unfold f4_obey at hf
  refine lv_iload_n hx hb dX4_obey_0 rfl (lv_at hl 1 rfl) ?_
  obtain ⟨c1a, c1b, c1t, c1f⟩ := x_eqE hf
  by_cases c1 : p0 = 101
  · have hf := c1t c1
    refine xk_tabIn (tgt := 100) hx hb c1a c1 dX4_obey_1 (by decide) rfl (by decide) ?_
    refine lv_aload_n hx hb dX4_obey_100 rfl (lv_at hl 0 rfl) ?_
    refine va_get (D := (dC, dI)) (ci := 4) (v := .ref (a 1)) (C := RX4) (T := TX4) (N := 4) hx hb hts hin4 hown hK hP 0 rfl rfl 0 (by decide) (hts (.fieldLink RX4 10 "BoatRuns" "boat" "LBoatRuns$Boat;") (by decide +kernel)) (fun _ h9 => h9) rfl dX4_obey_101 ?_
    obtain ⟨⟨v3, b2⟩, eb2, hf⟩ := x_bind hf
    refine xf_wi (As := []) (rest := []) (wcs := [w0 cs (x_sh a 1) (g4_bo y)]) (w1s := [w0 cs (x_sh a 1) b2]) ⟨hx, hb, hml, hown, hts⟩ (c0_throwAll l dC dI cs (x_sh a 1) _ (g4_bo y)  _ eb2) (cwV 0 hts gX4_obey_X0_throwAll rfl rfl rfl cdX0_throwAll ⟨Nat.le_of_ble_eq_true rfl, Nat.le_of_ble_eq_true rfl⟩) hK hP (x_addrF hD rfl) hS hA [1] (by simp only [List.flatten_cons, List.flatten_nil, List.append_nil, List.cons_append, List.nil_append]) (by simp only [List.flatten_cons, List.flatten_nil, List.append_nil, List.cons_append, List.nil_append]) rfl (by decide) rfl rfl rfl rfl hl.1 rfl (Nat.le_of_ble_eq_true rfl) dX4_obey_104 ⟨Nat.zero_le _, Nat.zero_le _⟩ (fun H locs hP hS => ?_)
    have hP : va_P (dC, dI) vwCl ((w4C cs a b2 (g4_tr y) (g4_hi y) (g4_tx y)).flatten) H := hP
    refine lv_pop hx hb dX4_obey_107 rfl ?_
    refine xk_iconst hx hb dX4_obey_108 ?_
    obtain rfl := Option.some.inj hf
    exact xe_wz hx hb hr (Or.inr rfl) hlocks hS hP dX4_obey_109
  · have hf := c1f c1
    obtain ⟨c4a, c4b, c4t, c4f⟩ := x_eqE hf
    by_cases c4 : p0 = 108
    · have hf := c4t c4
      refine xk_tabIn (tgt := 110) hx hb c4a c4 dX4_obey_1 (by decide) rfl (by decide) ?_
      refine lv_aload_n hx hb dX4_obey_110 rfl (lv_at hl 0 rfl) ?_
      refine va_get (D := (dC, dI)) (ci := 4) (v := .ref (a 1)) (C := RX4) (T := TX4) (N := 4) hx hb hts hin4 hown hK hP 0 rfl rfl 0 (by decide) (hts (.fieldLink RX4 10 "BoatRuns" "boat" "LBoatRuns$Boat;") (by decide +kernel)) (fun _ h9 => h9) rfl dX4_obey_111 ?_
      obtain ⟨v5, ev5, hf⟩ := x_bind hf
      refine xf_ri (As := []) (rest := []) (wcs := [w0 cs (x_sh a 1) (g4_bo y)]) ⟨hx, hb, hml, hown, hts⟩ (c0_runs l dC dI cs (x_sh a 1) (g4_bo y)  _ ev5) (cwV 0 hts gX4_obey_X0_runs rfl rfl rfl cdX0_runs ⟨Nat.le_of_ble_eq_true rfl, Nat.le_of_ble_eq_true rfl⟩) hK hP [1] (by simp only [List.flatten_cons, List.flatten_nil, List.append_nil, List.cons_append, List.nil_append]) rfl rfl rfl rfl hl.1 rfl (Nat.le_of_ble_eq_true rfl) dX4_obey_114 ⟨Nat.zero_le _, Nat.zero_le _⟩ ?_
      refine xk_iconst hx hb dX4_obey_117 ?_
      obtain ⟨c6a, c6b, c6t, c6f⟩ := x_ltE hf
      refine xk_icmp_ge (tgt := 123) hx hb c6a c6b dX4_obey_118 (by decide) (fun c6 => ?_) (fun c6 => ?_)
      · have hf := c6t c6
        refine xk_iconst hx hb dX4_obey_121 ?_
        obtain rfl := Option.some.inj hf
        exact xe_wz hx hb hr (Or.inl rfl) hlocks hS hP dX4_obey_122
      · have hf := c6f c6
        refine lv_aload_n hx hb dX4_obey_123 rfl (lv_at hl 0 rfl) ?_
        refine va_get (D := (dC, dI)) (ci := 4) (v := .ref (a 1)) (C := RX4) (T := TX4) (N := 4) hx hb hts hin4 hown hK hP 0 rfl rfl 0 (by decide) (hts (.fieldLink RX4 10 "BoatRuns" "boat" "LBoatRuns$Boat;") (by decide +kernel)) (fun _ h9 => h9) rfl dX4_obey_124 ?_
        obtain ⟨⟨v8, b7⟩, eb7, hf⟩ := x_bind hf
        refine xf_wi (As := []) (rest := []) (wcs := [w0 cs (x_sh a 1) (g4_bo y)]) (w1s := [w0 cs (x_sh a 1) b7]) ⟨hx, hb, hml, hown, hts⟩ (c0_joinLightest l dC dI cs (x_sh a 1) _ (g4_bo y)  _ eb7) (cwV 0 hts gX4_obey_X0_joinLightest rfl rfl rfl cdX0_joinLightest ⟨Nat.le_of_ble_eq_true rfl, Nat.le_of_ble_eq_true rfl⟩) hK hP (x_addrF hD rfl) hS hA [1] (by simp only [List.flatten_cons, List.flatten_nil, List.append_nil, List.cons_append, List.nil_append]) (by simp only [List.flatten_cons, List.flatten_nil, List.append_nil, List.cons_append, List.nil_append]) rfl (by decide) rfl rfl rfl rfl hl.1 rfl (Nat.le_of_ble_eq_true rfl) dX4_obey_127 ⟨Nat.zero_le _, Nat.zero_le _⟩ (fun H locs hP hS => ?_)
        have hP : va_P (dC, dI) vwCl ((w4C cs a b7 (g4_tr y) (g4_hi y) (g4_tx y)).flatten) H := hP
        refine lv_pop hx hb dX4_obey_130 rfl ?_
        refine xk_iconst hx hb dX4_obey_131 ?_
        obtain rfl := Option.some.inj hf
        exact xe_wz hx hb hr (Or.inr rfl) hlocks hS hP dX4_obey_132
    · have hf := c4f c4
      obtain ⟨c9a, c9b, c9t, c9f⟩ := x_eqE hf
      by_cases c9 : p0 = 109
      · have hf := c9t c9
        refine xk_tabIn (tgt := 144) hx hb c9a c9 dX4_obey_1 (by decide) rfl (by decide) ?_
        refine lv_iload_n hx hb dX4_obey_144 rfl (lv_at hl 2 rfl) ?_
        refine lv_iload_n hx hb dX4_obey_145 rfl (lv_at hl 3 rfl) ?_
        obtain ⟨c10a, c10b, c10t, c10f⟩ := x_eqE hf
        refine xk_icmp_eq (tgt := 171) hx hb c10a c10b dX4_obey_146 (by decide) (fun c10 => ?_) (fun c10 => ?_)
        · have hf := c10t c10
          refine xk_iconst hx hb dX4_obey_171 ?_
          obtain rfl := Option.some.inj hf
          exact xe_wz hx hb hr (Or.inl rfl) hlocks hS hP dX4_obey_172
        · have hf := c10f c10
          refine lv_aload_n hx hb dX4_obey_149 rfl (lv_at hl 0 rfl) ?_
          refine va_get (D := (dC, dI)) (ci := 4) (v := .ref (a 1)) (C := RX4) (T := TX4) (N := 4) hx hb hts hin4 hown hK hP 0 rfl rfl 0 (by decide) (hts (.fieldLink RX4 10 "BoatRuns" "boat" "LBoatRuns$Boat;") (by decide +kernel)) (fun _ h9 => h9) rfl dX4_obey_150 ?_
          refine lv_iload_n hx hb dX4_obey_153 rfl (lv_at hl 2 rfl) ?_
          obtain ⟨v11, ev11, hf⟩ := x_bind hf
          refine xf_ri (As := [.int (iI p1)]) (rest := []) (wcs := [w0 cs (x_sh a 1) (g4_bo y)]) ⟨hx, hb, hml, hown, hts⟩ (c0_hasRun l dC dI cs (x_sh a 1) (g4_bo y) p1  _ ev11) (cwV 1 hts gX4_obey_X0_hasRun rfl rfl rfl cdX0_hasRun ⟨Nat.le_of_ble_eq_true rfl, Nat.le_of_ble_eq_true rfl⟩) hK hP [1] (by simp only [List.flatten_cons, List.flatten_nil, List.append_nil, List.cons_append, List.nil_append]) rfl rfl rfl rfl hl.1 rfl (Nat.le_of_ble_eq_true rfl) dX4_obey_154 ⟨Nat.zero_le _, Nat.zero_le _⟩ ?_
          obtain ⟨c12a, c12b, c12t, c12f⟩ := x_eqE hf
          refine xk_if_eq (tgt := 171) hx hb c12a dX4_obey_157 (by decide) (fun c12 => ?_) (fun c12 => ?_)
          · have hf := c12t c12
            refine xk_iconst hx hb dX4_obey_171 ?_
            obtain rfl := Option.some.inj hf
            exact xe_wz hx hb hr (Or.inl rfl) hlocks hS hP dX4_obey_172
          · have hf := c12f c12
            refine lv_aload_n hx hb dX4_obey_160 rfl (lv_at hl 0 rfl) ?_
            refine va_get (D := (dC, dI)) (ci := 4) (v := .ref (a 1)) (C := RX4) (T := TX4) (N := 4) hx hb hts hin4 hown hK hP 0 rfl rfl 0 (by decide) (hts (.fieldLink RX4 10 "BoatRuns" "boat" "LBoatRuns$Boat;") (by decide +kernel)) (fun _ h9 => h9) rfl dX4_obey_161 ?_
            refine lv_iload_n hx hb dX4_obey_164 rfl (lv_at hl 3 rfl) ?_
            obtain ⟨v13, ev13, hf⟩ := x_bind hf
            refine xf_ri (As := [.int (iI p2)]) (rest := []) (wcs := [w0 cs (x_sh a 1) (g4_bo y)]) ⟨hx, hb, hml, hown, hts⟩ (c0_hasRun l dC dI cs (x_sh a 1) (g4_bo y) p2  _ ev13) (cwV 1 hts gX4_obey_X0_hasRun rfl rfl rfl cdX0_hasRun ⟨Nat.le_of_ble_eq_true rfl, Nat.le_of_ble_eq_true rfl⟩) hK hP [1] (by simp only [List.flatten_cons, List.flatten_nil, List.append_nil, List.cons_append, List.nil_append]) rfl rfl rfl rfl hl.1 rfl (Nat.le_of_ble_eq_true rfl) dX4_obey_165 ⟨Nat.zero_le _, Nat.zero_le _⟩ ?_
            obtain ⟨c14a, c14b, c14t, c14f⟩ := x_eqE hf
            refine xk_if_ne (tgt := 173) hx hb c14a dX4_obey_168 (by decide) (fun c14 => ?_) (fun c14 => ?_)
            · have hf := c14t c14
              refine xk_iconst hx hb dX4_obey_171 ?_
              obtain rfl := Option.some.inj hf
              exact xe_wz hx hb hr (Or.inl rfl) hlocks hS hP dX4_obey_172
            · have hf := c14f c14
              refine lv_aload_n hx hb dX4_obey_173 rfl (lv_at hl 0 rfl) ?_
              refine va_get (D := (dC, dI)) (ci := 4) (v := .ref (a 1)) (C := RX4) (T := TX4) (N := 4) hx hb hts hin4 hown hK hP 0 rfl rfl 0 (by decide) (hts (.fieldLink RX4 10 "BoatRuns" "boat" "LBoatRuns$Boat;") (by decide +kernel)) (fun _ h9 => h9) rfl dX4_obey_174 ?_
              refine lv_iload_n hx hb dX4_obey_177 rfl (lv_at hl 2 rfl) ?_
              refine lv_iload_n hx hb dX4_obey_178 rfl (lv_at hl 3 rfl) ?_
              obtain ⟨⟨v16, b15⟩, eb15, hf⟩ := x_bind hf
              refine xf_wi (As := [.int (iI p1), .int (iI p2)]) (rest := []) (wcs := [w0 cs (x_sh a 1) (g4_bo y)]) (w1s := [w0 cs (x_sh a 1) b15]) ⟨hx, hb, hml, hown, hts⟩ (c0_join l dC dI cs (x_sh a 1) _ (g4_bo y) p1 p2  _ eb15) (cwV 2 hts gX4_obey_X0_join rfl rfl rfl cdX0_join ⟨Nat.le_of_ble_eq_true rfl, Nat.le_of_ble_eq_true rfl⟩) hK hP (x_addrF hD rfl) hS hA [1] (by simp only [List.flatten_cons, List.flatten_nil, List.append_nil, List.cons_append, List.nil_append]) (by simp only [List.flatten_cons, List.flatten_nil, List.append_nil, List.cons_append, List.nil_append]) rfl (by decide) rfl rfl rfl rfl hl.1 rfl (Nat.le_of_ble_eq_true rfl) dX4_obey_179 ⟨Nat.zero_le _, Nat.zero_le _⟩ (fun H locs hP hS => ?_)
              have hP : va_P (dC, dI) vwCl ((w4C cs a b15 (g4_tr y) (g4_hi y) (g4_tx y)).flatten) H := hP
              refine lv_pop hx hb dX4_obey_182 rfl ?_
              refine xk_iconst hx hb dX4_obey_183 ?_
              obtain rfl := Option.some.inj hf
              exact xe_wz hx hb hr (Or.inr rfl) hlocks hS hP dX4_obey_184
      · have hf := c9f c9
        obtain ⟨c17a, c17b, c17t, c17f⟩ := x_eqE hf
        by_cases c17 : p0 = 112
        · have hf := c17t c17
          refine xk_tabIn (tgt := 76) hx hb c17a c17 dX4_obey_1 (by decide) rfl (by decide) ?_
          refine lv_aload_n hx hb dX4_obey_76 rfl (lv_at hl 0 rfl) ?_
          refine va_get (D := (dC, dI)) (ci := 4) (v := .ref (a 1)) (C := RX4) (T := TX4) (N := 4) hx hb hts hin4 hown hK hP 0 rfl rfl 0 (by decide) (hts (.fieldLink RX4 10 "BoatRuns" "boat" "LBoatRuns$Boat;") (by decide +kernel)) (fun _ h9 => h9) rfl dX4_obey_77 ?_
          obtain ⟨v18, ev18, hf⟩ := x_bind hf
          refine xf_ri (As := []) (rest := []) (wcs := [w0 cs (x_sh a 1) (g4_bo y)]) ⟨hx, hb, hml, hown, hts⟩ (c0_allLoaded l dC dI cs (x_sh a 1) (g4_bo y)  _ ev18) (cwV 0 hts gX4_obey_X0_allLoaded rfl rfl rfl cdX0_allLoaded ⟨Nat.le_of_ble_eq_true rfl, Nat.le_of_ble_eq_true rfl⟩) hK hP [1] (by simp only [List.flatten_cons, List.flatten_nil, List.append_nil, List.cons_append, List.nil_append]) rfl rfl rfl rfl hl.1 rfl (Nat.le_of_ble_eq_true rfl) dX4_obey_80 ⟨Nat.zero_le _, Nat.zero_le _⟩ ?_
          obtain ⟨c19a, c19b, c19t, c19f⟩ := x_eqE hf
          refine xk_if_eq (tgt := 88) hx hb c19a dX4_obey_83 (by decide) (fun c19 => ?_) (fun c19 => ?_)
          · have hf := c19t c19
            refine lv_aload_n hx hb dX4_obey_88 rfl (lv_at hl 0 rfl) ?_
            refine va_get (D := (dC, dI)) (ci := 4) (v := .ref (a 1)) (C := RX4) (T := TX4) (N := 4) hx hb hts hin4 hown hK hP 0 rfl rfl 0 (by decide) (hts (.fieldLink RX4 10 "BoatRuns" "boat" "LBoatRuns$Boat;") (by decide +kernel)) (fun _ h9 => h9) rfl dX4_obey_89 ?_
            refine lv_iload_n hx hb dX4_obey_92 rfl (lv_at hl 2 rfl) ?_
            refine lv_iload_n hx hb dX4_obey_93 rfl (lv_at hl 3 rfl) ?_
            obtain ⟨⟨v21, b20⟩, eb20, hf⟩ := x_bind hf
            refine xf_wi (As := [.int (iI p1), .int (iI p2)]) (rest := []) (wcs := [w0 cs (x_sh a 1) (g4_bo y)]) (w1s := [w0 cs (x_sh a 1) b20]) ⟨hx, hb, hml, hown, hts⟩ (c0_take l dC dI cs (x_sh a 1) _ (g4_bo y) p1 p2  _ eb20) (cwV 2 hts gX4_obey_X0_take rfl rfl rfl cdX0_take ⟨Nat.le_of_ble_eq_true rfl, Nat.le_of_ble_eq_true rfl⟩) hK hP (x_addrF hD rfl) hS hA [1] (by simp only [List.flatten_cons, List.flatten_nil, List.append_nil, List.cons_append, List.nil_append]) (by simp only [List.flatten_cons, List.flatten_nil, List.append_nil, List.cons_append, List.nil_append]) rfl (by decide) rfl rfl rfl rfl hl.1 rfl (Nat.le_of_ble_eq_true rfl) dX4_obey_94 ⟨Nat.zero_le _, Nat.zero_le _⟩ (fun H locs hP hS => ?_)
            have hP : va_P (dC, dI) vwCl ((w4C cs a b20 (g4_tr y) (g4_hi y) (g4_tx y)).flatten) H := hP
            refine lv_pop hx hb dX4_obey_97 rfl ?_
            refine xk_iconst hx hb dX4_obey_98 ?_
            obtain rfl := Option.some.inj hf
            exact xe_wz hx hb hr (Or.inr rfl) hlocks hS hP dX4_obey_99
          · have hf := c19f c19
            refine xk_iconst hx hb dX4_obey_86 ?_
            obtain rfl := Option.some.inj hf
            exact xe_wz hx hb hr (Or.inl rfl) hlocks hS hP dX4_obey_87
        · have hf := c17f c17
          obtain ⟨c22a, c22b, c22t, c22f⟩ := x_eqE hf
          by_cases c22 : p0 = 115
          · have hf := c22t c22
            refine xk_tabIn (tgt := 133) hx hb c22a c22 dX4_obey_1 (by decide) rfl (by decide) ?_
            refine lv_aload_n hx hb dX4_obey_133 rfl (lv_at hl 0 rfl) ?_
            refine va_get (D := (dC, dI)) (ci := 4) (v := .ref (a 1)) (C := RX4) (T := TX4) (N := 4) hx hb hts hin4 hown hK hP 0 rfl rfl 0 (by decide) (hts (.fieldLink RX4 10 "BoatRuns" "boat" "LBoatRuns$Boat;") (by decide +kernel)) (fun _ h9 => h9) rfl dX4_obey_134 ?_
            refine lv_iload_n hx hb dX4_obey_137 rfl (lv_at hl 2 rfl) ?_
            obtain ⟨⟨v24, b23⟩, eb23, hf⟩ := x_bind hf
            refine xf_wi (As := [.int (iI p1)]) (rest := []) (wcs := [w0 cs (x_sh a 1) (g4_bo y)]) (w1s := [w0 cs (x_sh a 1) b23]) ⟨hx, hb, hml, hown, hts⟩ (c0_breakRuns l dC dI cs (x_sh a 1) _ (g4_bo y) p1  _ eb23) (cwV 1 hts gX4_obey_X0_breakRuns rfl rfl rfl cdX0_breakRuns ⟨Nat.le_of_ble_eq_true rfl, Nat.le_of_ble_eq_true rfl⟩) hK hP (x_addrF hD rfl) hS hA [1] (by simp only [List.flatten_cons, List.flatten_nil, List.append_nil, List.cons_append, List.nil_append]) (by simp only [List.flatten_cons, List.flatten_nil, List.append_nil, List.cons_append, List.nil_append]) rfl (by decide) rfl rfl rfl rfl hl.1 rfl (Nat.le_of_ble_eq_true rfl) dX4_obey_138 ⟨Nat.zero_le _, Nat.zero_le _⟩ (fun H locs hP hS => ?_)
            have hP : va_P (dC, dI) vwCl ((w4C cs a b23 (g4_tr y) (g4_hi y) (g4_tx y)).flatten) H := hP
            refine lv_pop hx hb dX4_obey_141 rfl ?_
            refine xk_iconst hx hb dX4_obey_142 ?_
            obtain rfl := Option.some.inj hf
            exact xe_wz hx hb hr (Or.inr rfl) hlocks hS hP dX4_obey_143
          · have hf := c22f c22
            have hdf : W p l e (headSpec wsX4_obey ({ frames := 5, cells := 0, slots := 0, locals := 116 } : Room)).room s m ([.ref (a 0), .int (iI p0), .int (iI p1), .int (iI p2)] : List Value).toArray below meth c s.heap [] 0 0 (MQ below (xQi (dC, dI) vwCl ((w4 cs a y).flatten) ((w4 cs a res.2).flatten) s.heap.size res.1) ([.ref (a 0), .int (iI p0), .int (iI p1), .int (iI p2)] : List Value).toArray s 0 0 (va_A ((w4 cs a y).flatten) s.heap.size)) (F0 m 185 ls []) := by
              refine xk_iconst hx hb dX4_obey_185 ?_
              obtain rfl := Option.some.inj hf
              exact xe_wz hx hb hr (Or.inl rfl) hlocks hS hP dX4_obey_186
            rcases (show p0 = 102 ∨ p0 = 103 ∨ p0 = 104 ∨ p0 = 105 ∨ p0 = 106 ∨ p0 = 107 ∨ p0 = 110 ∨ p0 = 111 ∨ p0 = 113 ∨ p0 = 114 ∨ (p0 < 101 ∨ 115 < p0) by omega) with hq | hq | hq | hq | hq | hq | hq | hq | hq | hq | hq
            · exact xk_tabIn (tgt := 185) hx hb c22a hq dX4_obey_1 (by decide) rfl (by decide) hdf
            · exact xk_tabIn (tgt := 185) hx hb c22a hq dX4_obey_1 (by decide) rfl (by decide) hdf
            · exact xk_tabIn (tgt := 185) hx hb c22a hq dX4_obey_1 (by decide) rfl (by decide) hdf
            · exact xk_tabIn (tgt := 185) hx hb c22a hq dX4_obey_1 (by decide) rfl (by decide) hdf
            · exact xk_tabIn (tgt := 185) hx hb c22a hq dX4_obey_1 (by decide) rfl (by decide) hdf
            · exact xk_tabIn (tgt := 185) hx hb c22a hq dX4_obey_1 (by decide) rfl (by decide) hdf
            · exact xk_tabIn (tgt := 185) hx hb c22a hq dX4_obey_1 (by decide) rfl (by decide) hdf
            · exact xk_tabIn (tgt := 185) hx hb c22a hq dX4_obey_1 (by decide) rfl (by decide) hdf
            · exact xk_tabIn (tgt := 185) hx hb c22a hq dX4_obey_1 (by decide) rfl (by decide) hdf
            · exact xk_tabIn (tgt := 185) hx hb c22a hq dX4_obey_1 (by decide) rfl (by decide) hdf
            · exact xk_tabOut (tgt := 185) hx hb c22a dX4_obey_1 hq (by decide) hdf
theorem cdX4_obey : yX4_obey.cls = RX4 ∧ yX4_obey.cls ≠ "java/lang/invoke/MethodHandle" ∧ yX4_obey.cls ≠ "java/lang/invoke/VarHandle" ∧ (parseMethodDescriptor yX4_obey.desc).map (fun d => d.parameters.length) = some 3 := by decide +kernel

set_option maxHeartbeats 4000000 in
set_option maxRecDepth 100000 in
theorem c4_carryOut (l : Launch) (dC : Nat → ClassId) (dI : Nat → Nat → Nat) (cs : Nat → ClassId) (a : Nat → Nat) (sz : Nat) (y : BrS) (res : Int × BrS) (hf : f4_carryOut y = some res) : Met l yX4_carryOut wsX4_carryOut ({ frames := 6, cells := 0, slots := 0, locals := 139 } : Room) (va_Pc [.ref (a 0)] (xPW (dC, dI) vwCl ((w4 cs a y).flatten) (xT cs) sz)) (xQi (dC, dI) vwCl ((w4 cs a y).flatten) ((w4 cs a res.2).flatten) sz res.1) 0 0 (va_A ((w4 cs a y).flatten) sz) := by
  refine Met.ofW (cc := cX4_carryOut) (maxL := 3) (ret := (some .int)) (by decide) rfl ?_
  intro p e s m args below meth c s₁ B hml hv
  obtain ⟨rfl, hsz, hP, hK, hD0⟩ := hv
  have hx := B.exec
  have hb := B.bytes
  have hr := B.returns
  have hts := atoms_spec (ws := wsX4_carryOut) B.pre
  have hown : s.vm.findClass RX4 = some m.cls := findClass_of_methodNamed B.named
  have hlocks := B.notSynchronized
  have hin4 : ∀ w ∈ wsX40, w ∈ wsX4_carryOut := by decide +kernel
  subst hsz
  have hD := hD0.self (sz := s.heap.size)
  have hA : ∀ z9 : Nat, s.heap.size ≤ z9 → va_A ((w4 cs a y).flatten) s.heap.size z9 := fun z9 h => Or.inr h
  have hS : va_S (va_A ((w4 cs a y).flatten) s.heap.size) s.heap s.heap [] := va_S.rf
  have hl := lv_entry [.ref (a 0)] (n := 3) (Nat.le_of_ble_eq_true rfl)
  rw [lg_entry_eq]
  generalize (lg_sl [.ref (a 0)] ++ List.replicate (3 - (lg_sl [.ref (a 0)]).length) Slot.unset).toArray = ls at hl ⊢
  have hl : lv_has ls 3 [(0, .ref (a 0))] := hl
  unfold f4_carryOut at hf
  refine lv_aload_n hx hb dX4_carryOut_0 rfl (lv_at hl 0 rfl) ?_
  refine va_get (D := (dC, dI)) (ci := 4) (v := .ref (a 93)) (C := RX4) (T := TX4) (N := 4) hx hb hts hin4 hown hK hP 0 rfl rfl 3 (by decide) (hts (.fieldLink RX4 29 "BoatRuns" "text" "LBoatRuns$Text;") (by decide +kernel)) (fun _ h9 => h9) rfl dX4_carryOut_1 ?_
  obtain ⟨⟨v2, t1⟩, et1, hf⟩ := x_bind hf
  refine xf_wi (As := []) (rest := []) (wcs := [w3 cs (x_sh a 93) (g4_tx y)]) (w1s := [w3 cs (x_sh a 93) t1]) ⟨hx, hb, hml, hown, hts⟩ (c3_readOrders l dC dI cs (x_sh a 93) _ (g4_tx y)  _ et1) (cwV 0 hts gX4_carryOut_X3_readOrders rfl rfl rfl cdX3_readOrders ⟨Nat.le_of_ble_eq_true rfl, Nat.le_of_ble_eq_true rfl⟩) hK hP (x_addrF hD rfl) hS hA [9] (by simp only [List.flatten_cons, List.flatten_nil, List.append_nil, List.cons_append, List.nil_append]) (by simp only [List.flatten_cons, List.flatten_nil, List.append_nil, List.cons_append, List.nil_append]) rfl (by decide) rfl rfl rfl rfl hl.1 rfl (Nat.le_of_ble_eq_true rfl) dX4_carryOut_4 ⟨Nat.zero_le _, Nat.zero_le _⟩ (fun H locs hP hS => ?_)
  have hP : va_P (dC, dI) vwCl ((w4C cs a (g4_bo y) (g4_tr y) (g4_hi y) t1).flatten) H := hP
  refine lv_istore_n (lv' := [(1, .int (iI v2)), (0, .ref (a 0))]) hx hb dX4_carryOut_7 rfl hl (by decide) rfl (fun ls hl => ?_)
  refine lv_iload_n hx hb dX4_carryOut_8 rfl (lv_at hl 0 rfl) ?_
  refine xk_iconst hx hb dX4_carryOut_9 ?_
  obtain ⟨c3a, c3b, c3t, c3f⟩ := x_eqE hf
  refine xk_icmp_eq (tgt := 18) hx hb c3a c3b dX4_carryOut_10 (by decide) (fun c3 => ?_) (fun c3 => ?_)
  · have hf := c3t c3
    refine lv_aload_n hx hb dX4_carryOut_18 rfl (lv_at hl 1 rfl) ?_
    refine va_get (D := (dC, dI)) (ci := 4) (v := .ref (a 31)) (C := RX4) (T := TX4) (N := 4) hx hb hts hin4 hown hK hP 0 rfl rfl 2 (by decide) (hts (.fieldLink RX4 22 "BoatRuns" "history" "LBoatRuns$History;") (by decide +kernel)) (fun _ h9 => h9) rfl dX4_carryOut_19 ?_
    refine lv_aload_n hx hb dX4_carryOut_22 rfl (lv_at hl 1 rfl) ?_
    refine va_get (D := (dC, dI)) (ci := 4) (v := .ref (a 1)) (C := RX4) (T := TX4) (N := 4) hx hb hts hin4 hown hK hP 0 rfl rfl 0 (by decide) (hts (.fieldLink RX4 10 "BoatRuns" "boat" "LBoatRuns$Boat;") (by decide +kernel)) (fun _ h9 => h9) rfl dX4_carryOut_23 ?_
    obtain ⟨h4, eh4, hf⟩ := x_bind hf
    refine xf_wv (As := [.ref (a 1)]) (rest := []) (wcs := w1 cs (x_sh a 31) (g4_hi y) ++ [w0 cs (x_sh a 1) (g4_bo y)]) (w1s := w1 cs (x_sh a 31) h4 ++ [w0 cs (x_sh a 1) (g4_bo y)]) ⟨hx, hb, hml, hown, hts⟩ (c1_save l dC dI cs (x_sh a 31) (x_sh a 1) _ (g4_hi y) (g4_bo y)  _ eh4) (cwV 1 hts gX4_carryOut_X1_save rfl rfl rfl cdX1_save ⟨Nat.le_of_ble_eq_true rfl, Nat.le_of_ble_eq_true rfl⟩) hK hP (x_addrF hD rfl) hS hA [3, 4, 5, 6, 7, 8, 1] rfl rfl rfl (by decide) rfl rfl rfl rfl hl.1 rfl (Nat.le_of_ble_eq_true rfl) dX4_carryOut_26 ⟨Nat.zero_le _, Nat.zero_le _⟩ (fun H locs hP hS => ?_)
    have hP : va_P (dC, dI) vwCl ((w4C cs a (g4_bo y) (g4_tr y) h4 t1).flatten) H := hP
    refine xk_iconst hx hb dX4_carryOut_29 ?_
    refine lv_istore_n (lv' := [(2, .int (iI 0)), (1, .int (iI v2)), (0, .ref (a 0))]) hx hb dX4_carryOut_30 rfl hl (by decide) rfl (fun ls hl => ?_)
    have hL31 : ∀ (n6 : Nat) (l2 : Int) (y5 : BrS), f4_carryOut_L31  n6 l2 y5 = some res → ∀ (H : Heap) (locs : List Loc), va_P (dC, dI) vwCl ((w4 cs a y5).flatten) H → va_S (va_A ((w4 cs a y).flatten) s.heap.size) s.heap H locs → ∀ (ls : Array Slot), lv_has ls 3 [(0, .ref (a 0)), (2, .int (iI l2))] → W p l e (headSpec wsX4_carryOut ({ frames := 6, cells := 0, slots := 0, locals := 139 } : Room)).room s m ([.ref (a 0)] : List Value).toArray below meth c H locs 0 0 (MQ below (xQi (dC, dI) vwCl ((w4 cs a y).flatten) ((w4 cs a res.2).flatten) s.heap.size res.1) ([.ref (a 0)] : List Value).toArray s 0 0 (va_A ((w4 cs a y).flatten) s.heap.size)) (F0 m 31 ls []) := by
      intro  n6
      induction n6 with
      | zero => intro l2 y5 hf; have hf : (none : Option (Int × BrS)) = some res := hf; cases hf
      | succ n6 ih31 =>
        intro l2 y5 hf H locs hP hS ls hl
        rw [f4_carryOut_L31] at hf
        refine lv_iload_n hx hb dX4_carryOut_31 rfl (lv_at hl 1 rfl) ?_
        refine lv_aload_n hx hb dX4_carryOut_32 rfl (lv_at hl 0 rfl) ?_
        refine va_get (D := (dC, dI)) (ci := 4) (v := .ref (a 93)) (C := RX4) (T := TX4) (N := 4) hx hb hts hin4 hown hK hP 0 rfl rfl 3 (by decide) (hts (.fieldLink RX4 29 "BoatRuns" "text" "LBoatRuns$Text;") (by decide +kernel)) (fun _ h9 => h9) rfl dX4_carryOut_33 ?_
        obtain ⟨v7, ev7, hf⟩ := x_bind hf
        refine xf_ri (As := []) (rest := [.int (iI l2)]) (wcs := [w3 cs (x_sh a 93) (g4_tx y5)]) ⟨hx, hb, hml, hown, hts⟩ (c3_orders l dC dI cs (x_sh a 93) (g4_tx y5)  _ ev7) (cwV 0 hts gX4_carryOut_X3_orders rfl rfl rfl cdX3_orders ⟨Nat.le_of_ble_eq_true rfl, Nat.le_of_ble_eq_true rfl⟩) hK hP [9] (by simp only [List.flatten_cons, List.flatten_nil, List.append_nil, List.cons_append, List.nil_append]) rfl rfl rfl rfl hl.1 rfl (Nat.le_of_ble_eq_true rfl) dX4_carryOut_36 ⟨Nat.zero_le _, Nat.zero_le _⟩ ?_
        obtain ⟨c8a, c8b, c8t, c8f⟩ := x_ltE hf
        refine xk_icmp_ge (tgt := 79) hx hb c8a c8b dX4_carryOut_39 (by decide) (fun c8 => ?_) (fun c8 => ?_)
        · have hf := c8t c8
          refine lv_aload_n hx hb dX4_carryOut_42 rfl (lv_at hl 0 rfl) ?_
          refine lv_aload_n hx hb dX4_carryOut_43 rfl (lv_at hl 0 rfl) ?_
          refine va_get (D := (dC, dI)) (ci := 4) (v := .ref (a 93)) (C := RX4) (T := TX4) (N := 4) hx hb hts hin4 hown hK hP 0 rfl rfl 3 (by decide) (hts (.fieldLink RX4 29 "BoatRuns" "text" "LBoatRuns$Text;") (by decide +kernel)) (fun _ h9 => h9) rfl dX4_carryOut_44 ?_
          refine lv_iload_n hx hb dX4_carryOut_47 rfl (lv_at hl 1 rfl) ?_
          obtain ⟨v9, ev9, hf⟩ := x_bind hf
          refine xf_ri (As := [.int (iI l2)]) (rest := [.ref (a 0)]) (wcs := [w3 cs (x_sh a 93) (g4_tx y5)]) ⟨hx, hb, hml, hown, hts⟩ (c3_kind l dC dI cs (x_sh a 93) (g4_tx y5) l2  _ ev9) (cwV 1 hts gX4_carryOut_X3_kind rfl rfl rfl cdX3_kind ⟨Nat.le_of_ble_eq_true rfl, Nat.le_of_ble_eq_true rfl⟩) hK hP [9] (by simp only [List.flatten_cons, List.flatten_nil, List.append_nil, List.cons_append, List.nil_append]) rfl rfl rfl rfl hl.1 rfl (Nat.le_of_ble_eq_true rfl) dX4_carryOut_48 ⟨Nat.zero_le _, Nat.zero_le _⟩ ?_
          refine lv_aload_n hx hb dX4_carryOut_51 rfl (lv_at hl 0 rfl) ?_
          refine va_get (D := (dC, dI)) (ci := 4) (v := .ref (a 93)) (C := RX4) (T := TX4) (N := 4) hx hb hts hin4 hown hK hP 0 rfl rfl 3 (by decide) (hts (.fieldLink RX4 29 "BoatRuns" "text" "LBoatRuns$Text;") (by decide +kernel)) (fun _ h9 => h9) rfl dX4_carryOut_52 ?_
          refine lv_iload_n hx hb dX4_carryOut_55 rfl (lv_at hl 1 rfl) ?_
          obtain ⟨v10, ev10, hf⟩ := x_bind hf
          refine xf_ri (As := [.int (iI l2)]) (rest := [.int (iI v9), .ref (a 0)]) (wcs := [w3 cs (x_sh a 93) (g4_tx y5)]) ⟨hx, hb, hml, hown, hts⟩ (c3_first l dC dI cs (x_sh a 93) (g4_tx y5) l2  _ ev10) (cwV 1 hts gX4_carryOut_X3_first rfl rfl rfl cdX3_first ⟨Nat.le_of_ble_eq_true rfl, Nat.le_of_ble_eq_true rfl⟩) hK hP [9] (by simp only [List.flatten_cons, List.flatten_nil, List.append_nil, List.cons_append, List.nil_append]) rfl rfl rfl rfl hl.1 rfl (Nat.le_of_ble_eq_true rfl) dX4_carryOut_56 ⟨Nat.zero_le _, Nat.zero_le _⟩ ?_
          refine lv_aload_n hx hb dX4_carryOut_59 rfl (lv_at hl 0 rfl) ?_
          refine va_get (D := (dC, dI)) (ci := 4) (v := .ref (a 93)) (C := RX4) (T := TX4) (N := 4) hx hb hts hin4 hown hK hP 0 rfl rfl 3 (by decide) (hts (.fieldLink RX4 29 "BoatRuns" "text" "LBoatRuns$Text;") (by decide +kernel)) (fun _ h9 => h9) rfl dX4_carryOut_60 ?_
          refine lv_iload_n hx hb dX4_carryOut_63 rfl (lv_at hl 1 rfl) ?_
          obtain ⟨v11, ev11, hf⟩ := x_bind hf
          refine xf_ri (As := [.int (iI l2)]) (rest := [.int (iI v10), .int (iI v9), .ref (a 0)]) (wcs := [w3 cs (x_sh a 93) (g4_tx y5)]) ⟨hx, hb, hml, hown, hts⟩ (c3_second l dC dI cs (x_sh a 93) (g4_tx y5) l2  _ ev11) (cwV 1 hts gX4_carryOut_X3_second rfl rfl rfl cdX3_second ⟨Nat.le_of_ble_eq_true rfl, Nat.le_of_ble_eq_true rfl⟩) hK hP [9] (by simp only [List.flatten_cons, List.flatten_nil, List.append_nil, List.cons_append, List.nil_append]) rfl rfl rfl rfl hl.1 rfl (Nat.le_of_ble_eq_true rfl) dX4_carryOut_64 ⟨Nat.zero_le _, Nat.zero_le _⟩ ?_
          obtain ⟨⟨v13, y12⟩, ey12, hf⟩ := x_bind hf
          refine xf_wi (As := [.int (iI v9), .int (iI v10), .int (iI v11)]) (rest := []) (wcs := w4 cs a y5) (w1s := w4 cs a y12) ⟨hx, hb, hml, hown, hts⟩ (c4_obey l dC dI cs a _ y5 v9 v10 v11  _ ey12) (cwV 3 hts gX4_carryOut_X4_obey rfl rfl rfl cdX4_obey ⟨Nat.le_of_ble_eq_true rfl, Nat.le_of_ble_eq_true rfl⟩) hK hP (x_addrF hD rfl) hS hA [0, 1, 2, 3, 4, 5, 6, 7, 8, 9] rfl rfl rfl (by decide) rfl rfl rfl rfl hl.1 rfl (Nat.le_of_ble_eq_true rfl) dX4_carryOut_67 ⟨Nat.zero_le _, Nat.zero_le _⟩ (fun H locs hP hS => ?_)
          have hP : va_P (dC, dI) vwCl ((w4 cs a y12).flatten) H := hP
          obtain ⟨c14a, c14b, c14t, c14f⟩ := x_eqE hf
          refine xk_if_eq (tgt := 79) hx hb c14a dX4_carryOut_70 (by decide) (fun c14 => ?_) (fun c14 => ?_)
          · have hf := c14t c14
            refine lv_iload_n hx hb dX4_carryOut_79 rfl (lv_at hl 1 rfl) ?_
            obtain rfl := Option.some.inj hf
            exact xe_wi hx hb hr hlocks hS hP dX4_carryOut_80
          · have hf := c14f c14
            refine xk_iinc (lv' := [(2, .int (iI (l2 + 1))), (0, .ref (a 0))]) hx hb dX4_carryOut_73 hl (k := 1) rfl (by decide) rfl (fun ls hl => ?_)
            refine lv_goto (tgt := 31) hx hb dX4_carryOut_76 (by decide) ?_
            exact ih31 (l2 + 1) y12 hf _ _ hP hS ls (lv_sub hl [1, 0] rfl)
        · have hf := c8f c8
          refine lv_iload_n hx hb dX4_carryOut_79 rfl (lv_at hl 1 rfl) ?_
          obtain rfl := Option.some.inj hf
          exact xe_wi hx hb hr hlocks hS hP dX4_carryOut_80
    exact hL31  xFU 0 (s4_hi (s4_tx y t1) h4) hf _ _ hP hS ls (lv_sub hl [2, 0] rfl)
  · have hf := c3f c3
    refine xk_bipush hx hb dX4_carryOut_13 (by decide) ?_
    refine lv_iload_n hx hb dX4_carryOut_15 rfl (lv_at hl 0 rfl) ?_
    refine xk_isub hx hb dX4_carryOut_16 ?_
    obtain rfl := Option.some.inj hf
    exact xe_wi hx hb hr hlocks hS hP dX4_carryOut_17
theorem cdX4_carryOut : yX4_carryOut.cls = RX4 ∧ yX4_carryOut.cls ≠ "java/lang/invoke/MethodHandle" ∧ yX4_carryOut.cls ≠ "java/lang/invoke/VarHandle" ∧ (parseMethodDescriptor yX4_carryOut.desc).map (fun d => d.parameters.length) = some 0 := by decide +kernel

set_option maxHeartbeats 4000000 in
set_option maxRecDepth 100000 in
theorem c4_undo (l : Launch) (hlS : l.stackTraces = false) (dC : Nat → ClassId) (dI : Nat → Nat → Nat) (cs : Nat → ClassId) (a : Nat → Nat) (sz : Nat) (y : BrS) (res : Int × Int × BrS) (hf : f4_undo y = some res) : vx_Met l yX4_undo wsX4_undo ({ frames := 6, cells := 1, slots := 6, locals := 82 } : Room) (va_Pc [.ref (a 0)] (xPX (dC, dI) vwCl ((w4 cs a y).flatten) (xT cs) sz)) (xQx (dC, dI) vwCl ((w4 cs a y).flatten) ((w4 cs a res.2.2).flatten) sz res.1 res.2.1) (xXx (dC, dI) vwCl ((w4 cs a y).flatten) sz res.1) 1 6 (va_A ((w4 cs a y).flatten) sz) := by
  refine vx_ofW (cc := cX4_undo) (maxL := 1) (ret := (some .int)) (by decide) rfl ?_
  intro p e s m args below meth c s₁ B hml htb hv
  obtain ⟨rfl, ⟨hsz, hP, hK, hD0⟩, hTh⟩ := hv
  have hx := B.exec
  have hb := B.bytes
  have hr := B.returns
  have hts := atoms_spec (ws := wsX4_undo) B.pre
  have hown : s.vm.findClass RX4 = some m.cls := findClass_of_methodNamed B.named
  have hlocks := B.notSynchronized
  have hE2 : ∀ w ∈ (vx_atS RX4 62 "java/lang/IllegalStateException" x_exn).filter goodWord, w ∈ wsX4_undo := by decide +kernel
  have hin4 : ∀ w ∈ wsX40, w ∈ wsX4_undo := by decide +kernel
  subst hsz
  have hD := hD0.self (sz := s.heap.size)
  have hA : ∀ z9 : Nat, s.heap.size ≤ z9 → va_A ((w4 cs a y).flatten) s.heap.size z9 := fun z9 h => Or.inr h
  have hS : va_S (va_A ((w4 cs a y).flatten) s.heap.size) s.heap s.heap [] := va_S.rf
  have hl := lv_entry [.ref (a 0)] (n := 1) (Nat.le_of_ble_eq_true rfl)
  rw [lg_entry_eq]
  generalize (lg_sl [.ref (a 0)] ++ List.replicate (1 - (lg_sl [.ref (a 0)]).length) Slot.unset).toArray = ls at hl ⊢
  have hl : lv_has ls 1 [(0, .ref (a 0))] := hl
  unfold f4_undo at hf
  refine lv_aload_n hx hb dX4_undo_0 rfl (lv_at hl 0 rfl) ?_
  refine va_get (D := (dC, dI)) (ci := 4) (v := .ref (a 31)) (C := RX4) (T := TX4) (N := 4) hx hb hts hin4 hown hK hP 0 rfl rfl 2 (by decide) (hts (.fieldLink RX4 22 "BoatRuns" "history" "LBoatRuns$History;") (by decide +kernel)) (fun _ h9 => h9) rfl dX4_undo_1 ?_
  obtain ⟨v1, ev1, hf⟩ := x_bind hf
  refine xf_ri (As := []) (rest := []) (wcs := w1 cs (x_sh a 31) (g4_hi y)) ⟨hx, hb, hml, hown, hts⟩ (c1_count l dC dI cs (x_sh a 31) (g4_hi y)  _ ev1) (cwV 0 hts gX4_undo_X1_count rfl rfl rfl cdX1_count ⟨Nat.le_of_ble_eq_true rfl, Nat.le_of_ble_eq_true rfl⟩) hK hP [3, 4, 5, 6, 7, 8] rfl rfl rfl rfl rfl hl.1 rfl (Nat.le_of_ble_eq_true rfl) dX4_undo_4 ⟨Nat.zero_le _, Nat.zero_le _⟩ ?_
  obtain ⟨c2a, c2b, c2t, c2f⟩ := x_eqE hf
  refine xk_if_ne (tgt := 20) hx hb c2a dX4_undo_7 (by decide) (fun c2 => ?_) (fun c2 => ?_)
  · have hf := c2t c2
    obtain rfl := Option.some.inj hf
    obtain ⟨sa9, hsa⟩ := hTh.2.2.2 (208, "there is no saved state") (by decide)
    exact vx_throwS (own := RX4) (cls := "java/lang/IllegalStateException") (names := x_exn) (ik := 58) (is := 208) (ic := 62) (text := "there is no saved state") hx hb hlS hown (by decide) (by decide) (hts (.classLink RX4 58 "java/lang/IllegalStateException") (by decide +kernel)) (hts (.initialized "java/lang/IllegalStateException") (by decide +kernel)) hsa (vx_hat (fun w hw => hts w (hE2 w hw)) xn_2 (fun w hw => va_Nw.use (x_ont_2 w hw) (hTh.1 w (x_sub_2 w hw)))) xg_2 hTh.2.1 hTh.2.2.1 hS (hl.1.trans hml.symm) dX4_undo_10 dX4_undo_13 dX4_undo_14 dX4_undo_16 dX4_undo_19 (fun x hx9 => (htb x hx9).elim) (Nat.le_of_ble_eq_true rfl) (Nat.le_of_ble_eq_true rfl) (Nat.le_of_ble_eq_true rfl) (Nat.le_of_ble_eq_true rfl) hlocks (fun t hvm hz hk => xe_thx (show ¬ ((2 : Int) = 0) by decide) rfl hP hS hz hk) hS.2.2 (Nat.le_refl _) (Nat.le_refl _)
  · have hf := c2f c2
    refine lv_aload_n hx hb dX4_undo_20 rfl (lv_at hl 0 rfl) ?_
    refine va_get (D := (dC, dI)) (ci := 4) (v := .ref (a 31)) (C := RX4) (T := TX4) (N := 4) hx hb hts hin4 hown hK hP 0 rfl rfl 2 (by decide) (hts (.fieldLink RX4 22 "BoatRuns" "history" "LBoatRuns$History;") (by decide +kernel)) (fun _ h9 => h9) rfl dX4_undo_21 ?_
    refine lv_aload_n hx hb dX4_undo_24 rfl (lv_at hl 0 rfl) ?_
    refine va_get (D := (dC, dI)) (ci := 4) (v := .ref (a 1)) (C := RX4) (T := TX4) (N := 4) hx hb hts hin4 hown hK hP 0 rfl rfl 0 (by decide) (hts (.fieldLink RX4 10 "BoatRuns" "boat" "LBoatRuns$Boat;") (by decide +kernel)) (fun _ h9 => h9) rfl dX4_undo_25 ?_
    obtain ⟨⟨h3, b4⟩, eh3, hf⟩ := x_bind hf
    refine xf_wv (As := [.ref (a 1)]) (rest := []) (wcs := w1 cs (x_sh a 31) (g4_hi y) ++ [w0 cs (x_sh a 1) (g4_bo y)]) (w1s := w1 cs (x_sh a 31) h3 ++ [w0 cs (x_sh a 1) b4]) ⟨hx, hb, hml, hown, hts⟩ (c1_restore l dC dI cs (x_sh a 31) (x_sh a 1) _ (g4_hi y) (g4_bo y)  _ eh3) (cwV 1 hts gX4_undo_X1_restore rfl rfl rfl cdX1_restore ⟨Nat.le_of_ble_eq_true rfl, Nat.le_of_ble_eq_true rfl⟩) hK hP (x_addrF hD rfl) hS hA [3, 4, 5, 6, 7, 8, 1] rfl rfl rfl (by decide) rfl rfl rfl rfl hl.1 rfl (Nat.le_of_ble_eq_true rfl) dX4_undo_28 ⟨Nat.zero_le _, Nat.zero_le _⟩ (fun H locs hP hS => ?_)
    have hP : va_P (dC, dI) vwCl ((w4C cs a b4 (g4_tr y) h3 (g4_tx y)).flatten) H := hP
    refine lv_aload_n hx hb dX4_undo_31 rfl (lv_at hl 0 rfl) ?_
    refine va_get (D := (dC, dI)) (ci := 4) (v := .ref (a 31)) (C := RX4) (T := TX4) (N := 4) hx hb hts hin4 hown hK hP 0 rfl rfl 2 (by decide) (hts (.fieldLink RX4 22 "BoatRuns" "history" "LBoatRuns$History;") (by decide +kernel)) (fun _ h9 => h9) rfl dX4_undo_32 ?_
    obtain ⟨v5, ev5, hf⟩ := x_bind hf
    refine xf_ri (As := []) (rest := []) (wcs := w1 cs (x_sh a 31) h3) ⟨hx, hb, hml, hown, hts⟩ (c1_count l dC dI cs (x_sh a 31) h3  _ ev5) (cwV 0 hts gX4_undo_X1_count rfl rfl rfl cdX1_count ⟨Nat.le_of_ble_eq_true rfl, Nat.le_of_ble_eq_true rfl⟩) hK hP [3, 4, 5, 6, 7, 8] rfl rfl rfl rfl rfl hl.1 rfl (Nat.le_of_ble_eq_true rfl) dX4_undo_35 ⟨Nat.zero_le _, Nat.zero_le _⟩ ?_
    obtain rfl := Option.some.inj hf
    refine W.widen (k := 1) (n := 6) (by decide) (by decide) ?_
    exact vx_ret (xe_xi hx hb hr hlocks hS hP rfl dX4_undo_38)
theorem cdX4_undo : yX4_undo.cls = RX4 ∧ yX4_undo.cls ≠ "java/lang/invoke/MethodHandle" ∧ yX4_undo.cls ≠ "java/lang/invoke/VarHandle" ∧ (parseMethodDescriptor yX4_undo.desc).map (fun d => d.parameters.length) = some 0 := by decide +kernel

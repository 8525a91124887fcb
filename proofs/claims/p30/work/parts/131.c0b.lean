set_option maxHeartbeats 4000000 in
set_option maxRecDepth 100000 in
theorem c0_parcelAt (l : Launch) (dC : Nat → ClassId) (dI : Nat → Nat → Nat) (cs : Nat → ClassId) (a : Nat → Nat) (b : BoatS) (p0 : Int) (p1 : Int) (res : Int) (hf : f0_parcelAt b p0 p1 = some res) : Met l yX0_parcelAt wsX0_parcelAt ({ frames := 1, cells := 0, slots := 0, locals := 21 } : Room) (va_Pc [.ref (a 0), .int (iI p0), .int (iI p1)] (xPR (dC, dI) vwCl (w0 cs a b) (xT cs))) (vp_Si (fun r => r = iI res)) 0 0 (fun _ => False) := by
  refine Met.ofW (cc := cX0_parcelAt) (maxL := 6) (ret := (some .int)) (by decide) rfl ?_
  intro p e s m args below meth c s₁ B hml hv
  obtain ⟨rfl, hP, hK⟩ := hv
  have hx := B.exec
  have hb := B.bytes
  have hr := B.returns
  have hts := atoms_spec (ws := wsX0_parcelAt) B.pre
  have hown : s.vm.findClass RX0 = some m.cls := findClass_of_methodNamed B.named
  have hlocks := B.notSynchronized
  have hin0 : ∀ w ∈ wsX00, w ∈ wsX0_parcelAt := by decide +kernel
  have hl := lv_entry [.ref (a 0), .int (iI p0), .int (iI p1)] (n := 6) (Nat.le_of_ble_eq_true rfl)
  rw [lg_entry_eq]
  generalize (lg_sl [.ref (a 0), .int (iI p0), .int (iI p1)] ++ List.replicate (6 - (lg_sl [.ref (a 0), .int (iI p0), .int (iI p1)]).length) Slot.unset).toArray = ls at hl ⊢
  have hl : lv_has ls 6 [(0, .ref (a 0)), (1, .int (iI p0)), (2, .int (iI p1))] := hl
  unfold f0_parcelAt at hf
  refine lv_iload_n hx hb dX0_parcelAt_0 rfl (lv_at hl 2 rfl) ?_
  refine lv_istore_n (lv' := [(3, .int (iI p1)), (0, .ref (a 0)), (1, .int (iI p0)), (2, .int (iI p1))]) hx hb dX0_parcelAt_1 rfl hl (by decide) rfl (fun ls hl => ?_)
  refine xk_iconst hx hb dX0_parcelAt_2 ?_
  refine lv_istore (lv' := [(4, .int (iI 0)), (3, .int (iI p1)), (0, .ref (a 0)), (1, .int (iI p0)), (2, .int (iI p1))]) hx hb dX0_parcelAt_3 hl (by decide) rfl (fun ls hl => ?_)
  have hL5 : ∀ (n1 : Nat) (l3 : Int) (l4 : Int), f0_parcelAt_L5 b p0 n1 l3 l4 = some res → ∀ (ls : Array Slot), lv_has ls 6 [(0, .ref (a 0)), (1, .int (iI p0)), (3, .int (iI l3)), (4, .int (iI l4))] → W p l e (headSpec wsX0_parcelAt ({ frames := 1, cells := 0, slots := 0, locals := 21 } : Room)).room s m ([.ref (a 0), .int (iI p0), .int (iI p1)] : List Value).toArray below meth c s.heap [] 0 0 (MQ below (vp_Si (fun r => r = iI res)) ([.ref (a 0), .int (iI p0), .int (iI p1)] : List Value).toArray s 0 0 (fun _ => False)) (F0 m 5 ls []) := by
    intro  n1
    induction n1 with
    | zero => intro l3 l4 hf; have hf : (none : Option (Int)) = some res := hf; cases hf
    | succ n1 ih5 =>
      intro l3 l4 hf ls hl
      rw [f0_parcelAt_L5] at hf
      refine lv_iload hx hb dX0_parcelAt_5 (lv_at hl 3 rfl) ?_
      refine lv_aload_n hx hb dX0_parcelAt_7 rfl (lv_at hl 0 rfl) ?_
      refine va_get (D := (dC, dI)) (ci := 0) (v := .ref (a 4)) (C := RX0) (T := TX0) (N := 14) hx hb hts hin0 hown hK hP 0 rfl rfl 4 (by decide) (hts (.fieldLink RX0 33 "BoatRuns$Boat" "order" "LBoatRuns$Row;") (by decide +kernel)) (fun _ h9 => h9) rfl dX0_parcelAt_8 ?_
      obtain ⟨v2, ev2, hf⟩ := x_bind hf
      refine xc_ri (As := []) (rest := [.int (iI l4)]) ⟨hx, hb, hml, hown, hts⟩ (c2_size l dC dI cs (a 4) (a 11) 120 (g0_ords b) (by decide) _ ev2) (cwV 0 hts gX0_parcelAt_X2_size rfl rfl rfl cdX2_size ⟨Nat.le_of_ble_eq_true rfl, Nat.le_of_ble_eq_true rfl⟩) hK hP [4, 11] rfl 4 rfl rfl rfl hl.1 rfl (Nat.le_of_ble_eq_true rfl) dX0_parcelAt_11 ⟨Nat.zero_le _, Nat.zero_le _⟩ ?_
      obtain ⟨c3a, c3b, c3t, c3f⟩ := x_ltE hf
      refine xk_icmp_ge (tgt := 57) hx hb c3a c3b dX0_parcelAt_14 (by decide) (fun c3 => ?_) (fun c3 => ?_)
      · have hf := c3t c3
        refine lv_aload_n hx hb dX0_parcelAt_17 rfl (lv_at hl 0 rfl) ?_
        refine va_get (D := (dC, dI)) (ci := 0) (v := .ref (a 4)) (C := RX0) (T := TX0) (N := 14) hx hb hts hin0 hown hK hP 0 rfl rfl 4 (by decide) (hts (.fieldLink RX0 33 "BoatRuns$Boat" "order" "LBoatRuns$Row;") (by decide +kernel)) (fun _ h9 => h9) rfl dX0_parcelAt_18 ?_
        refine lv_iload hx hb dX0_parcelAt_21 (lv_at hl 3 rfl) ?_
        obtain ⟨v4, ev4, hf⟩ := x_bind hf
        refine xc_ri (As := [.int (iI l4)]) (rest := []) ⟨hx, hb, hml, hown, hts⟩ (c2_get l dC dI cs (a 4) (a 11) 120 (g0_ords b) l4 (by decide) _ ev4) (cwV 1 hts gX0_parcelAt_X2_get rfl rfl rfl cdX2_get ⟨Nat.le_of_ble_eq_true rfl, Nat.le_of_ble_eq_true rfl⟩) hK hP [4, 11] rfl 4 rfl rfl rfl hl.1 rfl (Nat.le_of_ble_eq_true rfl) dX0_parcelAt_23 ⟨Nat.zero_le _, Nat.zero_le _⟩ ?_
        refine lv_istore (lv' := [(5, .int (iI v4)), (0, .ref (a 0)), (1, .int (iI p0)), (3, .int (iI l3)), (4, .int (iI l4))]) hx hb dX0_parcelAt_26 hl (by decide) rfl (fun ls hl => ?_)
        refine lv_aload_n hx hb dX0_parcelAt_28 rfl (lv_at hl 1 rfl) ?_
        refine va_get (D := (dC, dI)) (ci := 0) (v := .ref (a 3)) (C := RX0) (T := TX0) (N := 14) hx hb hts hin0 hown hK hP 0 rfl rfl 3 (by decide) (hts (.fieldLink RX0 30 "BoatRuns$Boat" "homes" "LBoatRuns$Row;") (by decide +kernel)) (fun _ h9 => h9) rfl dX0_parcelAt_29 ?_
        refine lv_iload hx hb dX0_parcelAt_32 (lv_at hl 0 rfl) ?_
        obtain ⟨v5, ev5, hf⟩ := x_bind hf
        refine xc_ri (As := [.int (iI v4)]) (rest := []) ⟨hx, hb, hml, hown, hts⟩ (c2_get l dC dI cs (a 3) (a 10) 120 (g0_homs b) v4 (by decide) _ ev5) (cwV 1 hts gX0_parcelAt_X2_get rfl rfl rfl cdX2_get ⟨Nat.le_of_ble_eq_true rfl, Nat.le_of_ble_eq_true rfl⟩) hK hP [3, 10] rfl 3 rfl rfl rfl hl.1 rfl (Nat.le_of_ble_eq_true rfl) dX0_parcelAt_34 ⟨Nat.zero_le _, Nat.zero_le _⟩ ?_
        refine lv_iload_n hx hb dX0_parcelAt_37 rfl (lv_at hl 2 rfl) ?_
        obtain ⟨c6a, c6b, c6t, c6f⟩ := x_eqE hf
        refine xk_icmp_ne (tgt := 51) hx hb c6a c6b dX0_parcelAt_38 (by decide) (fun c6 => ?_) (fun c6 => ?_)
        · have hf := c6t c6
          refine lv_iload_n hx hb dX0_parcelAt_41 rfl (lv_at hl 3 rfl) ?_
          obtain ⟨c7a, c7b, c7t, c7f⟩ := x_eqE hf
          refine xk_if_ne (tgt := 48) hx hb c7a dX0_parcelAt_42 (by decide) (fun c7 => ?_) (fun c7 => ?_)
          · have hf := c7t c7
            refine lv_iload hx hb dX0_parcelAt_45 (lv_at hl 0 rfl) ?_
            obtain rfl := Option.some.inj hf
            exact xe_ri hx hb hr hlocks dX0_parcelAt_47 rfl
          · have hf := c7f c7
            refine xk_iinc (lv' := [(3, .int (iI (l3 + (-1)))), (5, .int (iI v4)), (0, .ref (a 0)), (1, .int (iI p0)), (4, .int (iI l4))]) hx hb dX0_parcelAt_48 hl (k := 3) rfl (by decide) rfl (fun ls hl => ?_)
            refine xk_iinc (lv' := [(4, .int (iI (l4 + 1))), (3, .int (iI (l3 + (-1)))), (5, .int (iI v4)), (0, .ref (a 0)), (1, .int (iI p0))]) hx hb dX0_parcelAt_51 hl (k := 4) rfl (by decide) rfl (fun ls hl => ?_)
            refine lv_goto (tgt := 5) hx hb dX0_parcelAt_54 (by decide) ?_
            exact ih5 (l3 + (-1)) (l4 + 1) hf ls (lv_sub hl [3, 4, 1, 0] rfl)
        · have hf := c6f c6
          refine xk_iinc (lv' := [(4, .int (iI (l4 + 1))), (5, .int (iI v4)), (0, .ref (a 0)), (1, .int (iI p0)), (3, .int (iI l3))]) hx hb dX0_parcelAt_51 hl (k := 4) rfl (by decide) rfl (fun ls hl => ?_)
          refine lv_goto (tgt := 5) hx hb dX0_parcelAt_54 (by decide) ?_
          exact ih5 l3 (l4 + 1) hf ls (lv_sub hl [2, 3, 4, 0] rfl)
      · have hf := c3f c3
        refine xk_iconst hx hb dX0_parcelAt_57 ?_
        obtain rfl := Option.some.inj hf
        exact xe_ri hx hb hr hlocks dX0_parcelAt_58 rfl
  exact hL5  xFU p1 0 hf ls (lv_sub hl [2, 3, 1, 0] rfl)
theorem cdX0_parcelAt : yX0_parcelAt.cls = RX0 ∧ yX0_parcelAt.cls ≠ "java/lang/invoke/MethodHandle" ∧ yX0_parcelAt.cls ≠ "java/lang/invoke/VarHandle" ∧ (parseMethodDescriptor yX0_parcelAt.desc).map (fun d => d.parameters.length) = some 2 := by decide +kernel

set_option maxHeartbeats 4000000 in
set_option maxRecDepth 100000 in
theorem c0_lastAt (l : Launch) (dC : Nat → ClassId) (dI : Nat → Nat → Nat) (cs : Nat → ClassId) (a : Nat → Nat) (b : BoatS) (p0 : Int) (res : Int) (hf : f0_lastAt b p0 = some res) : Met l yX0_lastAt wsX0_lastAt ({ frames := 1, cells := 0, slots := 0, locals := 21 } : Room) (va_Pc [.ref (a 0), .int (iI p0)] (xPR (dC, dI) vwCl (w0 cs a b) (xT cs))) (vp_Si (fun r => r = iI res)) 0 0 (fun _ => False) := by
  refine Met.ofW (cc := cX0_lastAt) (maxL := 4) (ret := (some .int)) (by decide) rfl ?_
  intro p e s m args below meth c s₁ B hml hv
  obtain ⟨rfl, hP, hK⟩ := hv
  have hx := B.exec
  have hb := B.bytes
  have hr := B.returns
  have hts := atoms_spec (ws := wsX0_lastAt) B.pre
  have hown : s.vm.findClass RX0 = some m.cls := findClass_of_methodNamed B.named
  have hlocks := B.notSynchronized
  have hin0 : ∀ w ∈ wsX00, w ∈ wsX0_lastAt := by decide +kernel
  have hl := lv_entry [.ref (a 0), .int (iI p0)] (n := 4) (Nat.le_of_ble_eq_true rfl)
  rw [lg_entry_eq]
  generalize (lg_sl [.ref (a 0), .int (iI p0)] ++ List.replicate (4 - (lg_sl [.ref (a 0), .int (iI p0)]).length) Slot.unset).toArray = ls at hl ⊢
  have hl : lv_has ls 4 [(0, .ref (a 0)), (1, .int (iI p0))] := hl
  unfold f0_lastAt at hf
  refine lv_aload_n hx hb dX0_lastAt_0 rfl (lv_at hl 0 rfl) ?_
  refine va_get (D := (dC, dI)) (ci := 0) (v := .ref (a 4)) (C := RX0) (T := TX0) (N := 14) hx hb hts hin0 hown hK hP 0 rfl rfl 4 (by decide) (hts (.fieldLink RX0 33 "BoatRuns$Boat" "order" "LBoatRuns$Row;") (by decide +kernel)) (fun _ h9 => h9) rfl dX0_lastAt_1 ?_
  obtain ⟨v1, ev1, hf⟩ := x_bind hf
  refine xc_ri (As := []) (rest := []) ⟨hx, hb, hml, hown, hts⟩ (c2_size l dC dI cs (a 4) (a 11) 120 (g0_ords b) (by decide) _ ev1) (cwV 0 hts gX0_lastAt_X2_size rfl rfl rfl cdX2_size ⟨Nat.le_of_ble_eq_true rfl, Nat.le_of_ble_eq_true rfl⟩) hK hP [4, 11] rfl 4 rfl rfl rfl hl.1 rfl (Nat.le_of_ble_eq_true rfl) dX0_lastAt_4 ⟨Nat.zero_le _, Nat.zero_le _⟩ ?_
  refine xk_iconst hx hb dX0_lastAt_7 ?_
  refine xk_isub hx hb dX0_lastAt_8 ?_
  refine lv_istore_n (lv' := [(2, .int (iI (v1 - 1))), (0, .ref (a 0)), (1, .int (iI p0))]) hx hb dX0_lastAt_9 rfl hl (by decide) rfl (fun ls hl => ?_)
  have hL10 : ∀ (n2 : Nat) (l2 : Int), f0_lastAt_L10 b p0 n2 l2 = some res → ∀ (ls : Array Slot), lv_has ls 4 [(0, .ref (a 0)), (1, .int (iI p0)), (2, .int (iI l2))] → W p l e (headSpec wsX0_lastAt ({ frames := 1, cells := 0, slots := 0, locals := 21 } : Room)).room s m ([.ref (a 0), .int (iI p0)] : List Value).toArray below meth c s.heap [] 0 0 (MQ below (vp_Si (fun r => r = iI res)) ([.ref (a 0), .int (iI p0)] : List Value).toArray s 0 0 (fun _ => False)) (F0 m 10 ls []) := by
    intro  n2
    induction n2 with
    | zero => intro l2 hf; have hf : (none : Option (Int)) = some res := hf; cases hf
    | succ n2 ih10 =>
      intro l2 hf ls hl
      rw [f0_lastAt_L10] at hf
      refine lv_iload_n hx hb dX0_lastAt_10 rfl (lv_at hl 2 rfl) ?_
      obtain ⟨c3a, c3b, c3t, c3f⟩ := x_ltE hf
      refine xk_if_lt (tgt := 43) hx hb c3a dX0_lastAt_11 (by decide) (fun c3 => ?_) (fun c3 => ?_)
      · have hf := c3t c3
        refine xk_iconst hx hb dX0_lastAt_43 ?_
        obtain rfl := Option.some.inj hf
        exact xe_ri hx hb hr hlocks dX0_lastAt_44 rfl
      · have hf := c3f c3
        refine lv_aload_n hx hb dX0_lastAt_14 rfl (lv_at hl 0 rfl) ?_
        refine va_get (D := (dC, dI)) (ci := 0) (v := .ref (a 4)) (C := RX0) (T := TX0) (N := 14) hx hb hts hin0 hown hK hP 0 rfl rfl 4 (by decide) (hts (.fieldLink RX0 33 "BoatRuns$Boat" "order" "LBoatRuns$Row;") (by decide +kernel)) (fun _ h9 => h9) rfl dX0_lastAt_15 ?_
        refine lv_iload_n hx hb dX0_lastAt_18 rfl (lv_at hl 2 rfl) ?_
        obtain ⟨v4, ev4, hf⟩ := x_bind hf
        refine xc_ri (As := [.int (iI l2)]) (rest := []) ⟨hx, hb, hml, hown, hts⟩ (c2_get l dC dI cs (a 4) (a 11) 120 (g0_ords b) l2 (by decide) _ ev4) (cwV 1 hts gX0_lastAt_X2_get rfl rfl rfl cdX2_get ⟨Nat.le_of_ble_eq_true rfl, Nat.le_of_ble_eq_true rfl⟩) hK hP [4, 11] rfl 4 rfl rfl rfl hl.1 rfl (Nat.le_of_ble_eq_true rfl) dX0_lastAt_19 ⟨Nat.zero_le _, Nat.zero_le _⟩ ?_
        refine lv_istore_n (lv' := [(3, .int (iI v4)), (0, .ref (a 0)), (1, .int (iI p0)), (2, .int (iI l2))]) hx hb dX0_lastAt_22 rfl hl (by decide) rfl (fun ls hl => ?_)
        refine lv_aload_n hx hb dX0_lastAt_23 rfl (lv_at hl 1 rfl) ?_
        refine va_get (D := (dC, dI)) (ci := 0) (v := .ref (a 3)) (C := RX0) (T := TX0) (N := 14) hx hb hts hin0 hown hK hP 0 rfl rfl 3 (by decide) (hts (.fieldLink RX0 30 "BoatRuns$Boat" "homes" "LBoatRuns$Row;") (by decide +kernel)) (fun _ h9 => h9) rfl dX0_lastAt_24 ?_
        refine lv_iload_n hx hb dX0_lastAt_27 rfl (lv_at hl 0 rfl) ?_
        obtain ⟨v5, ev5, hf⟩ := x_bind hf
        refine xc_ri (As := [.int (iI v4)]) (rest := []) ⟨hx, hb, hml, hown, hts⟩ (c2_get l dC dI cs (a 3) (a 10) 120 (g0_homs b) v4 (by decide) _ ev5) (cwV 1 hts gX0_lastAt_X2_get rfl rfl rfl cdX2_get ⟨Nat.le_of_ble_eq_true rfl, Nat.le_of_ble_eq_true rfl⟩) hK hP [3, 10] rfl 3 rfl rfl rfl hl.1 rfl (Nat.le_of_ble_eq_true rfl) dX0_lastAt_28 ⟨Nat.zero_le _, Nat.zero_le _⟩ ?_
        refine lv_iload_n hx hb dX0_lastAt_31 rfl (lv_at hl 2 rfl) ?_
        obtain ⟨c6a, c6b, c6t, c6f⟩ := x_eqE hf
        refine xk_icmp_ne (tgt := 37) hx hb c6a c6b dX0_lastAt_32 (by decide) (fun c6 => ?_) (fun c6 => ?_)
        · have hf := c6t c6
          refine lv_iload_n hx hb dX0_lastAt_35 rfl (lv_at hl 0 rfl) ?_
          obtain rfl := Option.some.inj hf
          exact xe_ri hx hb hr hlocks dX0_lastAt_36 rfl
        · have hf := c6f c6
          refine xk_iinc (lv' := [(2, .int (iI (l2 + (-1)))), (3, .int (iI v4)), (0, .ref (a 0)), (1, .int (iI p0))]) hx hb dX0_lastAt_37 hl (k := 3) rfl (by decide) rfl (fun ls hl => ?_)
          refine lv_goto (tgt := 10) hx hb dX0_lastAt_40 (by decide) ?_
          exact ih10 (l2 + (-1)) hf ls (lv_sub hl [2, 3, 0] rfl)
  exact hL10  xFU (v1 - 1) hf ls (lv_sub hl [1, 2, 0] rfl)
theorem cdX0_lastAt : yX0_lastAt.cls = RX0 ∧ yX0_lastAt.cls ≠ "java/lang/invoke/MethodHandle" ∧ yX0_lastAt.cls ≠ "java/lang/invoke/VarHandle" ∧ (parseMethodDescriptor yX0_lastAt.desc).map (fun d => d.parameters.length) = some 1 := by decide +kernel

set_option maxHeartbeats 4000000 in
set_option maxRecDepth 100000 in
theorem c0_placeOf (l : Launch) (dC : Nat → ClassId) (dI : Nat → Nat → Nat) (cs : Nat → ClassId) (a : Nat → Nat) (b : BoatS) (p0 : Int) (res : Int) (hf : f0_placeOf b p0 = some res) : Met l yX0_placeOf wsX0_placeOf ({ frames := 1, cells := 0, slots := 0, locals := 21 } : Room) (va_Pc [.ref (a 0), .int (iI p0)] (xPR (dC, dI) vwCl (w0 cs a b) (xT cs))) (vp_Si (fun r => r = iI res)) 0 0 (fun _ => False) := by
  refine Met.ofW (cc := cX0_placeOf) (maxL := 6) (ret := (some .int)) (by decide) rfl ?_
  intro p e s m args below meth c s₁ B hml hv
  obtain ⟨rfl, hP, hK⟩ := hv
  have hx := B.exec
  have hb := B.bytes
  have hr := B.returns
  have hts := atoms_spec (ws := wsX0_placeOf) B.pre
  have hown : s.vm.findClass RX0 = some m.cls := findClass_of_methodNamed B.named
  have hlocks := B.notSynchronized
  have hin0 : ∀ w ∈ wsX00, w ∈ wsX0_placeOf := by decide +kernel
  have hl := lv_entry [.ref (a 0), .int (iI p0)] (n := 6) (Nat.le_of_ble_eq_true rfl)
  rw [lg_entry_eq]
  generalize (lg_sl [.ref (a 0), .int (iI p0)] ++ List.replicate (6 - (lg_sl [.ref (a 0), .int (iI p0)]).length) Slot.unset).toArray = ls at hl ⊢
  have hl : lv_has ls 6 [(0, .ref (a 0)), (1, .int (iI p0))] := hl
  unfold f0_placeOf at hf
  refine lv_aload_n hx hb dX0_placeOf_0 rfl (lv_at hl 0 rfl) ?_
  refine va_get (D := (dC, dI)) (ci := 0) (v := .ref (a 3)) (C := RX0) (T := TX0) (N := 14) hx hb hts hin0 hown hK hP 0 rfl rfl 3 (by decide) (hts (.fieldLink RX0 30 "BoatRuns$Boat" "homes" "LBoatRuns$Row;") (by decide +kernel)) (fun _ h9 => h9) rfl dX0_placeOf_1 ?_
  refine lv_iload_n hx hb dX0_placeOf_4 rfl (lv_at hl 1 rfl) ?_
  obtain ⟨v1, ev1, hf⟩ := x_bind hf
  refine xc_ri (As := [.int (iI p0)]) (rest := []) ⟨hx, hb, hml, hown, hts⟩ (c2_get l dC dI cs (a 3) (a 10) 120 (g0_homs b) p0 (by decide) _ ev1) (cwV 1 hts gX0_placeOf_X2_get rfl rfl rfl cdX2_get ⟨Nat.le_of_ble_eq_true rfl, Nat.le_of_ble_eq_true rfl⟩) hK hP [3, 10] rfl 3 rfl rfl rfl hl.1 rfl (Nat.le_of_ble_eq_true rfl) dX0_placeOf_5 ⟨Nat.zero_le _, Nat.zero_le _⟩ ?_
  refine lv_istore_n (lv' := [(2, .int (iI v1)), (0, .ref (a 0)), (1, .int (iI p0))]) hx hb dX0_placeOf_8 rfl hl (by decide) rfl (fun ls hl => ?_)
  refine xk_iconst hx hb dX0_placeOf_9 ?_
  refine lv_istore_n (lv' := [(3, .int (iI 0)), (2, .int (iI v1)), (0, .ref (a 0)), (1, .int (iI p0))]) hx hb dX0_placeOf_10 rfl hl (by decide) rfl (fun ls hl => ?_)
  refine xk_iconst hx hb dX0_placeOf_11 ?_
  refine lv_istore (lv' := [(4, .int (iI 0)), (3, .int (iI 0)), (2, .int (iI v1)), (0, .ref (a 0)), (1, .int (iI p0))]) hx hb dX0_placeOf_12 hl (by decide) rfl (fun ls hl => ?_)
  have hL14 : ∀ (n2 : Nat) (l3 : Int) (l4 : Int), f0_placeOf_L14 b p0 v1 n2 l3 l4 = some res → ∀ (ls : Array Slot), lv_has ls 6 [(0, .ref (a 0)), (1, .int (iI p0)), (2, .int (iI v1)), (3, .int (iI l3)), (4, .int (iI l4))] → W p l e (headSpec wsX0_placeOf ({ frames := 1, cells := 0, slots := 0, locals := 21 } : Room)).room s m ([.ref (a 0), .int (iI p0)] : List Value).toArray below meth c s.heap [] 0 0 (MQ below (vp_Si (fun r => r = iI res)) ([.ref (a 0), .int (iI p0)] : List Value).toArray s 0 0 (fun _ => False)) (F0 m 14 ls []) := by
    intro  n2
    induction n2 with
    | zero => intro l3 l4 hf; have hf : (none : Option (Int)) = some res := hf; cases hf
    | succ n2 ih14 =>
      intro l3 l4 hf ls hl
      rw [f0_placeOf_L14] at hf
      refine lv_iload hx hb dX0_placeOf_14 (lv_at hl 4 rfl) ?_
      refine lv_aload_n hx hb dX0_placeOf_16 rfl (lv_at hl 0 rfl) ?_
      refine va_get (D := (dC, dI)) (ci := 0) (v := .ref (a 4)) (C := RX0) (T := TX0) (N := 14) hx hb hts hin0 hown hK hP 0 rfl rfl 4 (by decide) (hts (.fieldLink RX0 33 "BoatRuns$Boat" "order" "LBoatRuns$Row;") (by decide +kernel)) (fun _ h9 => h9) rfl dX0_placeOf_17 ?_
      obtain ⟨v3, ev3, hf⟩ := x_bind hf
      refine xc_ri (As := []) (rest := [.int (iI l4)]) ⟨hx, hb, hml, hown, hts⟩ (c2_size l dC dI cs (a 4) (a 11) 120 (g0_ords b) (by decide) _ ev3) (cwV 0 hts gX0_placeOf_X2_size rfl rfl rfl cdX2_size ⟨Nat.le_of_ble_eq_true rfl, Nat.le_of_ble_eq_true rfl⟩) hK hP [4, 11] rfl 4 rfl rfl rfl hl.1 rfl (Nat.le_of_ble_eq_true rfl) dX0_placeOf_20 ⟨Nat.zero_le _, Nat.zero_le _⟩ ?_
      obtain ⟨c4a, c4b, c4t, c4f⟩ := x_ltE hf
      refine xk_icmp_ge (tgt := 67) hx hb c4a c4b dX0_placeOf_23 (by decide) (fun c4 => ?_) (fun c4 => ?_)
      · have hf := c4t c4
        refine lv_aload_n hx hb dX0_placeOf_26 rfl (lv_at hl 0 rfl) ?_
        refine va_get (D := (dC, dI)) (ci := 0) (v := .ref (a 4)) (C := RX0) (T := TX0) (N := 14) hx hb hts hin0 hown hK hP 0 rfl rfl 4 (by decide) (hts (.fieldLink RX0 33 "BoatRuns$Boat" "order" "LBoatRuns$Row;") (by decide +kernel)) (fun _ h9 => h9) rfl dX0_placeOf_27 ?_
        refine lv_iload hx hb dX0_placeOf_30 (lv_at hl 4 rfl) ?_
        obtain ⟨v5, ev5, hf⟩ := x_bind hf
        refine xc_ri (As := [.int (iI l4)]) (rest := []) ⟨hx, hb, hml, hown, hts⟩ (c2_get l dC dI cs (a 4) (a 11) 120 (g0_ords b) l4 (by decide) _ ev5) (cwV 1 hts gX0_placeOf_X2_get rfl rfl rfl cdX2_get ⟨Nat.le_of_ble_eq_true rfl, Nat.le_of_ble_eq_true rfl⟩) hK hP [4, 11] rfl 4 rfl rfl rfl hl.1 rfl (Nat.le_of_ble_eq_true rfl) dX0_placeOf_32 ⟨Nat.zero_le _, Nat.zero_le _⟩ ?_
        refine lv_istore (lv' := [(5, .int (iI v5)), (0, .ref (a 0)), (1, .int (iI p0)), (2, .int (iI v1)), (3, .int (iI l3)), (4, .int (iI l4))]) hx hb dX0_placeOf_35 hl (by decide) rfl (fun ls hl => ?_)
        refine lv_iload hx hb dX0_placeOf_37 (lv_at hl 0 rfl) ?_
        refine lv_iload_n hx hb dX0_placeOf_39 rfl (lv_at hl 2 rfl) ?_
        obtain ⟨c6a, c6b, c6t, c6f⟩ := x_eqE hf
        refine xk_icmp_ne (tgt := 45) hx hb c6a c6b dX0_placeOf_40 (by decide) (fun c6 => ?_) (fun c6 => ?_)
        · have hf := c6t c6
          refine lv_iload_n hx hb dX0_placeOf_43 rfl (lv_at hl 4 rfl) ?_
          obtain rfl := Option.some.inj hf
          exact xe_ri hx hb hr hlocks dX0_placeOf_44 rfl
        · have hf := c6f c6
          refine lv_aload_n hx hb dX0_placeOf_45 rfl (lv_at hl 1 rfl) ?_
          refine va_get (D := (dC, dI)) (ci := 0) (v := .ref (a 3)) (C := RX0) (T := TX0) (N := 14) hx hb hts hin0 hown hK hP 0 rfl rfl 3 (by decide) (hts (.fieldLink RX0 30 "BoatRuns$Boat" "homes" "LBoatRuns$Row;") (by decide +kernel)) (fun _ h9 => h9) rfl dX0_placeOf_46 ?_
          refine lv_iload hx hb dX0_placeOf_49 (lv_at hl 0 rfl) ?_
          obtain ⟨v7, ev7, hf⟩ := x_bind hf
          refine xc_ri (As := [.int (iI v5)]) (rest := []) ⟨hx, hb, hml, hown, hts⟩ (c2_get l dC dI cs (a 3) (a 10) 120 (g0_homs b) v5 (by decide) _ ev7) (cwV 1 hts gX0_placeOf_X2_get rfl rfl rfl cdX2_get ⟨Nat.le_of_ble_eq_true rfl, Nat.le_of_ble_eq_true rfl⟩) hK hP [3, 10] rfl 3 rfl rfl rfl hl.1 rfl (Nat.le_of_ble_eq_true rfl) dX0_placeOf_51 ⟨Nat.zero_le _, Nat.zero_le _⟩ ?_
          refine lv_iload_n hx hb dX0_placeOf_54 rfl (lv_at hl 3 rfl) ?_
          obtain ⟨c8a, c8b, c8t, c8f⟩ := x_eqE hf
          refine xk_icmp_ne (tgt := 61) hx hb c8a c8b dX0_placeOf_55 (by decide) (fun c8 => ?_) (fun c8 => ?_)
          · have hf := c8t c8
            refine xk_iinc (lv' := [(3, .int (iI (l3 + 1))), (5, .int (iI v5)), (0, .ref (a 0)), (1, .int (iI p0)), (2, .int (iI v1)), (4, .int (iI l4))]) hx hb dX0_placeOf_58 hl (k := 4) rfl (by decide) rfl (fun ls hl => ?_)
            refine xk_iinc (lv' := [(4, .int (iI (l4 + 1))), (3, .int (iI (l3 + 1))), (5, .int (iI v5)), (0, .ref (a 0)), (1, .int (iI p0)), (2, .int (iI v1))]) hx hb dX0_placeOf_61 hl (k := 5) rfl (by decide) rfl (fun ls hl => ?_)
            refine lv_goto (tgt := 14) hx hb dX0_placeOf_64 (by decide) ?_
            exact ih14 (l3 + 1) (l4 + 1) hf ls (lv_sub hl [3, 4, 5, 1, 0] rfl)
          · have hf := c8f c8
            refine xk_iinc (lv' := [(4, .int (iI (l4 + 1))), (5, .int (iI v5)), (0, .ref (a 0)), (1, .int (iI p0)), (2, .int (iI v1)), (3, .int (iI l3))]) hx hb dX0_placeOf_61 hl (k := 5) rfl (by decide) rfl (fun ls hl => ?_)
            refine lv_goto (tgt := 14) hx hb dX0_placeOf_64 (by decide) ?_
            exact ih14 l3 (l4 + 1) hf ls (lv_sub hl [2, 3, 4, 5, 0] rfl)
      · have hf := c4f c4
        refine xk_iconst hx hb dX0_placeOf_67 ?_
        obtain rfl := Option.some.inj hf
        exact xe_ri hx hb hr hlocks dX0_placeOf_68 rfl
  exact hL14  xFU 0 0 hf ls (lv_sub hl [3, 4, 2, 1, 0] rfl)
theorem cdX0_placeOf : yX0_placeOf.cls = RX0 ∧ yX0_placeOf.cls ≠ "java/lang/invoke/MethodHandle" ∧ yX0_placeOf.cls ≠ "java/lang/invoke/VarHandle" ∧ (parseMethodDescriptor yX0_placeOf.desc).map (fun d => d.parameters.length) = some 1 := by decide +kernel

set_option maxHeartbeats 4000000 in
set_option maxRecDepth 100000 in
theorem c0_nextOverboard (l : Launch) (dC : Nat → ClassId) (dI : Nat → Nat → Nat) (cs : Nat → ClassId) (a : Nat → Nat) (b : BoatS) (res : Int) (hf : f0_nextOverboard b = some res) : Met l yX0_nextOverboard wsX0_nextOverboard ({ frames := 2, cells := 0, slots := 0, locals := 45 } : Room) (va_Pc [.ref (a 0)] (xPR (dC, dI) vwCl (w0 cs a b) (xT cs))) (vp_Si (fun r => r = iI res)) 0 0 (fun _ => False) := by
  refine Met.ofW (cc := cX0_nextOverboard) (maxL := 5) (ret := (some .int)) (by decide) rfl ?_
  intro p e s m args below meth c s₁ B hml hv
  obtain ⟨rfl, hP, hK⟩ := hv
  have hx := B.exec
  have hb := B.bytes
  have hr := B.returns
  have hts := atoms_spec (ws := wsX0_nextOverboard) B.pre
  have hown : s.vm.findClass RX0 = some m.cls := findClass_of_methodNamed B.named
  have hlocks := B.notSynchronized
  have hin0 : ∀ w ∈ wsX00, w ∈ wsX0_nextOverboard := by decide +kernel
  have hl := lv_entry [.ref (a 0)] (n := 5) (Nat.le_of_ble_eq_true rfl)
  rw [lg_entry_eq]
  generalize (lg_sl [.ref (a 0)] ++ List.replicate (5 - (lg_sl [.ref (a 0)]).length) Slot.unset).toArray = ls at hl ⊢
  have hl : lv_has ls 5 [(0, .ref (a 0))] := hl
  unfold f0_nextOverboard at hf
  refine lv_aload_n hx hb dX0_nextOverboard_0 rfl (lv_at hl 0 rfl) ?_
  refine va_get (D := (dC, dI)) (ci := 0) (v := .int (iI (g0_opn b))) (C := RX0) (T := TX0) (N := 14) hx hb hts hin0 hown hK hP 0 rfl rfl 8 (by decide) (hts (.fieldLink RX0 15 "BoatRuns$Boat" "open" "I") (by decide +kernel)) (fun _ h9 => h9) rfl dX0_nextOverboard_1 ?_
  refine xk_iconst hx hb dX0_nextOverboard_4 ?_
  obtain ⟨c1a, c1b, c1t, c1f⟩ := x_eqE hf
  refine xk_icmp_ne (tgt := 12) hx hb c1a c1b dX0_nextOverboard_5 (by decide) (fun c1 => ?_) (fun c1 => ?_)
  · have hf := c1t c1
    refine xk_iconst hx hb dX0_nextOverboard_8 ?_
    refine lv_goto (tgt := 20) hx hb dX0_nextOverboard_9 (by decide) ?_
    refine lv_istore_n (lv' := [(1, .int (iI (-1))), (0, .ref (a 0))]) hx hb dX0_nextOverboard_20 rfl hl (by decide) rfl (fun ls hl => ?_)
    refine xk_iconst hx hb dX0_nextOverboard_21 ?_
    refine lv_istore_n (lv' := [(2, .int (iI (-1))), (1, .int (iI (-1))), (0, .ref (a 0))]) hx hb dX0_nextOverboard_22 rfl hl (by decide) rfl (fun ls hl => ?_)
    refine xk_iconst hx hb dX0_nextOverboard_23 ?_
    refine lv_istore_n (lv' := [(3, .int (iI 0)), (2, .int (iI (-1))), (1, .int (iI (-1))), (0, .ref (a 0))]) hx hb dX0_nextOverboard_24 rfl hl (by decide) rfl (fun ls hl => ?_)
    have hL25 : ∀ (k1 : Int) (n126 : Nat) (l2 : Int) (l3 : Int), f0_nextOverboard_L25 b k1 n126 l2 l3 = some res → ∀ (ls : Array Slot), lv_has ls 5 [(0, .ref (a 0)), (1, .int (iI k1)), (2, .int (iI l2)), (3, .int (iI l3))] → W p l e (headSpec wsX0_nextOverboard ({ frames := 2, cells := 0, slots := 0, locals := 45 } : Room)).room s m ([.ref (a 0)] : List Value).toArray below meth c s.heap [] 0 0 (MQ below (vp_Si (fun r => r = iI res)) ([.ref (a 0)] : List Value).toArray s 0 0 (fun _ => False)) (F0 m 25 ls []) := by
      intro k1 n126
      induction n126 with
      | zero => intro l2 l3 hf; have hf : (none : Option (Int)) = some res := hf; cases hf
      | succ n126 ih25 =>
        intro l2 l3 hf ls hl
        rw [f0_nextOverboard_L25] at hf
        refine lv_iload_n hx hb dX0_nextOverboard_25 rfl (lv_at hl 3 rfl) ?_
        refine lv_aload_n hx hb dX0_nextOverboard_26 rfl (lv_at hl 0 rfl) ?_
        refine va_get (D := (dC, dI)) (ci := 0) (v := .ref (a 4)) (C := RX0) (T := TX0) (N := 14) hx hb hts hin0 hown hK hP 0 rfl rfl 4 (by decide) (hts (.fieldLink RX0 33 "BoatRuns$Boat" "order" "LBoatRuns$Row;") (by decide +kernel)) (fun _ h9 => h9) rfl dX0_nextOverboard_27 ?_
        obtain ⟨v127, ev127, hf⟩ := x_bind hf
        refine xc_ri (As := []) (rest := [.int (iI l3)]) ⟨hx, hb, hml, hown, hts⟩ (c2_size l dC dI cs (a 4) (a 11) 120 (g0_ords b) (by decide) _ ev127) (cwV 0 hts gX0_nextOverboard_X2_size rfl rfl rfl cdX2_size ⟨Nat.le_of_ble_eq_true rfl, Nat.le_of_ble_eq_true rfl⟩) hK hP [4, 11] rfl 4 rfl rfl rfl hl.1 rfl (Nat.le_of_ble_eq_true rfl) dX0_nextOverboard_30 ⟨Nat.zero_le _, Nat.zero_le _⟩ ?_
        obtain ⟨c128a, c128b, c128t, c128f⟩ := x_ltE hf
        refine xk_icmp_ge (tgt := 91) hx hb c128a c128b dX0_nextOverboard_33 (by decide) (fun c128 => ?_) (fun c128 => ?_)
        · have hf := c128t c128
          refine lv_aload_n hx hb dX0_nextOverboard_36 rfl (lv_at hl 0 rfl) ?_
          refine va_get (D := (dC, dI)) (ci := 0) (v := .ref (a 4)) (C := RX0) (T := TX0) (N := 14) hx hb hts hin0 hown hK hP 0 rfl rfl 4 (by decide) (hts (.fieldLink RX0 33 "BoatRuns$Boat" "order" "LBoatRuns$Row;") (by decide +kernel)) (fun _ h9 => h9) rfl dX0_nextOverboard_37 ?_
          refine lv_iload_n hx hb dX0_nextOverboard_40 rfl (lv_at hl 3 rfl) ?_
          obtain ⟨v129, ev129, hf⟩ := x_bind hf
          refine xc_ri (As := [.int (iI l3)]) (rest := []) ⟨hx, hb, hml, hown, hts⟩ (c2_get l dC dI cs (a 4) (a 11) 120 (g0_ords b) l3 (by decide) _ ev129) (cwV 1 hts gX0_nextOverboard_X2_get rfl rfl rfl cdX2_get ⟨Nat.le_of_ble_eq_true rfl, Nat.le_of_ble_eq_true rfl⟩) hK hP [4, 11] rfl 4 rfl rfl rfl hl.1 rfl (Nat.le_of_ble_eq_true rfl) dX0_nextOverboard_41 ⟨Nat.zero_le _, Nat.zero_le _⟩ ?_
          refine lv_istore (lv' := [(4, .int (iI v129)), (0, .ref (a 0)), (1, .int (iI k1)), (2, .int (iI l2)), (3, .int (iI l3))]) hx hb dX0_nextOverboard_44 hl (by decide) rfl (fun ls hl => ?_)
          refine lv_aload_n hx hb dX0_nextOverboard_46 rfl (lv_at hl 1 rfl) ?_
          refine va_get (D := (dC, dI)) (ci := 0) (v := .ref (a 3)) (C := RX0) (T := TX0) (N := 14) hx hb hts hin0 hown hK hP 0 rfl rfl 3 (by decide) (hts (.fieldLink RX0 30 "BoatRuns$Boat" "homes" "LBoatRuns$Row;") (by decide +kernel)) (fun _ h9 => h9) rfl dX0_nextOverboard_47 ?_
          refine lv_iload hx hb dX0_nextOverboard_50 (lv_at hl 0 rfl) ?_
          obtain ⟨v130, ev130, hf⟩ := x_bind hf
          refine xc_ri (As := [.int (iI v129)]) (rest := []) ⟨hx, hb, hml, hown, hts⟩ (c2_get l dC dI cs (a 3) (a 10) 120 (g0_homs b) v129 (by decide) _ ev130) (cwV 1 hts gX0_nextOverboard_X2_get rfl rfl rfl cdX2_get ⟨Nat.le_of_ble_eq_true rfl, Nat.le_of_ble_eq_true rfl⟩) hK hP [3, 10] rfl 3 rfl rfl rfl hl.1 rfl (Nat.le_of_ble_eq_true rfl) dX0_nextOverboard_52 ⟨Nat.zero_le _, Nat.zero_le _⟩ ?_
          refine xk_iconst hx hb dX0_nextOverboard_55 ?_
          obtain ⟨c131a, c131b, c131t, c131f⟩ := x_eqE hf
          refine xk_icmp_ne (tgt := 85) hx hb c131a c131b dX0_nextOverboard_56 (by decide) (fun c131 => ?_) (fun c131 => ?_)
          · have hf := c131t c131
            refine lv_iload_n hx hb dX0_nextOverboard_59 rfl (lv_at hl 2 rfl) ?_
            refine xk_iconst hx hb dX0_nextOverboard_60 ?_
            obtain ⟨c132a, c132b, c132t, c132f⟩ := x_eqE hf
            refine xk_icmp_eq (tgt := 74) hx hb c132a c132b dX0_nextOverboard_61 (by decide) (fun c132 => ?_) (fun c132 => ?_)
            · have hf := c132t c132
              refine lv_iload hx hb dX0_nextOverboard_74 (lv_at hl 0 rfl) ?_
              obtain rfl := Option.some.inj hf
              exact xe_ri hx hb hr hlocks dX0_nextOverboard_76 rfl
            · have hf := c132f c132
              refine lv_aload_n hx hb dX0_nextOverboard_64 rfl (lv_at hl 1 rfl) ?_
              refine lv_iload_n hx hb dX0_nextOverboard_65 rfl (lv_at hl 2 rfl) ?_
              refine lv_iload hx hb dX0_nextOverboard_66 (lv_at hl 0 rfl) ?_
              obtain ⟨v133, ev133, hf⟩ := x_bind hf
              refine xc_ri (As := [.int (iI k1), .int (iI v129)]) (rest := []) ⟨hx, hb, hml, hown, hts⟩ (c0_isLess l dC dI cs a b k1 v129  _ ev133) (cwV 2 hts gX0_nextOverboard_X0_isLess rfl rfl rfl cdX0_isLess ⟨Nat.le_of_ble_eq_true rfl, Nat.le_of_ble_eq_true rfl⟩) hK hP [0, 1, 2, 3, 4, 5, 6, 7, 8, 9, 10, 11, 12, 13, 14] rfl 0 rfl rfl rfl hl.1 rfl (Nat.le_of_ble_eq_true rfl) dX0_nextOverboard_68 ⟨Nat.zero_le _, Nat.zero_le _⟩ ?_
              obtain ⟨c134a, c134b, c134t, c134f⟩ := x_eqE hf
              refine xk_if_eq (tgt := 77) hx hb c134a dX0_nextOverboard_71 (by decide) (fun c134 => ?_) (fun c134 => ?_)
              · have hf := c134t c134
                refine lv_iload_n hx hb dX0_nextOverboard_77 rfl (lv_at hl 3 rfl) ?_
                refine xk_iconst hx hb dX0_nextOverboard_78 ?_
                obtain ⟨c135a, c135b, c135t, c135f⟩ := x_eqE hf
                refine xk_icmp_ne (tgt := 85) hx hb c135a c135b dX0_nextOverboard_79 (by decide) (fun c135 => ?_) (fun c135 => ?_)
                · have hf := c135t c135
                  refine lv_iload hx hb dX0_nextOverboard_82 (lv_at hl 0 rfl) ?_
                  refine lv_istore_n (lv' := [(2, .int (iI v129)), (4, .int (iI v129)), (0, .ref (a 0)), (1, .int (iI k1)), (3, .int (iI l3))]) hx hb dX0_nextOverboard_84 rfl hl (by decide) rfl (fun ls hl => ?_)
                  refine xk_iinc (lv' := [(3, .int (iI (l3 + 1))), (2, .int (iI v129)), (4, .int (iI v129)), (0, .ref (a 0)), (1, .int (iI k1))]) hx hb dX0_nextOverboard_85 hl (k := 4) rfl (by decide) rfl (fun ls hl => ?_)
                  refine lv_goto (tgt := 25) hx hb dX0_nextOverboard_88 (by decide) ?_
                  exact ih25 v129 (l3 + 1) hf ls (lv_sub hl [3, 4, 1, 0] rfl)
                · have hf := c135f c135
                  refine xk_iinc (lv' := [(3, .int (iI (l3 + 1))), (4, .int (iI v129)), (0, .ref (a 0)), (1, .int (iI k1)), (2, .int (iI l2))]) hx hb dX0_nextOverboard_85 hl (k := 4) rfl (by decide) rfl (fun ls hl => ?_)
                  refine lv_goto (tgt := 25) hx hb dX0_nextOverboard_88 (by decide) ?_
                  exact ih25 l2 (l3 + 1) hf ls (lv_sub hl [2, 3, 4, 0] rfl)
              · have hf := c134f c134
                refine lv_iload hx hb dX0_nextOverboard_74 (lv_at hl 0 rfl) ?_
                obtain rfl := Option.some.inj hf
                exact xe_ri hx hb hr hlocks dX0_nextOverboard_76 rfl
          · have hf := c131f c131
            refine xk_iinc (lv' := [(3, .int (iI (l3 + 1))), (4, .int (iI v129)), (0, .ref (a 0)), (1, .int (iI k1)), (2, .int (iI l2))]) hx hb dX0_nextOverboard_85 hl (k := 4) rfl (by decide) rfl (fun ls hl => ?_)
            refine lv_goto (tgt := 25) hx hb dX0_nextOverboard_88 (by decide) ?_
            exact ih25 l2 (l3 + 1) hf ls (lv_sub hl [2, 3, 4, 0] rfl)
        · have hf := c128f c128
          refine lv_iload_n hx hb dX0_nextOverboard_91 rfl (lv_at hl 2 rfl) ?_
          obtain rfl := Option.some.inj hf
          exact xe_ri hx hb hr hlocks dX0_nextOverboard_92 rfl
    exact hL25 (-1) xFU (-1) 0 hf ls (lv_sub hl [3, 2, 1, 0] rfl)
  · have hf := c1f c1
    refine lv_aload_n hx hb dX0_nextOverboard_12 rfl (lv_at hl 0 rfl) ?_
    refine lv_aload_n hx hb dX0_nextOverboard_13 rfl (lv_at hl 0 rfl) ?_
    refine va_get (D := (dC, dI)) (ci := 0) (v := .int (iI (g0_opn b))) (C := RX0) (T := TX0) (N := 14) hx hb hts hin0 hown hK hP 0 rfl rfl 8 (by decide) (hts (.fieldLink RX0 15 "BoatRuns$Boat" "open" "I") (by decide +kernel)) (fun _ h9 => h9) rfl dX0_nextOverboard_14 ?_
    obtain ⟨v2, ev2, hf⟩ := x_bind hf
    refine xc_ri (As := [.int (iI (g0_opn b))]) (rest := []) ⟨hx, hb, hml, hown, hts⟩ (c0_lastAt l dC dI cs a b (g0_opn b)  _ ev2) (cwV 1 hts gX0_nextOverboard_X0_lastAt rfl rfl rfl cdX0_lastAt ⟨Nat.le_of_ble_eq_true rfl, Nat.le_of_ble_eq_true rfl⟩) hK hP [0, 1, 2, 3, 4, 5, 6, 7, 8, 9, 10, 11, 12, 13, 14] rfl 0 rfl rfl rfl hl.1 rfl (Nat.le_of_ble_eq_true rfl) dX0_nextOverboard_17 ⟨Nat.zero_le _, Nat.zero_le _⟩ ?_
    refine lv_istore_n (lv' := [(1, .int (iI v2)), (0, .ref (a 0))]) hx hb dX0_nextOverboard_20 rfl hl (by decide) rfl (fun ls hl => ?_)
    refine xk_iconst hx hb dX0_nextOverboard_21 ?_
    refine lv_istore_n (lv' := [(2, .int (iI (-1))), (1, .int (iI v2)), (0, .ref (a 0))]) hx hb dX0_nextOverboard_22 rfl hl (by decide) rfl (fun ls hl => ?_)
    refine xk_iconst hx hb dX0_nextOverboard_23 ?_
    refine lv_istore_n (lv' := [(3, .int (iI 0)), (2, .int (iI (-1))), (1, .int (iI v2)), (0, .ref (a 0))]) hx hb dX0_nextOverboard_24 rfl hl (by decide) rfl (fun ls hl => ?_)
    have hL25 : ∀ (k1 : Int) (n126 : Nat) (l2 : Int) (l3 : Int), f0_nextOverboard_L25 b k1 n126 l2 l3 = some res → ∀ (ls : Array Slot), lv_has ls 5 [(0, .ref (a 0)), (1, .int (iI k1)), (2, .int (iI l2)), (3, .int (iI l3))] → W p l e (headSpec wsX0_nextOverboard ({ frames := 2, cells := 0, slots := 0, locals := 45 } : Room)).room s m ([.ref (a 0)] : List Value).toArray below meth c s.heap [] 0 0 (MQ below (vp_Si (fun r => r = iI res)) ([.ref (a 0)] : List Value).toArray s 0 0 (fun _ => False)) (F0 m 25 ls []) := by
      intro k1 n126
      induction n126 with
      | zero => intro l2 l3 hf; have hf : (none : Option (Int)) = some res := hf; cases hf
      | succ n126 ih25 =>
        intro l2 l3 hf ls hl
        rw [f0_nextOverboard_L25] at hf
        refine lv_iload_n hx hb dX0_nextOverboard_25 rfl (lv_at hl 3 rfl) ?_
        refine lv_aload_n hx hb dX0_nextOverboard_26 rfl (lv_at hl 0 rfl) ?_
        refine va_get (D := (dC, dI)) (ci := 0) (v := .ref (a 4)) (C := RX0) (T := TX0) (N := 14) hx hb hts hin0 hown hK hP 0 rfl rfl 4 (by decide) (hts (.fieldLink RX0 33 "BoatRuns$Boat" "order" "LBoatRuns$Row;") (by decide +kernel)) (fun _ h9 => h9) rfl dX0_nextOverboard_27 ?_
        obtain ⟨v127, ev127, hf⟩ := x_bind hf
        refine xc_ri (As := []) (rest := [.int (iI l3)]) ⟨hx, hb, hml, hown, hts⟩ (c2_size l dC dI cs (a 4) (a 11) 120 (g0_ords b) (by decide) _ ev127) (cwV 0 hts gX0_nextOverboard_X2_size rfl rfl rfl cdX2_size ⟨Nat.le_of_ble_eq_true rfl, Nat.le_of_ble_eq_true rfl⟩) hK hP [4, 11] rfl 4 rfl rfl rfl hl.1 rfl (Nat.le_of_ble_eq_true rfl) dX0_nextOverboard_30 ⟨Nat.zero_le _, Nat.zero_le _⟩ ?_
        obtain ⟨c128a, c128b, c128t, c128f⟩ := x_ltE hf
        refine xk_icmp_ge (tgt := 91) hx hb c128a c128b dX0_nextOverboard_33 (by decide) (fun c128 => ?_) (fun c128 => ?_)
        · have hf := c128t c128
          refine lv_aload_n hx hb dX0_nextOverboard_36 rfl (lv_at hl 0 rfl) ?_
          refine va_get (D := (dC, dI)) (ci := 0) (v := .ref (a 4)) (C := RX0) (T := TX0) (N := 14) hx hb hts hin0 hown hK hP 0 rfl rfl 4 (by decide) (hts (.fieldLink RX0 33 "BoatRuns$Boat" "order" "LBoatRuns$Row;") (by decide +kernel)) (fun _ h9 => h9) rfl dX0_nextOverboard_37 ?_
          refine lv_iload_n hx hb dX0_nextOverboard_40 rfl (lv_at hl 3 rfl) ?_
          obtain ⟨v129, ev129, hf⟩ := x_bind hf
          refine xc_ri (As := [.int (iI l3)]) (rest := []) ⟨hx, hb, hml, hown, hts⟩ (c2_get l dC dI cs (a 4) (a 11) 120 (g0_ords b) l3 (by decide) _ ev129) (cwV 1 hts gX0_nextOverboard_X2_get rfl rfl rfl cdX2_get ⟨Nat.le_of_ble_eq_true rfl, Nat.le_of_ble_eq_true rfl⟩) hK hP [4, 11] rfl 4 rfl rfl rfl hl.1 rfl (Nat.le_of_ble_eq_true rfl) dX0_nextOverboard_41 ⟨Nat.zero_le _, Nat.zero_le _⟩ ?_
          refine lv_istore (lv' := [(4, .int (iI v129)), (0, .ref (a 0)), (1, .int (iI k1)), (2, .int (iI l2)), (3, .int (iI l3))]) hx hb dX0_nextOverboard_44 hl (by decide) rfl (fun ls hl => ?_)
          refine lv_aload_n hx hb dX0_nextOverboard_46 rfl (lv_at hl 1 rfl) ?_
          refine va_get (D := (dC, dI)) (ci := 0) (v := .ref (a 3)) (C := RX0) (T := TX0) (N := 14) hx hb hts hin0 hown hK hP 0 rfl rfl 3 (by decide) (hts (.fieldLink RX0 30 "BoatRuns$Boat" "homes" "LBoatRuns$Row;") (by decide +kernel)) (fun _ h9 => h9) rfl dX0_nextOverboard_47 ?_
          refine lv_iload hx hb dX0_nextOverboard_50 (lv_at hl 0 rfl) ?_
          obtain ⟨v130, ev130, hf⟩ := x_bind hf
          refine xc_ri (As := [.int (iI v129)]) (rest := []) ⟨hx, hb, hml, hown, hts⟩ (c2_get l dC dI cs (a 3) (a 10) 120 (g0_homs b) v129 (by decide) _ ev130) (cwV 1 hts gX0_nextOverboard_X2_get rfl rfl rfl cdX2_get ⟨Nat.le_of_ble_eq_true rfl, Nat.le_of_ble_eq_true rfl⟩) hK hP [3, 10] rfl 3 rfl rfl rfl hl.1 rfl (Nat.le_of_ble_eq_true rfl) dX0_nextOverboard_52 ⟨Nat.zero_le _, Nat.zero_le _⟩ ?_
          refine xk_iconst hx hb dX0_nextOverboard_55 ?_
          obtain ⟨c131a, c131b, c131t, c131f⟩ := x_eqE hf
          refine xk_icmp_ne (tgt := 85) hx hb c131a c131b dX0_nextOverboard_56 (by decide) (fun c131 => ?_) (fun c131 => ?_)
          · have hf := c131t c131
            refine lv_iload_n hx hb dX0_nextOverboard_59 rfl (lv_at hl 2 rfl) ?_
            refine xk_iconst hx hb dX0_nextOverboard_60 ?_
            obtain ⟨c132a, c132b, c132t, c132f⟩ := x_eqE hf
            refine xk_icmp_eq (tgt := 74) hx hb c132a c132b dX0_nextOverboard_61 (by decide) (fun c132 => ?_) (fun c132 => ?_)
            · have hf := c132t c132
              refine lv_iload hx hb dX0_nextOverboard_74 (lv_at hl 0 rfl) ?_
              obtain rfl := Option.some.inj hf
              exact xe_ri hx hb hr hlocks dX0_nextOverboard_76 rfl
            · have hf := c132f c132
              refine lv_aload_n hx hb dX0_nextOverboard_64 rfl (lv_at hl 1 rfl) ?_
              refine lv_iload_n hx hb dX0_nextOverboard_65 rfl (lv_at hl 2 rfl) ?_
              refine lv_iload hx hb dX0_nextOverboard_66 (lv_at hl 0 rfl) ?_
              obtain ⟨v133, ev133, hf⟩ := x_bind hf
              refine xc_ri (As := [.int (iI k1), .int (iI v129)]) (rest := []) ⟨hx, hb, hml, hown, hts⟩ (c0_isLess l dC dI cs a b k1 v129  _ ev133) (cwV 2 hts gX0_nextOverboard_X0_isLess rfl rfl rfl cdX0_isLess ⟨Nat.le_of_ble_eq_true rfl, Nat.le_of_ble_eq_true rfl⟩) hK hP [0, 1, 2, 3, 4, 5, 6, 7, 8, 9, 10, 11, 12, 13, 14] rfl 0 rfl rfl rfl hl.1 rfl (Nat.le_of_ble_eq_true rfl) dX0_nextOverboard_68 ⟨Nat.zero_le _, Nat.zero_le _⟩ ?_
              obtain ⟨c134a, c134b, c134t, c134f⟩ := x_eqE hf
              refine xk_if_eq (tgt := 77) hx hb c134a dX0_nextOverboard_71 (by decide) (fun c134 => ?_) (fun c134 => ?_)
              · have hf := c134t c134
                refine lv_iload_n hx hb dX0_nextOverboard_77 rfl (lv_at hl 3 rfl) ?_
                refine xk_iconst hx hb dX0_nextOverboard_78 ?_
                obtain ⟨c135a, c135b, c135t, c135f⟩ := x_eqE hf
                refine xk_icmp_ne (tgt := 85) hx hb c135a c135b dX0_nextOverboard_79 (by decide) (fun c135 => ?_) (fun c135 => ?_)
                · have hf := c135t c135
                  refine lv_iload hx hb dX0_nextOverboard_82 (lv_at hl 0 rfl) ?_
                  refine lv_istore_n (lv' := [(2, .int (iI v129)), (4, .int (iI v129)), (0, .ref (a 0)), (1, .int (iI k1)), (3, .int (iI l3))]) hx hb dX0_nextOverboard_84 rfl hl (by decide) rfl (fun ls hl => ?_)
                  refine xk_iinc (lv' := [(3, .int (iI (l3 + 1))), (2, .int (iI v129)), (4, .int (iI v129)), (0, .ref (a 0)), (1, .int (iI k1))]) hx hb dX0_nextOverboard_85 hl (k := 4) rfl (by decide) rfl (fun ls hl => ?_)
                  refine lv_goto (tgt := 25) hx hb dX0_nextOverboard_88 (by decide) ?_
                  exact ih25 v129 (l3 + 1) hf ls (lv_sub hl [3, 4, 1, 0] rfl)
                · have hf := c135f c135
                  refine xk_iinc (lv' := [(3, .int (iI (l3 + 1))), (4, .int (iI v129)), (0, .ref (a 0)), (1, .int (iI k1)), (2, .int (iI l2))]) hx hb dX0_nextOverboard_85 hl (k := 4) rfl (by decide) rfl (fun ls hl => ?_)
                  refine lv_goto (tgt := 25) hx hb dX0_nextOverboard_88 (by decide) ?_
                  exact ih25 l2 (l3 + 1) hf ls (lv_sub hl [2, 3, 4, 0] rfl)
              · have hf := c134f c134
                refine lv_iload hx hb dX0_nextOverboard_74 (lv_at hl 0 rfl) ?_
                obtain rfl := Option.some.inj hf
                exact xe_ri hx hb hr hlocks dX0_nextOverboard_76 rfl
          · have hf := c131f c131
            refine xk_iinc (lv' := [(3, .int (iI (l3 + 1))), (4, .int (iI v129)), (0, .ref (a 0)), (1, .int (iI k1)), (2, .int (iI l2))]) hx hb dX0_nextOverboard_85 hl (k := 4) rfl (by decide) rfl (fun ls hl => ?_)
            refine lv_goto (tgt := 25) hx hb dX0_nextOverboard_88 (by decide) ?_
            exact ih25 l2 (l3 + 1) hf ls (lv_sub hl [2, 3, 4, 0] rfl)
        · have hf := c128f c128
          refine lv_iload_n hx hb dX0_nextOverboard_91 rfl (lv_at hl 2 rfl) ?_
          obtain rfl := Option.some.inj hf
          exact xe_ri hx hb hr hlocks dX0_nextOverboard_92 rfl
    exact hL25 v2 xFU (-1) 0 hf ls (lv_sub hl [3, 2, 1, 0] rfl)
theorem cdX0_nextOverboard : yX0_nextOverboard.cls = RX0 ∧ yX0_nextOverboard.cls ≠ "java/lang/invoke/MethodHandle" ∧ yX0_nextOverboard.cls ≠ "java/lang/invoke/VarHandle" ∧ (parseMethodDescriptor yX0_nextOverboard.desc).map (fun d => d.parameters.length) = some 0 := by decide +kernel

set_option maxHeartbeats 4000000 in
set_option maxRecDepth 100000 in
theorem c0_newFloat (l : Launch) (dC : Nat → ClassId) (dI : Nat → Nat → Nat) (cs : Nat → ClassId) (a : Nat → Nat) (sz : Nat) (b : BoatS) (res : Int × BoatS) (hf : f0_newFloat b = some res) : Met l yX0_newFloat wsX0_newFloat ({ frames := 2, cells := 0, slots := 0, locals := 44 } : Room) (va_Pc [.ref (a 0)] (xPW (dC, dI) vwCl (w0 cs a b) (xT cs) sz)) (xQi (dC, dI) vwCl (w0 cs a b) (w0 cs a res.2) sz res.1) 0 0 (va_A (w0 cs a b) sz) := by
  refine Met.ofW (cc := cX0_newFloat) (maxL := 2) (ret := (some .int)) (by decide) rfl ?_
  intro p e s m args below meth c s₁ B hml hv
  obtain ⟨rfl, hsz, hP, hK, hD0⟩ := hv
  have hx := B.exec
  have hb := B.bytes
  have hr := B.returns
  have hts := atoms_spec (ws := wsX0_newFloat) B.pre
  have hown : s.vm.findClass RX0 = some m.cls := findClass_of_methodNamed B.named
  have hlocks := B.notSynchronized
  have hin0 : ∀ w ∈ wsX00, w ∈ wsX0_newFloat := by decide +kernel
  subst hsz
  have hD := hD0.self (sz := s.heap.size)
  have hA : ∀ z9 : Nat, s.heap.size ≤ z9 → va_A (w0 cs a b) s.heap.size z9 := fun z9 h => Or.inr h
  have hS : va_S (va_A (w0 cs a b) s.heap.size) s.heap s.heap [] := va_S.rf
  have hl := lv_entry [.ref (a 0)] (n := 2) (Nat.le_of_ble_eq_true rfl)
  rw [lg_entry_eq]
  generalize (lg_sl [.ref (a 0)] ++ List.replicate (2 - (lg_sl [.ref (a 0)]).length) Slot.unset).toArray = ls at hl ⊢
  have hl : lv_has ls 2 [(0, .ref (a 0))] := hl
  unfold f0_newFloat at hf
  refine lv_aload_n hx hb dX0_newFloat_0 rfl (lv_at hl 0 rfl) ?_
  refine va_get (D := (dC, dI)) (ci := 0) (v := .int (iI (g0_flo b))) (C := RX0) (T := TX0) (N := 14) hx hb hts hin0 hown hK hP 0 rfl rfl 9 (by decide) (hts (.fieldLink RX0 48 "BoatRuns$Boat" "floatsUsed" "I") (by decide +kernel)) (fun _ h9 => h9) rfl dX0_newFloat_1 ?_
  refine lv_istore_n (lv' := [(1, .int (iI (g0_flo b))), (0, .ref (a 0))]) hx hb dX0_newFloat_4 rfl hl (by decide) rfl (fun ls hl => ?_)
  refine lv_aload_n hx hb dX0_newFloat_5 rfl (lv_at hl 1 rfl) ?_
  refine lv_dup hx hb dX0_newFloat_6 rfl ?_
  refine va_get (D := (dC, dI)) (ci := 0) (v := .int (iI (g0_flo b))) (C := RX0) (T := TX0) (N := 14) hx hb hts hin0 hown hK hP 0 rfl rfl 9 (by decide) (hts (.fieldLink RX0 48 "BoatRuns$Boat" "floatsUsed" "I") (by decide +kernel)) (fun _ h9 => h9) rfl dX0_newFloat_7 ?_
  refine xk_iconst hx hb dX0_newFloat_10 ?_
  refine xk_iadd hx hb dX0_newFloat_11 ?_
  refine va_put (D := (dC, dI)) (ci := 0) (v := .int (iI (g0_flo b + 1))) (ty := .int) (C := RX0) (T := TX0) (N := 14) hx hb hts hin0 tyX0 tyX0_ok nmX0 hown hK hP (x_addr hD rfl) hS 0 rfl rfl 9 (by decide) (hts (.fieldLink RX0 48 "BoatRuns$Boat" "floatsUsed" "I") (by decide +kernel)) (fun _ h9 => h9) rfl (by decide +kernel) rfl rfl (Nat.le_of_ble_eq_true rfl) dX0_newFloat_12 (fun H locs hP _ hS => ?_)
  have hP : va_P (dC, dI) vwCl (w0C cs a (g0_room b) (g0_opn b) (g0_flo b + 1) (g0_cst b) (g0_mrg b) (g0_stm b) (g0_brk b) (g0_keys b) (g0_weis b) (g0_homs b) (g0_ords b) (g0_flts b) (g0_strs b) (g0_rwts b)) H := hP
  refine lv_aload_n hx hb dX0_newFloat_15 rfl (lv_at hl 1 rfl) ?_
  refine va_get (D := (dC, dI)) (ci := 0) (v := .ref (a 5)) (C := RX0) (T := TX0) (N := 14) hx hb hts hin0 hown hK hP 0 rfl rfl 5 (by decide) (hts (.fieldLink RX0 36 "BoatRuns$Boat" "floats" "LBoatRuns$Row;") (by decide +kernel)) (fun _ h9 => h9) rfl dX0_newFloat_16 ?_
  refine lv_iload_n hx hb dX0_newFloat_19 rfl (lv_at hl 0 rfl) ?_
  obtain ⟨r1, er1, hf⟩ := x_bind hf
  refine xc_wv (As := [.int (iI (g0_flo b))]) (rest := []) ⟨hx, hb, hml, hown, hts⟩ (c2_add l dC dI cs (a 5) (a 12) _ 120 (g0_flts b) (g0_flo b) (by decide) _ er1) (cwV 1 hts gX0_newFloat_X2_add rfl rfl rfl cdX2_add ⟨Nat.le_of_ble_eq_true rfl, Nat.le_of_ble_eq_true rfl⟩) hK hP (x_addr hD rfl) hS hA [5, 12] rfl (by decide) rfl 5 rfl rfl rfl hl.1 rfl (Nat.le_of_ble_eq_true rfl) dX0_newFloat_20 ⟨Nat.zero_le _, Nat.zero_le _⟩ (fun H locs hP hS => ?_)
  have hP : va_P (dC, dI) vwCl (w0C cs a (g0_room b) (g0_opn b) (g0_flo b + 1) (g0_cst b) (g0_mrg b) (g0_stm b) (g0_brk b) (g0_keys b) (g0_weis b) (g0_homs b) (g0_ords b) r1 (g0_strs b) (g0_rwts b)) H := hP
  refine lv_aload_n hx hb dX0_newFloat_23 rfl (lv_at hl 1 rfl) ?_
  refine va_get (D := (dC, dI)) (ci := 0) (v := .ref (a 6)) (C := RX0) (T := TX0) (N := 14) hx hb hts hin0 hown hK hP 0 rfl rfl 6 (by decide) (hts (.fieldLink RX0 39 "BoatRuns$Boat" "strengths" "LBoatRuns$Row;") (by decide +kernel)) (fun _ h9 => h9) rfl dX0_newFloat_24 ?_
  refine xk_iconst hx hb dX0_newFloat_27 ?_
  obtain ⟨r2, er2, hf⟩ := x_bind hf
  refine xc_wv (As := [.int (iI 5)]) (rest := []) ⟨hx, hb, hml, hown, hts⟩ (c2_add l dC dI cs (a 6) (a 13) _ 120 (g0_strs b) 5 (by decide) _ er2) (cwV 1 hts gX0_newFloat_X2_add rfl rfl rfl cdX2_add ⟨Nat.le_of_ble_eq_true rfl, Nat.le_of_ble_eq_true rfl⟩) hK hP (x_addr hD rfl) hS hA [6, 13] rfl (by decide) rfl 6 rfl rfl rfl hl.1 rfl (Nat.le_of_ble_eq_true rfl) dX0_newFloat_28 ⟨Nat.zero_le _, Nat.zero_le _⟩ (fun H locs hP hS => ?_)
  have hP : va_P (dC, dI) vwCl (w0C cs a (g0_room b) (g0_opn b) (g0_flo b + 1) (g0_cst b) (g0_mrg b) (g0_stm b) (g0_brk b) (g0_keys b) (g0_weis b) (g0_homs b) (g0_ords b) r1 r2 (g0_rwts b)) H := hP
  refine lv_aload_n hx hb dX0_newFloat_31 rfl (lv_at hl 1 rfl) ?_
  refine va_get (D := (dC, dI)) (ci := 0) (v := .ref (a 7)) (C := RX0) (T := TX0) (N := 14) hx hb hts hin0 hown hK hP 0 rfl rfl 7 (by decide) (hts (.fieldLink RX0 42 "BoatRuns$Boat" "runWeights" "LBoatRuns$Row;") (by decide +kernel)) (fun _ h9 => h9) rfl dX0_newFloat_32 ?_
  refine xk_iconst hx hb dX0_newFloat_35 ?_
  obtain ⟨r3, er3, hf⟩ := x_bind hf
  refine xc_wv (As := [.int (iI 0)]) (rest := []) ⟨hx, hb, hml, hown, hts⟩ (c2_add l dC dI cs (a 7) (a 14) _ 120 (g0_rwts b) 0 (by decide) _ er3) (cwV 1 hts gX0_newFloat_X2_add rfl rfl rfl cdX2_add ⟨Nat.le_of_ble_eq_true rfl, Nat.le_of_ble_eq_true rfl⟩) hK hP (x_addr hD rfl) hS hA [7, 14] rfl (by decide) rfl 7 rfl rfl rfl hl.1 rfl (Nat.le_of_ble_eq_true rfl) dX0_newFloat_36 ⟨Nat.zero_le _, Nat.zero_le _⟩ (fun H locs hP hS => ?_)
  have hP : va_P (dC, dI) vwCl (w0C cs a (g0_room b) (g0_opn b) (g0_flo b + 1) (g0_cst b) (g0_mrg b) (g0_stm b) (g0_brk b) (g0_keys b) (g0_weis b) (g0_homs b) (g0_ords b) r1 r2 r3) H := hP
  refine lv_iload_n hx hb dX0_newFloat_39 rfl (lv_at hl 0 rfl) ?_
  obtain rfl := Option.some.inj hf
  exact xe_wi hx hb hr hlocks hS hP dX0_newFloat_40
theorem cdX0_newFloat : yX0_newFloat.cls = RX0 ∧ yX0_newFloat.cls ≠ "java/lang/invoke/MethodHandle" ∧ yX0_newFloat.cls ≠ "java/lang/invoke/VarHandle" ∧ (parseMethodDescriptor yX0_newFloat.desc).map (fun d => d.parameters.length) = some 0 := by decide +kernel

set_option maxHeartbeats 4000000 in
set_option maxRecDepth 100000 in
theorem c0_tie (l : Launch) (dC : Nat → ClassId) (dI : Nat → Nat → Nat) (cs : Nat → ClassId) (a : Nat → Nat) (sz : Nat) (b : BoatS) (p0 : Int) (p1 : Int) (res : BoatS) (hf : f0_tie b p0 p1 = some res) : Met l yX0_tie wsX0_tie ({ frames := 2, cells := 0, slots := 0, locals := 44 } : Room) (va_Pc [.ref (a 0), .int (iI p0), .int (iI p1)] (xPW (dC, dI) vwCl (w0 cs a b) (xT cs) sz)) (xQv (dC, dI) vwCl (w0 cs a b) (w0 cs a res) sz) 0 0 (va_A (w0 cs a b) sz) := by
  refine Met.ofW (cc := cX0_tie) (maxL := 3) (ret := none) (by decide) rfl ?_
  intro p e s m args below meth c s₁ B hml hv
  obtain ⟨rfl, hsz, hP, hK, hD0⟩ := hv
  have hx := B.exec
  have hb := B.bytes
  have hr := B.returns
  have hts := atoms_spec (ws := wsX0_tie) B.pre
  have hown : s.vm.findClass RX0 = some m.cls := findClass_of_methodNamed B.named
  have hlocks := B.notSynchronized
  have hin0 : ∀ w ∈ wsX00, w ∈ wsX0_tie := by decide +kernel
  subst hsz
  have hD := hD0.self (sz := s.heap.size)
  have hA : ∀ z9 : Nat, s.heap.size ≤ z9 → va_A (w0 cs a b) s.heap.size z9 := fun z9 h => Or.inr h
  have hS : va_S (va_A (w0 cs a b) s.heap.size) s.heap s.heap [] := va_S.rf
  have hl := lv_entry [.ref (a 0), .int (iI p0), .int (iI p1)] (n := 3) (Nat.le_of_ble_eq_true rfl)
  rw [lg_entry_eq]
  generalize (lg_sl [.ref (a 0), .int (iI p0), .int (iI p1)] ++ List.replicate (3 - (lg_sl [.ref (a 0), .int (iI p0), .int (iI p1)]).length) Slot.unset).toArray = ls at hl ⊢
  have hl : lv_has ls 3 [(0, .ref (a 0)), (1, .int (iI p0)), (2, .int (iI p1))] := hl
  unfold f0_tie at hf
  refine lv_aload_n hx hb dX0_tie_0 rfl (lv_at hl 0 rfl) ?_
  refine va_get (D := (dC, dI)) (ci := 0) (v := .ref (a 3)) (C := RX0) (T := TX0) (N := 14) hx hb hts hin0 hown hK hP 0 rfl rfl 3 (by decide) (hts (.fieldLink RX0 30 "BoatRuns$Boat" "homes" "LBoatRuns$Row;") (by decide +kernel)) (fun _ h9 => h9) rfl dX0_tie_1 ?_
  refine lv_iload_n hx hb dX0_tie_4 rfl (lv_at hl 1 rfl) ?_
  refine lv_aload_n hx hb dX0_tie_5 rfl (lv_at hl 0 rfl) ?_
  refine va_get (D := (dC, dI)) (ci := 0) (v := .ref (a 5)) (C := RX0) (T := TX0) (N := 14) hx hb hts hin0 hown hK hP 0 rfl rfl 5 (by decide) (hts (.fieldLink RX0 36 "BoatRuns$Boat" "floats" "LBoatRuns$Row;") (by decide +kernel)) (fun _ h9 => h9) rfl dX0_tie_6 ?_
  refine lv_iload_n hx hb dX0_tie_9 rfl (lv_at hl 2 rfl) ?_
  obtain ⟨v1, ev1, hf⟩ := x_bind hf
  refine xc_ri (As := [.int (iI p1)]) (rest := [.int (iI p0), .ref (a 3)]) ⟨hx, hb, hml, hown, hts⟩ (c2_get l dC dI cs (a 5) (a 12) 120 (g0_flts b) p1 (by decide) _ ev1) (cwV 1 hts gX0_tie_X2_get rfl rfl rfl cdX2_get ⟨Nat.le_of_ble_eq_true rfl, Nat.le_of_ble_eq_true rfl⟩) hK hP [5, 12] rfl 5 rfl rfl rfl hl.1 rfl (Nat.le_of_ble_eq_true rfl) dX0_tie_10 ⟨Nat.zero_le _, Nat.zero_le _⟩ ?_
  obtain ⟨r2, er2, hf⟩ := x_bind hf
  refine xc_wv (As := [.int (iI p0), .int (iI v1)]) (rest := []) ⟨hx, hb, hml, hown, hts⟩ (c2_set l dC dI cs (a 3) (a 10) _ 120 (g0_homs b) p0 v1 (by decide) _ er2) (cwV 2 hts gX0_tie_X2_set rfl rfl rfl cdX2_set ⟨Nat.le_of_ble_eq_true rfl, Nat.le_of_ble_eq_true rfl⟩) hK hP (x_addr hD rfl) hS hA [3, 10] rfl (by decide) rfl 3 rfl rfl rfl hl.1 rfl (Nat.le_of_ble_eq_true rfl) dX0_tie_13 ⟨Nat.zero_le _, Nat.zero_le _⟩ (fun H locs hP hS => ?_)
  have hP : va_P (dC, dI) vwCl (w0C cs a (g0_room b) (g0_opn b) (g0_flo b) (g0_cst b) (g0_mrg b) (g0_stm b) (g0_brk b) (g0_keys b) (g0_weis b) r2 (g0_ords b) (g0_flts b) (g0_strs b) (g0_rwts b)) H := hP
  refine lv_aload_n hx hb dX0_tie_16 rfl (lv_at hl 0 rfl) ?_
  refine va_get (D := (dC, dI)) (ci := 0) (v := .ref (a 7)) (C := RX0) (T := TX0) (N := 14) hx hb hts hin0 hown hK hP 0 rfl rfl 7 (by decide) (hts (.fieldLink RX0 42 "BoatRuns$Boat" "runWeights" "LBoatRuns$Row;") (by decide +kernel)) (fun _ h9 => h9) rfl dX0_tie_17 ?_
  refine lv_iload_n hx hb dX0_tie_20 rfl (lv_at hl 2 rfl) ?_
  refine lv_aload_n hx hb dX0_tie_21 rfl (lv_at hl 0 rfl) ?_
  refine va_get (D := (dC, dI)) (ci := 0) (v := .ref (a 2)) (C := RX0) (T := TX0) (N := 14) hx hb hts hin0 hown hK hP 0 rfl rfl 2 (by decide) (hts (.fieldLink RX0 27 "BoatRuns$Boat" "weights" "LBoatRuns$Row;") (by decide +kernel)) (fun _ h9 => h9) rfl dX0_tie_22 ?_
  refine lv_iload_n hx hb dX0_tie_25 rfl (lv_at hl 1 rfl) ?_
  obtain ⟨v3, ev3, hf⟩ := x_bind hf
  refine xc_ri (As := [.int (iI p0)]) (rest := [.int (iI p1), .ref (a 7)]) ⟨hx, hb, hml, hown, hts⟩ (c2_get l dC dI cs (a 2) (a 9) 120 (g0_weis b) p0 (by decide) _ ev3) (cwV 1 hts gX0_tie_X2_get rfl rfl rfl cdX2_get ⟨Nat.le_of_ble_eq_true rfl, Nat.le_of_ble_eq_true rfl⟩) hK hP [2, 9] rfl 2 rfl rfl rfl hl.1 rfl (Nat.le_of_ble_eq_true rfl) dX0_tie_26 ⟨Nat.zero_le _, Nat.zero_le _⟩ ?_
  obtain ⟨r4, er4, hf⟩ := x_bind hf
  refine xc_wv (As := [.int (iI p1), .int (iI v3)]) (rest := []) ⟨hx, hb, hml, hown, hts⟩ (c2_increase l dC dI cs (a 7) (a 14) _ 120 (g0_rwts b) p1 v3 (by decide) _ er4) (cwV 2 hts gX0_tie_X2_increase rfl rfl rfl cdX2_increase ⟨Nat.le_of_ble_eq_true rfl, Nat.le_of_ble_eq_true rfl⟩) hK hP (x_addr hD rfl) hS hA [7, 14] rfl (by decide) rfl 7 rfl rfl rfl hl.1 rfl (Nat.le_of_ble_eq_true rfl) dX0_tie_29 ⟨Nat.zero_le _, Nat.zero_le _⟩ (fun H locs hP hS => ?_)
  have hP : va_P (dC, dI) vwCl (w0C cs a (g0_room b) (g0_opn b) (g0_flo b) (g0_cst b) (g0_mrg b) (g0_stm b) (g0_brk b) (g0_keys b) (g0_weis b) r2 (g0_ords b) (g0_flts b) (g0_strs b) r4) H := hP
  obtain rfl := Option.some.inj hf
  exact xe_wv hx hb hr hlocks hS hP dX0_tie_32
theorem cdX0_tie : yX0_tie.cls = RX0 ∧ yX0_tie.cls ≠ "java/lang/invoke/MethodHandle" ∧ yX0_tie.cls ≠ "java/lang/invoke/VarHandle" ∧ (parseMethodDescriptor yX0_tie.desc).map (fun d => d.parameters.length) = some 2 := by decide +kernel

set_option maxHeartbeats 4000000 in
set_option maxRecDepth 100000 in
theorem c5_placeIn (l : Launch) (dC : Nat → ClassId) (dI : Nat → Nat → Nat) (cs : Nat → ClassId) (a : Nat → Nat) (x : ModS) (p0 : Int) (res : Int) (hf : f5_placeIn x p0 = some res) : Met l yX5_placeIn wsX5_placeIn ({ frames := 2, cells := 0, slots := 0, locals := 44 } : Room) (va_Pc [.ref (a 0), .int (iI p0)] (xPR (dC, dI) vwCl (w5 cs a x) (xT cs))) (vp_Si (fun r => r = iI res)) 0 0 (fun _ => False) := by
  refine Met.ofW (cc := cX5_placeIn) (maxL := 4) (ret := (some .int)) (by decide) rfl ?_
  intro p e s m args below meth c s₁ B hml hv
  obtain ⟨rfl, hP, hK⟩ := hv
  have hx := B.exec
  have hb := B.bytes
  have hr := B.returns
  have hts := atoms_spec (ws := wsX5_placeIn) B.pre
  have hown : s.vm.findClass RX5 = some m.cls := findClass_of_methodNamed B.named
  have hlocks := B.notSynchronized
  have hin5 : ∀ w ∈ wsX50, w ∈ wsX5_placeIn := by decide +kernel
  have hl := lv_entry [.ref (a 0), .int (iI p0)] (n := 4) (Nat.le_of_ble_eq_true rfl)
  rw [lg_entry_eq]
  generalize (lg_sl [.ref (a 0), .int (iI p0)] ++ List.replicate (4 - (lg_sl [.ref (a 0), .int (iI p0)]).length) Slot.unset).toArray = ls at hl ⊢
  have hl : lv_has ls 4 [(0, .ref (a 0)), (1, .int (iI p0))] := hl
  unfold f5_placeIn at hf
  refine xk_iconst hx hb dX5_placeIn_0 ?_
  refine lv_istore_n (lv' := [(2, .int (iI 0)), (0, .ref (a 0)), (1, .int (iI p0))]) hx hb dX5_placeIn_1 rfl hl (by decide) rfl (fun ls hl => ?_)
  refine xk_iconst hx hb dX5_placeIn_2 ?_
  refine lv_istore_n (lv' := [(3, .int (iI 0)), (2, .int (iI 0)), (0, .ref (a 0)), (1, .int (iI p0))]) hx hb dX5_placeIn_3 rfl hl (by decide) rfl (fun ls hl => ?_)
  have hL4 : ∀ (n1 : Nat) (l2 : Int) (l3 : Int), f5_placeIn_L4 x p0 n1 l2 l3 = some res → ∀ (ls : Array Slot), lv_has ls 4 [(0, .ref (a 0)), (1, .int (iI p0)), (2, .int (iI l2)), (3, .int (iI l3))] → W p l e (headSpec wsX5_placeIn ({ frames := 2, cells := 0, slots := 0, locals := 44 } : Room)).room s m ([.ref (a 0), .int (iI p0)] : List Value).toArray below meth c s.heap [] 0 0 (MQ below (vp_Si (fun r => r = iI res)) ([.ref (a 0), .int (iI p0)] : List Value).toArray s 0 0 (fun _ => False)) (F0 m 4 ls []) := by
    intro  n1
    induction n1 with
    | zero => intro l2 l3 hf; have hf : (none : Option (Int)) = some res := hf; cases hf
    | succ n1 ih4 =>
      intro l2 l3 hf ls hl
      rw [f5_placeIn_L4] at hf
      refine lv_iload_n hx hb dX5_placeIn_4 rfl (lv_at hl 3 rfl) ?_
      refine lv_aload_n hx hb dX5_placeIn_5 rfl (lv_at hl 0 rfl) ?_
      refine va_get (D := (dC, dI)) (ci := 5) (v := .ref (a 1)) (C := RX5) (T := TX5) (N := 13) hx hb hts hin5 hown hK hP 0 rfl rfl 1 (by decide) (hts (.fieldLink RX5 13 "BoatRunsModel" "now" "[I") (by decide +kernel)) (fun _ h9 => h9) rfl dX5_placeIn_6 ?_
      refine xk_iconst hx hb dX5_placeIn_9 ?_
      obtain ⟨v2, ev2, hf⟩ := x_bind hf
      refine xk_iald (f := g5_now x) hx hb hK hP 1 0 ev2 (by decide) rfl rfl dX5_placeIn_10 ?_
      obtain ⟨c3a, c3b, c3t, c3f⟩ := x_ltE hf
      refine xk_icmp_ge (tgt := 46) hx hb c3a c3b dX5_placeIn_11 (by decide) (fun c3 => ?_) (fun c3 => ?_)
      · have hf := c3t c3
        refine lv_iload_n hx hb dX5_placeIn_14 rfl (lv_at hl 2 rfl) ?_
        refine lv_aload_n hx hb dX5_placeIn_15 rfl (lv_at hl 0 rfl) ?_
        refine lv_iload_n hx hb dX5_placeIn_16 rfl (lv_at hl 1 rfl) ?_
        refine lv_iload_n hx hb dX5_placeIn_17 rfl (lv_at hl 3 rfl) ?_
        obtain ⟨v4, ev4, hf⟩ := x_bind hf
        refine xc_ri (As := [.int (iI p0), .int (iI l3)]) (rest := [.int (iI l2)]) ⟨hx, hb, hml, hown, hts⟩ (c5_areTogether l dC dI cs a x p0 l3  _ ev4) (cwV 2 hts gX5_placeIn_X5_areTogether rfl rfl rfl cdX5_areTogether ⟨Nat.le_of_ble_eq_true rfl, Nat.le_of_ble_eq_true rfl⟩) hK hP [0, 1, 2, 3, 4, 5, 6, 7] rfl 0 rfl rfl rfl hl.1 rfl (Nat.le_of_ble_eq_true rfl) dX5_placeIn_18 ⟨Nat.zero_le _, Nat.zero_le _⟩ ?_
        obtain ⟨c5a, c5b, c5t, c5f⟩ := x_eqE hf
        refine xk_if_eq (tgt := 37) hx hb c5a dX5_placeIn_21 (by decide) (fun c5 => ?_) (fun c5 => ?_)
        · have hf := c5t c5
          refine xk_iconst hx hb dX5_placeIn_37 ?_
          refine xk_iadd hx hb dX5_placeIn_38 ?_
          refine lv_istore_n (lv' := [(2, .int (iI (l2 + 0))), (0, .ref (a 0)), (1, .int (iI p0)), (3, .int (iI l3))]) hx hb dX5_placeIn_39 rfl hl (by decide) rfl (fun ls hl => ?_)
          refine xk_iinc (lv' := [(3, .int (iI (l3 + 1))), (2, .int (iI (l2 + 0))), (0, .ref (a 0)), (1, .int (iI p0))]) hx hb dX5_placeIn_40 hl (k := 3) rfl (by decide) rfl (fun ls hl => ?_)
          refine lv_goto (tgt := 4) hx hb dX5_placeIn_43 (by decide) ?_
          exact ih4 (l2 + 0) (l3 + 1) hf ls (lv_sub hl [2, 3, 1, 0] rfl)
        · have hf := c5f c5
          refine lv_aload_n hx hb dX5_placeIn_24 rfl (lv_at hl 0 rfl) ?_
          refine lv_iload_n hx hb dX5_placeIn_25 rfl (lv_at hl 3 rfl) ?_
          refine lv_iload_n hx hb dX5_placeIn_26 rfl (lv_at hl 1 rfl) ?_
          obtain ⟨v6, ev6, hf⟩ := x_bind hf
          refine xc_ri (As := [.int (iI l3), .int (iI p0)]) (rest := [.int (iI l2)]) ⟨hx, hb, hml, hown, hts⟩ (c5_isLess l dC dI cs a x l3 p0  _ ev6) (cwV 2 hts gX5_placeIn_X5_isLess rfl rfl rfl cdX5_isLess ⟨Nat.le_of_ble_eq_true rfl, Nat.le_of_ble_eq_true rfl⟩) hK hP [0, 1, 2, 3, 4, 5, 6, 7] rfl 0 rfl rfl rfl hl.1 rfl (Nat.le_of_ble_eq_true rfl) dX5_placeIn_27 ⟨Nat.zero_le _, Nat.zero_le _⟩ ?_
          obtain ⟨c7a, c7b, c7t, c7f⟩ := x_eqE hf
          refine xk_if_eq (tgt := 37) hx hb c7a dX5_placeIn_30 (by decide) (fun c7 => ?_) (fun c7 => ?_)
          · have hf := c7t c7
            refine xk_iconst hx hb dX5_placeIn_37 ?_
            refine xk_iadd hx hb dX5_placeIn_38 ?_
            refine lv_istore_n (lv' := [(2, .int (iI (l2 + 0))), (0, .ref (a 0)), (1, .int (iI p0)), (3, .int (iI l3))]) hx hb dX5_placeIn_39 rfl hl (by decide) rfl (fun ls hl => ?_)
            refine xk_iinc (lv' := [(3, .int (iI (l3 + 1))), (2, .int (iI (l2 + 0))), (0, .ref (a 0)), (1, .int (iI p0))]) hx hb dX5_placeIn_40 hl (k := 3) rfl (by decide) rfl (fun ls hl => ?_)
            refine lv_goto (tgt := 4) hx hb dX5_placeIn_43 (by decide) ?_
            exact ih4 (l2 + 0) (l3 + 1) hf ls (lv_sub hl [2, 3, 1, 0] rfl)
          · have hf := c7f c7
            refine xk_iconst hx hb dX5_placeIn_33 ?_
            refine lv_goto (tgt := 38) hx hb dX5_placeIn_34 (by decide) ?_
            refine xk_iadd hx hb dX5_placeIn_38 ?_
            refine lv_istore_n (lv' := [(2, .int (iI (l2 + 1))), (0, .ref (a 0)), (1, .int (iI p0)), (3, .int (iI l3))]) hx hb dX5_placeIn_39 rfl hl (by decide) rfl (fun ls hl => ?_)
            refine xk_iinc (lv' := [(3, .int (iI (l3 + 1))), (2, .int (iI (l2 + 1))), (0, .ref (a 0)), (1, .int (iI p0))]) hx hb dX5_placeIn_40 hl (k := 3) rfl (by decide) rfl (fun ls hl => ?_)
            refine lv_goto (tgt := 4) hx hb dX5_placeIn_43 (by decide) ?_
            exact ih4 (l2 + 1) (l3 + 1) hf ls (lv_sub hl [2, 3, 1, 0] rfl)
      · have hf := c3f c3
        refine lv_iload_n hx hb dX5_placeIn_46 rfl (lv_at hl 2 rfl) ?_
        obtain rfl := Option.some.inj hf
        exact xe_ri hx hb hr hlocks dX5_placeIn_47 rfl
  exact hL4  xFU 0 0 hf ls (lv_sub hl [2, 3, 1, 0] rfl)
theorem cdX5_placeIn : yX5_placeIn.cls = RX5 ∧ yX5_placeIn.cls ≠ "java/lang/invoke/MethodHandle" ∧ yX5_placeIn.cls ≠ "java/lang/invoke/VarHandle" ∧ (parseMethodDescriptor yX5_placeIn.desc).map (fun d => d.parameters.length) = some 1 := by decide +kernel

set_option maxHeartbeats 4000000 in
set_option maxRecDepth 100000 in
theorem c5_firstOf (l : Launch) (dC : Nat → ClassId) (dI : Nat → Nat → Nat) (cs : Nat → ClassId) (a : Nat → Nat) (x : ModS) (p0 : Int) (res : Int) (hf : f5_firstOf x p0 = some res) : Met l yX5_firstOf wsX5_firstOf ({ frames := 2, cells := 0, slots := 0, locals := 44 } : Room) (va_Pc [.ref (a 0), .int (iI p0)] (xPR (dC, dI) vwCl (w5 cs a x) (xT cs))) (vp_Si (fun r => r = iI res)) 0 0 (fun _ => False) := by
  refine Met.ofW (cc := cX5_firstOf) (maxL := 4) (ret := (some .int)) (by decide) rfl ?_
  intro p e s m args below meth c s₁ B hml hv
  obtain ⟨rfl, hP, hK⟩ := hv
  have hx := B.exec
  have hb := B.bytes
  have hr := B.returns
  have hts := atoms_spec (ws := wsX5_firstOf) B.pre
  have hown : s.vm.findClass RX5 = some m.cls := findClass_of_methodNamed B.named
  have hlocks := B.notSynchronized
  have hin5 : ∀ w ∈ wsX50, w ∈ wsX5_firstOf := by decide +kernel
  have hl := lv_entry [.ref (a 0), .int (iI p0)] (n := 4) (Nat.le_of_ble_eq_true rfl)
  rw [lg_entry_eq]
  generalize (lg_sl [.ref (a 0), .int (iI p0)] ++ List.replicate (4 - (lg_sl [.ref (a 0), .int (iI p0)]).length) Slot.unset).toArray = ls at hl ⊢
  have hl : lv_has ls 4 [(0, .ref (a 0)), (1, .int (iI p0))] := hl
  unfold f5_firstOf at hf
  refine xk_iconst hx hb dX5_firstOf_0 ?_
  refine lv_istore_n (lv' := [(2, .int (iI (-1))), (0, .ref (a 0)), (1, .int (iI p0))]) hx hb dX5_firstOf_1 rfl hl (by decide) rfl (fun ls hl => ?_)
  refine xk_iconst hx hb dX5_firstOf_2 ?_
  refine lv_istore_n (lv' := [(3, .int (iI 0)), (2, .int (iI (-1))), (0, .ref (a 0)), (1, .int (iI p0))]) hx hb dX5_firstOf_3 rfl hl (by decide) rfl (fun ls hl => ?_)
  have hL4 : ∀ (n1 : Nat) (l2 : Int) (l3 : Int), f5_firstOf_L4 x p0 n1 l2 l3 = some res → ∀ (ls : Array Slot), lv_has ls 4 [(0, .ref (a 0)), (1, .int (iI p0)), (2, .int (iI l2)), (3, .int (iI l3))] → W p l e (headSpec wsX5_firstOf ({ frames := 2, cells := 0, slots := 0, locals := 44 } : Room)).room s m ([.ref (a 0), .int (iI p0)] : List Value).toArray below meth c s.heap [] 0 0 (MQ below (vp_Si (fun r => r = iI res)) ([.ref (a 0), .int (iI p0)] : List Value).toArray s 0 0 (fun _ => False)) (F0 m 4 ls []) := by
    intro  n1
    induction n1 with
    | zero => intro l2 l3 hf; have hf : (none : Option (Int)) = some res := hf; cases hf
    | succ n1 ih4 =>
      intro l2 l3 hf ls hl
      rw [f5_firstOf_L4] at hf
      refine lv_iload_n hx hb dX5_firstOf_4 rfl (lv_at hl 3 rfl) ?_
      refine lv_aload_n hx hb dX5_firstOf_5 rfl (lv_at hl 0 rfl) ?_
      refine va_get (D := (dC, dI)) (ci := 5) (v := .ref (a 1)) (C := RX5) (T := TX5) (N := 13) hx hb hts hin5 hown hK hP 0 rfl rfl 1 (by decide) (hts (.fieldLink RX5 13 "BoatRunsModel" "now" "[I") (by decide +kernel)) (fun _ h9 => h9) rfl dX5_firstOf_6 ?_
      refine xk_iconst hx hb dX5_firstOf_9 ?_
      obtain ⟨v2, ev2, hf⟩ := x_bind hf
      refine xk_iald (f := g5_now x) hx hb hK hP 1 0 ev2 (by decide) rfl rfl dX5_firstOf_10 ?_
      obtain ⟨c3a, c3b, c3t, c3f⟩ := x_ltE hf
      refine xk_icmp_ge (tgt := 49) hx hb c3a c3b dX5_firstOf_11 (by decide) (fun c3 => ?_) (fun c3 => ?_)
      · have hf := c3t c3
        refine lv_aload_n hx hb dX5_firstOf_14 rfl (lv_at hl 0 rfl) ?_
        refine lv_iload_n hx hb dX5_firstOf_15 rfl (lv_at hl 3 rfl) ?_
        refine lv_iload_n hx hb dX5_firstOf_16 rfl (lv_at hl 1 rfl) ?_
        obtain ⟨v4, ev4, hf⟩ := x_bind hf
        refine xc_ri (As := [.int (iI l3), .int (iI p0)]) (rest := []) ⟨hx, hb, hml, hown, hts⟩ (c5_isOf l dC dI cs a x l3 p0  _ ev4) (cwV 2 hts gX5_firstOf_X5_isOf rfl rfl rfl cdX5_isOf ⟨Nat.le_of_ble_eq_true rfl, Nat.le_of_ble_eq_true rfl⟩) hK hP [0, 1, 2, 3, 4, 5, 6, 7] rfl 0 rfl rfl rfl hl.1 rfl (Nat.le_of_ble_eq_true rfl) dX5_firstOf_17 ⟨Nat.zero_le _, Nat.zero_le _⟩ ?_
        obtain ⟨c5a, c5b, c5t, c5f⟩ := x_eqE hf
        refine xk_if_eq (tgt := 41) hx hb c5a dX5_firstOf_20 (by decide) (fun c5 => ?_) (fun c5 => ?_)
        · have hf := c5t c5
          refine lv_iload_n hx hb dX5_firstOf_41 rfl (lv_at hl 2 rfl) ?_
          refine lv_istore_n (lv' := [(2, .int (iI l2)), (0, .ref (a 0)), (1, .int (iI p0)), (3, .int (iI l3))]) hx hb dX5_firstOf_42 rfl hl (by decide) rfl (fun ls hl => ?_)
          refine xk_iinc (lv' := [(3, .int (iI (l3 + 1))), (2, .int (iI l2)), (0, .ref (a 0)), (1, .int (iI p0))]) hx hb dX5_firstOf_43 hl (k := 3) rfl (by decide) rfl (fun ls hl => ?_)
          refine lv_goto (tgt := 4) hx hb dX5_firstOf_46 (by decide) ?_
          exact ih4 l2 (l3 + 1) hf ls (lv_sub hl [2, 3, 1, 0] rfl)
        · have hf := c5f c5
          refine lv_iload_n hx hb dX5_firstOf_23 rfl (lv_at hl 2 rfl) ?_
          refine xk_iconst hx hb dX5_firstOf_24 ?_
          obtain ⟨c6a, c6b, c6t, c6f⟩ := x_eqE hf
          refine xk_icmp_eq (tgt := 37) hx hb c6a c6b dX5_firstOf_25 (by decide) (fun c6 => ?_) (fun c6 => ?_)
          · have hf := c6t c6
            refine lv_iload_n hx hb dX5_firstOf_37 rfl (lv_at hl 3 rfl) ?_
            refine lv_goto (tgt := 42) hx hb dX5_firstOf_38 (by decide) ?_
            refine lv_istore_n (lv' := [(2, .int (iI l3)), (0, .ref (a 0)), (1, .int (iI p0)), (3, .int (iI l3))]) hx hb dX5_firstOf_42 rfl hl (by decide) rfl (fun ls hl => ?_)
            refine xk_iinc (lv' := [(3, .int (iI (l3 + 1))), (2, .int (iI l3)), (0, .ref (a 0)), (1, .int (iI p0))]) hx hb dX5_firstOf_43 hl (k := 3) rfl (by decide) rfl (fun ls hl => ?_)
            refine lv_goto (tgt := 4) hx hb dX5_firstOf_46 (by decide) ?_
            exact ih4 l3 (l3 + 1) hf ls (lv_sub hl [2, 3, 1, 0] rfl)
          · have hf := c6f c6
            refine lv_aload_n hx hb dX5_firstOf_28 rfl (lv_at hl 0 rfl) ?_
            refine lv_iload_n hx hb dX5_firstOf_29 rfl (lv_at hl 3 rfl) ?_
            refine lv_iload_n hx hb dX5_firstOf_30 rfl (lv_at hl 2 rfl) ?_
            obtain ⟨v7, ev7, hf⟩ := x_bind hf
            refine xc_ri (As := [.int (iI l3), .int (iI l2)]) (rest := []) ⟨hx, hb, hml, hown, hts⟩ (c5_isLess l dC dI cs a x l3 l2  _ ev7) (cwV 2 hts gX5_firstOf_X5_isLess rfl rfl rfl cdX5_isLess ⟨Nat.le_of_ble_eq_true rfl, Nat.le_of_ble_eq_true rfl⟩) hK hP [0, 1, 2, 3, 4, 5, 6, 7] rfl 0 rfl rfl rfl hl.1 rfl (Nat.le_of_ble_eq_true rfl) dX5_firstOf_31 ⟨Nat.zero_le _, Nat.zero_le _⟩ ?_
            obtain ⟨c8a, c8b, c8t, c8f⟩ := x_eqE hf
            refine xk_if_eq (tgt := 41) hx hb c8a dX5_firstOf_34 (by decide) (fun c8 => ?_) (fun c8 => ?_)
            · have hf := c8t c8
              refine lv_iload_n hx hb dX5_firstOf_41 rfl (lv_at hl 2 rfl) ?_
              refine lv_istore_n (lv' := [(2, .int (iI l2)), (0, .ref (a 0)), (1, .int (iI p0)), (3, .int (iI l3))]) hx hb dX5_firstOf_42 rfl hl (by decide) rfl (fun ls hl => ?_)
              refine xk_iinc (lv' := [(3, .int (iI (l3 + 1))), (2, .int (iI l2)), (0, .ref (a 0)), (1, .int (iI p0))]) hx hb dX5_firstOf_43 hl (k := 3) rfl (by decide) rfl (fun ls hl => ?_)
              refine lv_goto (tgt := 4) hx hb dX5_firstOf_46 (by decide) ?_
              exact ih4 l2 (l3 + 1) hf ls (lv_sub hl [2, 3, 1, 0] rfl)
            · have hf := c8f c8
              refine lv_iload_n hx hb dX5_firstOf_37 rfl (lv_at hl 3 rfl) ?_
              refine lv_goto (tgt := 42) hx hb dX5_firstOf_38 (by decide) ?_
              refine lv_istore_n (lv' := [(2, .int (iI l3)), (0, .ref (a 0)), (1, .int (iI p0)), (3, .int (iI l3))]) hx hb dX5_firstOf_42 rfl hl (by decide) rfl (fun ls hl => ?_)
              refine xk_iinc (lv' := [(3, .int (iI (l3 + 1))), (2, .int (iI l3)), (0, .ref (a 0)), (1, .int (iI p0))]) hx hb dX5_firstOf_43 hl (k := 3) rfl (by decide) rfl (fun ls hl => ?_)
              refine lv_goto (tgt := 4) hx hb dX5_firstOf_46 (by decide) ?_
              exact ih4 l3 (l3 + 1) hf ls (lv_sub hl [2, 3, 1, 0] rfl)
      · have hf := c3f c3
        refine lv_iload_n hx hb dX5_firstOf_49 rfl (lv_at hl 2 rfl) ?_
        obtain rfl := Option.some.inj hf
        exact xe_ri hx hb hr hlocks dX5_firstOf_50 rfl
  exact hL4  xFU (-1) 0 hf ls (lv_sub hl [2, 3, 1, 0] rfl)
theorem cdX5_firstOf : yX5_firstOf.cls = RX5 ∧ yX5_firstOf.cls ≠ "java/lang/invoke/MethodHandle" ∧ yX5_firstOf.cls ≠ "java/lang/invoke/VarHandle" ∧ (parseMethodDescriptor yX5_firstOf.desc).map (fun d => d.parameters.length) = some 1 := by decide +kernel

set_option maxHeartbeats 4000000 in
set_option maxRecDepth 100000 in
theorem c5_lastOf (l : Launch) (dC : Nat → ClassId) (dI : Nat → Nat → Nat) (cs : Nat → ClassId) (a : Nat → Nat) (x : ModS) (p0 : Int) (res : Int) (hf : f5_lastOf x p0 = some res) : Met l yX5_lastOf wsX5_lastOf ({ frames := 2, cells := 0, slots := 0, locals := 44 } : Room) (va_Pc [.ref (a 0), .int (iI p0)] (xPR (dC, dI) vwCl (w5 cs a x) (xT cs))) (vp_Si (fun r => r = iI res)) 0 0 (fun _ => False) := by
  refine Met.ofW (cc := cX5_lastOf) (maxL := 4) (ret := (some .int)) (by decide) rfl ?_
  intro p e s m args below meth c s₁ B hml hv
  obtain ⟨rfl, hP, hK⟩ := hv
  have hx := B.exec
  have hb := B.bytes
  have hr := B.returns
  have hts := atoms_spec (ws := wsX5_lastOf) B.pre
  have hown : s.vm.findClass RX5 = some m.cls := findClass_of_methodNamed B.named
  have hlocks := B.notSynchronized
  have hin5 : ∀ w ∈ wsX50, w ∈ wsX5_lastOf := by decide +kernel
  have hl := lv_entry [.ref (a 0), .int (iI p0)] (n := 4) (Nat.le_of_ble_eq_true rfl)
  rw [lg_entry_eq]
  generalize (lg_sl [.ref (a 0), .int (iI p0)] ++ List.replicate (4 - (lg_sl [.ref (a 0), .int (iI p0)]).length) Slot.unset).toArray = ls at hl ⊢
  have hl : lv_has ls 4 [(0, .ref (a 0)), (1, .int (iI p0))] := hl
  unfold f5_lastOf at hf
  refine xk_iconst hx hb dX5_lastOf_0 ?_
  refine lv_istore_n (lv' := [(2, .int (iI (-1))), (0, .ref (a 0)), (1, .int (iI p0))]) hx hb dX5_lastOf_1 rfl hl (by decide) rfl (fun ls hl => ?_)
  refine xk_iconst hx hb dX5_lastOf_2 ?_
  refine lv_istore_n (lv' := [(3, .int (iI 0)), (2, .int (iI (-1))), (0, .ref (a 0)), (1, .int (iI p0))]) hx hb dX5_lastOf_3 rfl hl (by decide) rfl (fun ls hl => ?_)
  have hL4 : ∀ (n1 : Nat) (l2 : Int) (l3 : Int), f5_lastOf_L4 x p0 n1 l2 l3 = some res → ∀ (ls : Array Slot), lv_has ls 4 [(0, .ref (a 0)), (1, .int (iI p0)), (2, .int (iI l2)), (3, .int (iI l3))] → W p l e (headSpec wsX5_lastOf ({ frames := 2, cells := 0, slots := 0, locals := 44 } : Room)).room s m ([.ref (a 0), .int (iI p0)] : List Value).toArray below meth c s.heap [] 0 0 (MQ below (vp_Si (fun r => r = iI res)) ([.ref (a 0), .int (iI p0)] : List Value).toArray s 0 0 (fun _ => False)) (F0 m 4 ls []) := by
    intro  n1
    induction n1 with
    | zero => intro l2 l3 hf; have hf : (none : Option (Int)) = some res := hf; cases hf
    | succ n1 ih4 =>
      intro l2 l3 hf ls hl
      rw [f5_lastOf_L4] at hf
      refine lv_iload_n hx hb dX5_lastOf_4 rfl (lv_at hl 3 rfl) ?_
      refine lv_aload_n hx hb dX5_lastOf_5 rfl (lv_at hl 0 rfl) ?_
      refine va_get (D := (dC, dI)) (ci := 5) (v := .ref (a 1)) (C := RX5) (T := TX5) (N := 13) hx hb hts hin5 hown hK hP 0 rfl rfl 1 (by decide) (hts (.fieldLink RX5 13 "BoatRunsModel" "now" "[I") (by decide +kernel)) (fun _ h9 => h9) rfl dX5_lastOf_6 ?_
      refine xk_iconst hx hb dX5_lastOf_9 ?_
      obtain ⟨v2, ev2, hf⟩ := x_bind hf
      refine xk_iald (f := g5_now x) hx hb hK hP 1 0 ev2 (by decide) rfl rfl dX5_lastOf_10 ?_
      obtain ⟨c3a, c3b, c3t, c3f⟩ := x_ltE hf
      refine xk_icmp_ge (tgt := 49) hx hb c3a c3b dX5_lastOf_11 (by decide) (fun c3 => ?_) (fun c3 => ?_)
      · have hf := c3t c3
        refine lv_aload_n hx hb dX5_lastOf_14 rfl (lv_at hl 0 rfl) ?_
        refine lv_iload_n hx hb dX5_lastOf_15 rfl (lv_at hl 3 rfl) ?_
        refine lv_iload_n hx hb dX5_lastOf_16 rfl (lv_at hl 1 rfl) ?_
        obtain ⟨v4, ev4, hf⟩ := x_bind hf
        refine xc_ri (As := [.int (iI l3), .int (iI p0)]) (rest := []) ⟨hx, hb, hml, hown, hts⟩ (c5_isOf l dC dI cs a x l3 p0  _ ev4) (cwV 2 hts gX5_lastOf_X5_isOf rfl rfl rfl cdX5_isOf ⟨Nat.le_of_ble_eq_true rfl, Nat.le_of_ble_eq_true rfl⟩) hK hP [0, 1, 2, 3, 4, 5, 6, 7] rfl 0 rfl rfl rfl hl.1 rfl (Nat.le_of_ble_eq_true rfl) dX5_lastOf_17 ⟨Nat.zero_le _, Nat.zero_le _⟩ ?_
        obtain ⟨c5a, c5b, c5t, c5f⟩ := x_eqE hf
        refine xk_if_eq (tgt := 41) hx hb c5a dX5_lastOf_20 (by decide) (fun c5 => ?_) (fun c5 => ?_)
        · have hf := c5t c5
          refine lv_iload_n hx hb dX5_lastOf_41 rfl (lv_at hl 2 rfl) ?_
          refine lv_istore_n (lv' := [(2, .int (iI l2)), (0, .ref (a 0)), (1, .int (iI p0)), (3, .int (iI l3))]) hx hb dX5_lastOf_42 rfl hl (by decide) rfl (fun ls hl => ?_)
          refine xk_iinc (lv' := [(3, .int (iI (l3 + 1))), (2, .int (iI l2)), (0, .ref (a 0)), (1, .int (iI p0))]) hx hb dX5_lastOf_43 hl (k := 3) rfl (by decide) rfl (fun ls hl => ?_)
          refine lv_goto (tgt := 4) hx hb dX5_lastOf_46 (by decide) ?_
          exact ih4 l2 (l3 + 1) hf ls (lv_sub hl [2, 3, 1, 0] rfl)
        · have hf := c5f c5
          refine lv_iload_n hx hb dX5_lastOf_23 rfl (lv_at hl 2 rfl) ?_
          refine xk_iconst hx hb dX5_lastOf_24 ?_
          obtain ⟨c6a, c6b, c6t, c6f⟩ := x_eqE hf
          refine xk_icmp_eq (tgt := 37) hx hb c6a c6b dX5_lastOf_25 (by decide) (fun c6 => ?_) (fun c6 => ?_)
          · have hf := c6t c6
            refine lv_iload_n hx hb dX5_lastOf_37 rfl (lv_at hl 3 rfl) ?_
            refine lv_goto (tgt := 42) hx hb dX5_lastOf_38 (by decide) ?_
            refine lv_istore_n (lv' := [(2, .int (iI l3)), (0, .ref (a 0)), (1, .int (iI p0)), (3, .int (iI l3))]) hx hb dX5_lastOf_42 rfl hl (by decide) rfl (fun ls hl => ?_)
            refine xk_iinc (lv' := [(3, .int (iI (l3 + 1))), (2, .int (iI l3)), (0, .ref (a 0)), (1, .int (iI p0))]) hx hb dX5_lastOf_43 hl (k := 3) rfl (by decide) rfl (fun ls hl => ?_)
            refine lv_goto (tgt := 4) hx hb dX5_lastOf_46 (by decide) ?_
            exact ih4 l3 (l3 + 1) hf ls (lv_sub hl [2, 3, 1, 0] rfl)
          · have hf := c6f c6
            refine lv_aload_n hx hb dX5_lastOf_28 rfl (lv_at hl 0 rfl) ?_
            refine lv_iload_n hx hb dX5_lastOf_29 rfl (lv_at hl 2 rfl) ?_
            refine lv_iload_n hx hb dX5_lastOf_30 rfl (lv_at hl 3 rfl) ?_
            obtain ⟨v7, ev7, hf⟩ := x_bind hf
            refine xc_ri (As := [.int (iI l2), .int (iI l3)]) (rest := []) ⟨hx, hb, hml, hown, hts⟩ (c5_isLess l dC dI cs a x l2 l3  _ ev7) (cwV 2 hts gX5_lastOf_X5_isLess rfl rfl rfl cdX5_isLess ⟨Nat.le_of_ble_eq_true rfl, Nat.le_of_ble_eq_true rfl⟩) hK hP [0, 1, 2, 3, 4, 5, 6, 7] rfl 0 rfl rfl rfl hl.1 rfl (Nat.le_of_ble_eq_true rfl) dX5_lastOf_31 ⟨Nat.zero_le _, Nat.zero_le _⟩ ?_
            obtain ⟨c8a, c8b, c8t, c8f⟩ := x_eqE hf
            refine xk_if_eq (tgt := 41) hx hb c8a dX5_lastOf_34 (by decide) (fun c8 => ?_) (fun c8 => ?_)
            · have hf := c8t c8
              refine lv_iload_n hx hb dX5_lastOf_41 rfl (lv_at hl 2 rfl) ?_
              refine lv_istore_n (lv' := [(2, .int (iI l2)), (0, .ref (a 0)), (1, .int (iI p0)), (3, .int (iI l3))]) hx hb dX5_lastOf_42 rfl hl (by decide) rfl (fun ls hl => ?_)
              refine xk_iinc (lv' := [(3, .int (iI (l3 + 1))), (2, .int (iI l2)), (0, .ref (a 0)), (1, .int (iI p0))]) hx hb dX5_lastOf_43 hl (k := 3) rfl (by decide) rfl (fun ls hl => ?_)
              refine lv_goto (tgt := 4) hx hb dX5_lastOf_46 (by decide) ?_
              exact ih4 l2 (l3 + 1) hf ls (lv_sub hl [2, 3, 1, 0] rfl)
            · have hf := c8f c8
              refine lv_iload_n hx hb dX5_lastOf_37 rfl (lv_at hl 3 rfl) ?_
              refine lv_goto (tgt := 42) hx hb dX5_lastOf_38 (by decide) ?_
              refine lv_istore_n (lv' := [(2, .int (iI l3)), (0, .ref (a 0)), (1, .int (iI p0)), (3, .int (iI l3))]) hx hb dX5_lastOf_42 rfl hl (by decide) rfl (fun ls hl => ?_)
              refine xk_iinc (lv' := [(3, .int (iI (l3 + 1))), (2, .int (iI l3)), (0, .ref (a 0)), (1, .int (iI p0))]) hx hb dX5_lastOf_43 hl (k := 3) rfl (by decide) rfl (fun ls hl => ?_)
              refine lv_goto (tgt := 4) hx hb dX5_lastOf_46 (by decide) ?_
              exact ih4 l3 (l3 + 1) hf ls (lv_sub hl [2, 3, 1, 0] rfl)
      · have hf := c3f c3
        refine lv_iload_n hx hb dX5_lastOf_49 rfl (lv_at hl 2 rfl) ?_
        obtain rfl := Option.some.inj hf
        exact xe_ri hx hb hr hlocks dX5_lastOf_50 rfl
  exact hL4  xFU (-1) 0 hf ls (lv_sub hl [2, 3, 1, 0] rfl)
theorem cdX5_lastOf : yX5_lastOf.cls = RX5 ∧ yX5_lastOf.cls ≠ "java/lang/invoke/MethodHandle" ∧ yX5_lastOf.cls ≠ "java/lang/invoke/VarHandle" ∧ (parseMethodDescriptor yX5_lastOf.desc).map (fun d => d.parameters.length) = some 1 := by decide +kernel

set_option maxHeartbeats 4000000 in
set_option maxRecDepth 100000 in
theorem c5_lastAshore (l : Launch) (dC : Nat → ClassId) (dI : Nat → Nat → Nat) (cs : Nat → ClassId) (a : Nat → Nat) (x : ModS) (res : Int) (hf : f5_lastAshore x = some res) : Met l yX5_lastAshore wsX5_lastAshore ({ frames := 2, cells := 0, slots := 0, locals := 44 } : Room) (va_Pc [.ref (a 0)] (xPR (dC, dI) vwCl (w5 cs a x) (xT cs))) (vp_Si (fun r => r = iI res)) 0 0 (fun _ => False) := by
  refine Met.ofW (cc := cX5_lastAshore) (maxL := 3) (ret := (some .int)) (by decide) rfl ?_
  intro p e s m args below meth c s₁ B hml hv
  obtain ⟨rfl, hP, hK⟩ := hv
  have hx := B.exec
  have hb := B.bytes
  have hr := B.returns
  have hts := atoms_spec (ws := wsX5_lastAshore) B.pre
  have hown : s.vm.findClass RX5 = some m.cls := findClass_of_methodNamed B.named
  have hlocks := B.notSynchronized
  have hin5 : ∀ w ∈ wsX50, w ∈ wsX5_lastAshore := by decide +kernel
  have hl := lv_entry [.ref (a 0)] (n := 3) (Nat.le_of_ble_eq_true rfl)
  rw [lg_entry_eq]
  generalize (lg_sl [.ref (a 0)] ++ List.replicate (3 - (lg_sl [.ref (a 0)]).length) Slot.unset).toArray = ls at hl ⊢
  have hl : lv_has ls 3 [(0, .ref (a 0))] := hl
  unfold f5_lastAshore at hf
  refine xk_iconst hx hb dX5_lastAshore_0 ?_
  refine lv_istore_n (lv' := [(1, .int (iI (-1))), (0, .ref (a 0))]) hx hb dX5_lastAshore_1 rfl hl (by decide) rfl (fun ls hl => ?_)
  refine xk_iconst hx hb dX5_lastAshore_2 ?_
  refine lv_istore_n (lv' := [(2, .int (iI 0)), (1, .int (iI (-1))), (0, .ref (a 0))]) hx hb dX5_lastAshore_3 rfl hl (by decide) rfl (fun ls hl => ?_)
  have hL4 : ∀ (n1 : Nat) (l1 : Int) (l2 : Int), f5_lastAshore_L4 x n1 l1 l2 = some res → ∀ (ls : Array Slot), lv_has ls 3 [(0, .ref (a 0)), (1, .int (iI l1)), (2, .int (iI l2))] → W p l e (headSpec wsX5_lastAshore ({ frames := 2, cells := 0, slots := 0, locals := 44 } : Room)).room s m ([.ref (a 0)] : List Value).toArray below meth c s.heap [] 0 0 (MQ below (vp_Si (fun r => r = iI res)) ([.ref (a 0)] : List Value).toArray s 0 0 (fun _ => False)) (F0 m 4 ls []) := by
    intro  n1
    induction n1 with
    | zero => intro l1 l2 hf; have hf : (none : Option (Int)) = some res := hf; cases hf
    | succ n1 ih4 =>
      intro l1 l2 hf ls hl
      rw [f5_lastAshore_L4] at hf
      refine lv_iload_n hx hb dX5_lastAshore_4 rfl (lv_at hl 2 rfl) ?_
      refine lv_aload_n hx hb dX5_lastAshore_5 rfl (lv_at hl 0 rfl) ?_
      refine va_get (D := (dC, dI)) (ci := 5) (v := .ref (a 1)) (C := RX5) (T := TX5) (N := 13) hx hb hts hin5 hown hK hP 0 rfl rfl 1 (by decide) (hts (.fieldLink RX5 13 "BoatRunsModel" "now" "[I") (by decide +kernel)) (fun _ h9 => h9) rfl dX5_lastAshore_6 ?_
      refine xk_iconst hx hb dX5_lastAshore_9 ?_
      obtain ⟨v2, ev2, hf⟩ := x_bind hf
      refine xk_iald (f := g5_now x) hx hb hK hP 1 0 ev2 (by decide) rfl rfl dX5_lastAshore_10 ?_
      obtain ⟨c3a, c3b, c3t, c3f⟩ := x_ltE hf
      refine xk_icmp_ge (tgt := 50) hx hb c3a c3b dX5_lastAshore_11 (by decide) (fun c3 => ?_) (fun c3 => ?_)
      · have hf := c3t c3
        refine lv_aload_n hx hb dX5_lastAshore_14 rfl (lv_at hl 0 rfl) ?_
        refine lv_iload_n hx hb dX5_lastAshore_15 rfl (lv_at hl 2 rfl) ?_
        refine xk_iconst hx hb dX5_lastAshore_16 ?_
        obtain ⟨v4, ev4, hf⟩ := x_bind hf
        refine xc_ri (As := [.int (iI l2), .int (iI 2)]) (rest := []) ⟨hx, hb, hml, hown, hts⟩ (c5_of l dC dI cs a x l2 2  _ ev4) (cwV 2 hts gX5_lastAshore_X5_of rfl rfl rfl cdX5_of ⟨Nat.le_of_ble_eq_true rfl, Nat.le_of_ble_eq_true rfl⟩) hK hP [0, 1, 2, 3, 4, 5, 6, 7] rfl 0 rfl rfl rfl hl.1 rfl (Nat.le_of_ble_eq_true rfl) dX5_lastAshore_17 ⟨Nat.zero_le _, Nat.zero_le _⟩ ?_
        refine xk_iconst hx hb dX5_lastAshore_20 ?_
        obtain ⟨c5a, c5b, c5t, c5f⟩ := x_eqE hf
        refine xk_icmp_ne (tgt := 42) hx hb c5a c5b dX5_lastAshore_21 (by decide) (fun c5 => ?_) (fun c5 => ?_)
        · have hf := c5t c5
          refine lv_iload_n hx hb dX5_lastAshore_24 rfl (lv_at hl 1 rfl) ?_
          refine xk_iconst hx hb dX5_lastAshore_25 ?_
          obtain ⟨c6a, c6b, c6t, c6f⟩ := x_eqE hf
          refine xk_icmp_eq (tgt := 38) hx hb c6a c6b dX5_lastAshore_26 (by decide) (fun c6 => ?_) (fun c6 => ?_)
          · have hf := c6t c6
            refine lv_iload_n hx hb dX5_lastAshore_38 rfl (lv_at hl 2 rfl) ?_
            refine lv_goto (tgt := 43) hx hb dX5_lastAshore_39 (by decide) ?_
            refine lv_istore_n (lv' := [(1, .int (iI l2)), (0, .ref (a 0)), (2, .int (iI l2))]) hx hb dX5_lastAshore_43 rfl hl (by decide) rfl (fun ls hl => ?_)
            refine xk_iinc (lv' := [(2, .int (iI (l2 + 1))), (1, .int (iI l2)), (0, .ref (a 0))]) hx hb dX5_lastAshore_44 hl (k := 2) rfl (by decide) rfl (fun ls hl => ?_)
            refine lv_goto (tgt := 4) hx hb dX5_lastAshore_47 (by decide) ?_
            exact ih4 l2 (l2 + 1) hf ls (lv_sub hl [2, 1, 0] rfl)
          · have hf := c6f c6
            refine lv_aload_n hx hb dX5_lastAshore_29 rfl (lv_at hl 0 rfl) ?_
            refine lv_iload_n hx hb dX5_lastAshore_30 rfl (lv_at hl 1 rfl) ?_
            refine lv_iload_n hx hb dX5_lastAshore_31 rfl (lv_at hl 2 rfl) ?_
            obtain ⟨v7, ev7, hf⟩ := x_bind hf
            refine xc_ri (As := [.int (iI l1), .int (iI l2)]) (rest := []) ⟨hx, hb, hml, hown, hts⟩ (c5_isLess l dC dI cs a x l1 l2  _ ev7) (cwV 2 hts gX5_lastAshore_X5_isLess rfl rfl rfl cdX5_isLess ⟨Nat.le_of_ble_eq_true rfl, Nat.le_of_ble_eq_true rfl⟩) hK hP [0, 1, 2, 3, 4, 5, 6, 7] rfl 0 rfl rfl rfl hl.1 rfl (Nat.le_of_ble_eq_true rfl) dX5_lastAshore_32 ⟨Nat.zero_le _, Nat.zero_le _⟩ ?_
            obtain ⟨c8a, c8b, c8t, c8f⟩ := x_eqE hf
            refine xk_if_eq (tgt := 42) hx hb c8a dX5_lastAshore_35 (by decide) (fun c8 => ?_) (fun c8 => ?_)
            · have hf := c8t c8
              refine lv_iload_n hx hb dX5_lastAshore_42 rfl (lv_at hl 1 rfl) ?_
              refine lv_istore_n (lv' := [(1, .int (iI l1)), (0, .ref (a 0)), (2, .int (iI l2))]) hx hb dX5_lastAshore_43 rfl hl (by decide) rfl (fun ls hl => ?_)
              refine xk_iinc (lv' := [(2, .int (iI (l2 + 1))), (1, .int (iI l1)), (0, .ref (a 0))]) hx hb dX5_lastAshore_44 hl (k := 2) rfl (by decide) rfl (fun ls hl => ?_)
              refine lv_goto (tgt := 4) hx hb dX5_lastAshore_47 (by decide) ?_
              exact ih4 l1 (l2 + 1) hf ls (lv_sub hl [2, 1, 0] rfl)
            · have hf := c8f c8
              refine lv_iload_n hx hb dX5_lastAshore_38 rfl (lv_at hl 2 rfl) ?_
              refine lv_goto (tgt := 43) hx hb dX5_lastAshore_39 (by decide) ?_
              refine lv_istore_n (lv' := [(1, .int (iI l2)), (0, .ref (a 0)), (2, .int (iI l2))]) hx hb dX5_lastAshore_43 rfl hl (by decide) rfl (fun ls hl => ?_)
              refine xk_iinc (lv' := [(2, .int (iI (l2 + 1))), (1, .int (iI l2)), (0, .ref (a 0))]) hx hb dX5_lastAshore_44 hl (k := 2) rfl (by decide) rfl (fun ls hl => ?_)
              refine lv_goto (tgt := 4) hx hb dX5_lastAshore_47 (by decide) ?_
              exact ih4 l2 (l2 + 1) hf ls (lv_sub hl [2, 1, 0] rfl)
        · have hf := c5f c5
          refine lv_iload_n hx hb dX5_lastAshore_42 rfl (lv_at hl 1 rfl) ?_
          refine lv_istore_n (lv' := [(1, .int (iI l1)), (0, .ref (a 0)), (2, .int (iI l2))]) hx hb dX5_lastAshore_43 rfl hl (by decide) rfl (fun ls hl => ?_)
          refine xk_iinc (lv' := [(2, .int (iI (l2 + 1))), (1, .int (iI l1)), (0, .ref (a 0))]) hx hb dX5_lastAshore_44 hl (k := 2) rfl (by decide) rfl (fun ls hl => ?_)
          refine lv_goto (tgt := 4) hx hb dX5_lastAshore_47 (by decide) ?_
          exact ih4 l1 (l2 + 1) hf ls (lv_sub hl [2, 1, 0] rfl)
      · have hf := c3f c3
        refine lv_iload_n hx hb dX5_lastAshore_50 rfl (lv_at hl 1 rfl) ?_
        obtain rfl := Option.some.inj hf
        exact xe_ri hx hb hr hlocks dX5_lastAshore_51 rfl
  exact hL4  xFU (-1) 0 hf ls (lv_sub hl [2, 1, 0] rfl)
theorem cdX5_lastAshore : yX5_lastAshore.cls = RX5 ∧ yX5_lastAshore.cls ≠ "java/lang/invoke/MethodHandle" ∧ yX5_lastAshore.cls ≠ "java/lang/invoke/VarHandle" ∧ (parseMethodDescriptor yX5_lastAshore.desc).map (fun d => d.parameters.length) = some 0 := by decide +kernel

set_option maxHeartbeats 4000000 in
set_option maxRecDepth 100000 in
theorem c5_save (l : Launch) (dC : Nat → ClassId) (dI : Nat → Nat → Nat) (cs : Nat → ClassId) (a : Nat → Nat) (sz : Nat) (x : ModS) (res : ModS) (hf : f5_save x = some res) : Met l yX5_save wsX5_save ({ frames := 0, cells := 0, slots := 0, locals := 0 } : Room) (va_Pc [.ref (a 0)] (xPW (dC, dI) vwCl (w5 cs a x) (xT cs) sz)) (xQv (dC, dI) vwCl (w5 cs a x) (w5 cs a res) sz) 0 0 (va_A (w5 cs a x) sz) := by
  refine Met.ofW (cc := cX5_save) (maxL := 2) (ret := none) (by decide) rfl ?_
  intro p e s m args below meth c s₁ B hml hv
  obtain ⟨rfl, hsz, hP, hK, hD0⟩ := hv
  have hx := B.exec
  have hb := B.bytes
  have hr := B.returns
  have hts := atoms_spec (ws := wsX5_save) B.pre
  have hown : s.vm.findClass RX5 = some m.cls := findClass_of_methodNamed B.named
  have hlocks := B.notSynchronized
  have hin5 : ∀ w ∈ wsX50, w ∈ wsX5_save := by decide +kernel
  subst hsz
  have hD := hD0.self (sz := s.heap.size)
  have hA : ∀ z9 : Nat, s.heap.size ≤ z9 → va_A (w5 cs a x) s.heap.size z9 := fun z9 h => Or.inr h
  have hS : va_S (va_A (w5 cs a x) s.heap.size) s.heap s.heap [] := va_S.rf
  have hl := lv_entry [.ref (a 0)] (n := 2) (Nat.le_of_ble_eq_true rfl)
  rw [lg_entry_eq]
  generalize (lg_sl [.ref (a 0)] ++ List.replicate (2 - (lg_sl [.ref (a 0)]).length) Slot.unset).toArray = ls at hl ⊢
  have hl : lv_has ls 2 [(0, .ref (a 0))] := hl
  unfold f5_save at hf
  refine lv_aload_n hx hb dX5_save_0 rfl (lv_at hl 0 rfl) ?_
  refine va_get (D := (dC, dI)) (ci := 5) (v := .int (iI (g5_acts x))) (C := RX5) (T := TX5) (N := 13) hx hb hts hin5 hown hK hP 0 rfl rfl 4 (by decide) (hts (.fieldLink RX5 58 "BoatRunsModel" "acts" "I") (by decide +kernel)) (fun _ h9 => h9) rfl dX5_save_1 ?_
  refine xk_iconst hx hb dX5_save_4 ?_
  obtain ⟨c1a, c1b, c1t, c1f⟩ := x_eqE hf
  refine xk_icmp_ne (tgt := 49) hx hb c1a c1b dX5_save_5 (by decide) (fun c1 => ?_) (fun c1 => ?_)
  · have hf := c1t c1
    refine xk_iconst hx hb dX5_save_8 ?_
    refine lv_istore_n (lv' := [(1, .int (iI 0)), (0, .ref (a 0))]) hx hb dX5_save_9 rfl hl (by decide) rfl (fun ls hl => ?_)
    have hL10 : ∀ (n3 : Nat) (l1 : Int) (x2 : ModS), f5_save_L10  n3 l1 x2 = some res → ∀ (H : Heap) (locs : List Loc), va_P (dC, dI) vwCl (w5 cs a x2) H → va_S (va_A (w5 cs a x) s.heap.size) s.heap H locs → ∀ (ls : Array Slot), lv_has ls 2 [(0, .ref (a 0)), (1, .int (iI l1))] → W p l e (headSpec wsX5_save ({ frames := 0, cells := 0, slots := 0, locals := 0 } : Room)).room s m ([.ref (a 0)] : List Value).toArray below meth c H locs 0 0 (MQ below (xQv (dC, dI) vwCl (w5 cs a x) (w5 cs a res) s.heap.size) ([.ref (a 0)] : List Value).toArray s 0 0 (va_A (w5 cs a x) s.heap.size)) (F0 m 10 ls []) := by
      intro  n3
      induction n3 with
      | zero => intro l1 x2 hf; have hf : (none : Option (ModS)) = some res := hf; cases hf
      | succ n3 ih10 =>
        intro l1 x2 hf H locs hP hS ls hl
        rw [f5_save_L10] at hf
        refine lv_iload_n hx hb dX5_save_10 rfl (lv_at hl 1 rfl) ?_
        refine xk_sipush hx hb dX5_save_11 (by decide) ?_
        obtain ⟨c4a, c4b, c4t, c4f⟩ := x_ltE hf
        refine xk_icmp_ge (tgt := 39) hx hb c4a c4b dX5_save_14 (by decide) (fun c4 => ?_) (fun c4 => ?_)
        · have hf := c4t c4
          refine lv_aload_n hx hb dX5_save_17 rfl (lv_at hl 0 rfl) ?_
          refine va_get (D := (dC, dI)) (ci := 5) (v := .ref (a 3)) (C := RX5) (T := TX5) (N := 13) hx hb hts hin5 hown hK hP 0 rfl rfl 3 (by decide) (hts (.fieldLink RX5 20 "BoatRunsModel" "was" "[I") (by decide +kernel)) (fun _ h9 => h9) rfl dX5_save_18 ?_
          refine lv_iload_n hx hb dX5_save_21 rfl (lv_at hl 1 rfl) ?_
          refine lv_aload_n hx hb dX5_save_22 rfl (lv_at hl 0 rfl) ?_
          refine va_get (D := (dC, dI)) (ci := 5) (v := .ref (a 3)) (C := RX5) (T := TX5) (N := 13) hx hb hts hin5 hown hK hP 0 rfl rfl 3 (by decide) (hts (.fieldLink RX5 20 "BoatRunsModel" "was" "[I") (by decide +kernel)) (fun _ h9 => h9) rfl dX5_save_23 ?_
          refine lv_iload_n hx hb dX5_save_26 rfl (lv_at hl 1 rfl) ?_
          refine xk_sipush hx hb dX5_save_27 (by decide) ?_
          refine xk_iadd hx hb dX5_save_30 ?_
          obtain ⟨v5, ev5, hf⟩ := x_bind hf
          refine xk_iald (f := g5_was x2) hx hb hK hP 3 0 ev5 (by decide) rfl rfl dX5_save_31 ?_
          obtain ⟨g6, eg6, hf⟩ := x_bind hf
          refine xk_iast (f := g5_was x2) hx hb hK hP (x_addr hD rfl) hS 3 0 eg6 (by decide) rfl rfl dX5_save_32 (fun H locs hP hS => ?_)
          have hP : va_P (dC, dI) vwCl (w5C cs a (g5_thr x2) (g5_acts x2) (g5_typ x2) (g5_lat x2) (g5_pos x2) (g5_wra x2) (g5_now x2) (g5_put x2) g6 (g5_txt x2) (g5_lef x2) (g5_abo x2) (g5_ors x2)) H := hP
          refine xk_iinc (lv' := [(1, .int (iI (l1 + 1))), (0, .ref (a 0))]) hx hb dX5_save_33 hl (k := 1) rfl (by decide) rfl (fun ls hl => ?_)
          refine lv_goto (tgt := 10) hx hb dX5_save_36 (by decide) ?_
          exact ih10 (l1 + 1) (s5_was x2 g6) hf _ _ hP hS ls (lv_sub hl [1, 0] rfl)
        · have hf := c4f c4
          refine lv_aload_n hx hb dX5_save_39 rfl (lv_at hl 0 rfl) ?_
          refine lv_dup hx hb dX5_save_40 rfl ?_
          refine va_get (D := (dC, dI)) (ci := 5) (v := .int (iI (g5_acts x2))) (C := RX5) (T := TX5) (N := 13) hx hb hts hin5 hown hK hP 0 rfl rfl 4 (by decide) (hts (.fieldLink RX5 58 "BoatRunsModel" "acts" "I") (by decide +kernel)) (fun _ h9 => h9) rfl dX5_save_41 ?_
          refine xk_iconst hx hb dX5_save_44 ?_
          refine xk_isub hx hb dX5_save_45 ?_
          refine va_put (D := (dC, dI)) (ci := 5) (v := .int (iI (g5_acts x2 - 1))) (ty := .int) (C := RX5) (T := TX5) (N := 13) hx hb hts hin5 tyX5 tyX5_ok nmX5 hown hK hP (x_addr hD rfl) hS 0 rfl rfl 4 (by decide) (hts (.fieldLink RX5 58 "BoatRunsModel" "acts" "I") (by decide +kernel)) (fun _ h9 => h9) rfl (by decide +kernel) rfl rfl (Nat.le_of_ble_eq_true rfl) dX5_save_46 (fun H locs hP _ hS => ?_)
          have hP : va_P (dC, dI) vwCl (w5C cs a (g5_thr x2) (g5_acts x2 - 1) (g5_typ x2) (g5_lat x2) (g5_pos x2) (g5_wra x2) (g5_now x2) (g5_put x2) (g5_was x2) (g5_txt x2) (g5_lef x2) (g5_abo x2) (g5_ors x2)) H := hP
          refine xk_iconst hx hb dX5_save_49 ?_
          refine lv_istore_n (lv' := [(1, .int (iI 0)), (0, .ref (a 0))]) hx hb dX5_save_50 rfl hl (by decide) rfl (fun ls hl => ?_)
          have hL51 : ∀ (n153 : Nat) (l1 : Int) (x152 : ModS), f5_save_L51  n153 l1 x152 = some res → ∀ (H : Heap) (locs : List Loc), va_P (dC, dI) vwCl (w5 cs a x152) H → va_S (va_A (w5 cs a x) s.heap.size) s.heap H locs → ∀ (ls : Array Slot), lv_has ls 2 [(0, .ref (a 0)), (1, .int (iI l1))] → W p l e (headSpec wsX5_save ({ frames := 0, cells := 0, slots := 0, locals := 0 } : Room)).room s m ([.ref (a 0)] : List Value).toArray below meth c H locs 0 0 (MQ below (xQv (dC, dI) vwCl (w5 cs a x) (w5 cs a res) s.heap.size) ([.ref (a 0)] : List Value).toArray s 0 0 (va_A (w5 cs a x) s.heap.size)) (F0 m 51 ls []) := by
            intro  n153
            induction n153 with
            | zero => intro l1 x152 hf; have hf : (none : Option (ModS)) = some res := hf; cases hf
            | succ n153 ih51 =>
              intro l1 x152 hf H locs hP hS ls hl
              rw [f5_save_L51] at hf
              refine lv_iload_n hx hb dX5_save_51 rfl (lv_at hl 1 rfl) ?_
              refine xk_sipush hx hb dX5_save_52 (by decide) ?_
              obtain ⟨c154a, c154b, c154t, c154f⟩ := x_ltE hf
              refine xk_icmp_ge (tgt := 85) hx hb c154a c154b dX5_save_55 (by decide) (fun c154 => ?_) (fun c154 => ?_)
              · have hf := c154t c154
                refine lv_aload_n hx hb dX5_save_58 rfl (lv_at hl 0 rfl) ?_
                refine va_get (D := (dC, dI)) (ci := 5) (v := .ref (a 3)) (C := RX5) (T := TX5) (N := 13) hx hb hts hin5 hown hK hP 0 rfl rfl 3 (by decide) (hts (.fieldLink RX5 20 "BoatRunsModel" "was" "[I") (by decide +kernel)) (fun _ h9 => h9) rfl dX5_save_59 ?_
                refine xk_sipush hx hb dX5_save_62 (by decide) ?_
                refine lv_aload_n hx hb dX5_save_65 rfl (lv_at hl 0 rfl) ?_
                refine va_get (D := (dC, dI)) (ci := 5) (v := .int (iI (g5_acts x152))) (C := RX5) (T := TX5) (N := 13) hx hb hts hin5 hown hK hP 0 rfl rfl 4 (by decide) (hts (.fieldLink RX5 58 "BoatRunsModel" "acts" "I") (by decide +kernel)) (fun _ h9 => h9) rfl dX5_save_66 ?_
                refine xk_imul hx hb dX5_save_69 ?_
                refine lv_iload_n hx hb dX5_save_70 rfl (lv_at hl 1 rfl) ?_
                refine xk_iadd hx hb dX5_save_71 ?_
                refine lv_aload_n hx hb dX5_save_72 rfl (lv_at hl 0 rfl) ?_
                refine va_get (D := (dC, dI)) (ci := 5) (v := .ref (a 1)) (C := RX5) (T := TX5) (N := 13) hx hb hts hin5 hown hK hP 0 rfl rfl 1 (by decide) (hts (.fieldLink RX5 13 "BoatRunsModel" "now" "[I") (by decide +kernel)) (fun _ h9 => h9) rfl dX5_save_73 ?_
                refine lv_iload_n hx hb dX5_save_76 rfl (lv_at hl 1 rfl) ?_
                obtain ⟨v155, ev155, hf⟩ := x_bind hf
                refine xk_iald (f := g5_now x152) hx hb hK hP 1 0 ev155 (by decide) rfl rfl dX5_save_77 ?_
                obtain ⟨g156, eg156, hf⟩ := x_bind hf
                refine xk_iast (f := g5_was x152) hx hb hK hP (x_addr hD rfl) hS 3 0 eg156 (by decide) rfl rfl dX5_save_78 (fun H locs hP hS => ?_)
                have hP : va_P (dC, dI) vwCl (w5C cs a (g5_thr x152) (g5_acts x152) (g5_typ x152) (g5_lat x152) (g5_pos x152) (g5_wra x152) (g5_now x152) (g5_put x152) g156 (g5_txt x152) (g5_lef x152) (g5_abo x152) (g5_ors x152)) H := hP
                refine xk_iinc (lv' := [(1, .int (iI (l1 + 1))), (0, .ref (a 0))]) hx hb dX5_save_79 hl (k := 1) rfl (by decide) rfl (fun ls hl => ?_)
                refine lv_goto (tgt := 51) hx hb dX5_save_82 (by decide) ?_
                exact ih51 (l1 + 1) (s5_was x152 g156) hf _ _ hP hS ls (lv_sub hl [1, 0] rfl)
              · have hf := c154f c154
                refine lv_aload_n hx hb dX5_save_85 rfl (lv_at hl 0 rfl) ?_
                refine lv_dup hx hb dX5_save_86 rfl ?_
                refine va_get (D := (dC, dI)) (ci := 5) (v := .int (iI (g5_acts x152))) (C := RX5) (T := TX5) (N := 13) hx hb hts hin5 hown hK hP 0 rfl rfl 4 (by decide) (hts (.fieldLink RX5 58 "BoatRunsModel" "acts" "I") (by decide +kernel)) (fun _ h9 => h9) rfl dX5_save_87 ?_
                refine xk_iconst hx hb dX5_save_90 ?_
                refine xk_iadd hx hb dX5_save_91 ?_
                refine va_put (D := (dC, dI)) (ci := 5) (v := .int (iI (g5_acts x152 + 1))) (ty := .int) (C := RX5) (T := TX5) (N := 13) hx hb hts hin5 tyX5 tyX5_ok nmX5 hown hK hP (x_addr hD rfl) hS 0 rfl rfl 4 (by decide) (hts (.fieldLink RX5 58 "BoatRunsModel" "acts" "I") (by decide +kernel)) (fun _ h9 => h9) rfl (by decide +kernel) rfl rfl (Nat.le_of_ble_eq_true rfl) dX5_save_92 (fun H locs hP _ hS => ?_)
                have hP : va_P (dC, dI) vwCl (w5C cs a (g5_thr x152) (g5_acts x152 + 1) (g5_typ x152) (g5_lat x152) (g5_pos x152) (g5_wra x152) (g5_now x152) (g5_put x152) (g5_was x152) (g5_txt x152) (g5_lef x152) (g5_abo x152) (g5_ors x152)) H := hP
                obtain rfl := Option.some.inj hf
                exact xe_wv hx hb hr hlocks hS hP dX5_save_95
          exact hL51  xFU 0 (s5_acts x2 (g5_acts x2 - 1)) hf _ _ hP hS ls (lv_sub hl [1, 0] rfl)
    exact hL10  xFU 0 x hf _ _ hP hS ls (lv_sub hl [1, 0] rfl)
  · have hf := c1f c1
    refine xk_iconst hx hb dX5_save_49 ?_
    refine lv_istore_n (lv' := [(1, .int (iI 0)), (0, .ref (a 0))]) hx hb dX5_save_50 rfl hl (by decide) rfl (fun ls hl => ?_)
    have hL51 : ∀ (n153 : Nat) (l1 : Int) (x152 : ModS), f5_save_L51  n153 l1 x152 = some res → ∀ (H : Heap) (locs : List Loc), va_P (dC, dI) vwCl (w5 cs a x152) H → va_S (va_A (w5 cs a x) s.heap.size) s.heap H locs → ∀ (ls : Array Slot), lv_has ls 2 [(0, .ref (a 0)), (1, .int (iI l1))] → W p l e (headSpec wsX5_save ({ frames := 0, cells := 0, slots := 0, locals := 0 } : Room)).room s m ([.ref (a 0)] : List Value).toArray below meth c H locs 0 0 (MQ below (xQv (dC, dI) vwCl (w5 cs a x) (w5 cs a res) s.heap.size) ([.ref (a 0)] : List Value).toArray s 0 0 (va_A (w5 cs a x) s.heap.size)) (F0 m 51 ls []) := by
      intro  n153
      induction n153 with
      | zero => intro l1 x152 hf; have hf : (none : Option (ModS)) = some res := hf; cases hf
      | succ n153 ih51 =>
        intro l1 x152 hf H locs hP hS ls hl
        rw [f5_save_L51] at hf
        refine lv_iload_n hx hb dX5_save_51 rfl (lv_at hl 1 rfl) ?_
        refine xk_sipush hx hb dX5_save_52 (by decide) ?_
        obtain ⟨c154a, c154b, c154t, c154f⟩ := x_ltE hf
        refine xk_icmp_ge (tgt := 85) hx hb c154a c154b dX5_save_55 (by decide) (fun c154 => ?_) (fun c154 => ?_)
        · have hf := c154t c154
          refine lv_aload_n hx hb dX5_save_58 rfl (lv_at hl 0 rfl) ?_
          refine va_get (D := (dC, dI)) (ci := 5) (v := .ref (a 3)) (C := RX5) (T := TX5) (N := 13) hx hb hts hin5 hown hK hP 0 rfl rfl 3 (by decide) (hts (.fieldLink RX5 20 "BoatRunsModel" "was" "[I") (by decide +kernel)) (fun _ h9 => h9) rfl dX5_save_59 ?_
          refine xk_sipush hx hb dX5_save_62 (by decide) ?_
          refine lv_aload_n hx hb dX5_save_65 rfl (lv_at hl 0 rfl) ?_
          refine va_get (D := (dC, dI)) (ci := 5) (v := .int (iI (g5_acts x152))) (C := RX5) (T := TX5) (N := 13) hx hb hts hin5 hown hK hP 0 rfl rfl 4 (by decide) (hts (.fieldLink RX5 58 "BoatRunsModel" "acts" "I") (by decide +kernel)) (fun _ h9 => h9) rfl dX5_save_66 ?_
          refine xk_imul hx hb dX5_save_69 ?_
          refine lv_iload_n hx hb dX5_save_70 rfl (lv_at hl 1 rfl) ?_
          refine xk_iadd hx hb dX5_save_71 ?_
          refine lv_aload_n hx hb dX5_save_72 rfl (lv_at hl 0 rfl) ?_
          refine va_get (D := (dC, dI)) (ci := 5) (v := .ref (a 1)) (C := RX5) (T := TX5) (N := 13) hx hb hts hin5 hown hK hP 0 rfl rfl 1 (by decide) (hts (.fieldLink RX5 13 "BoatRunsModel" "now" "[I") (by decide +kernel)) (fun _ h9 => h9) rfl dX5_save_73 ?_
          refine lv_iload_n hx hb dX5_save_76 rfl (lv_at hl 1 rfl) ?_
          obtain ⟨v155, ev155, hf⟩ := x_bind hf
          refine xk_iald (f := g5_now x152) hx hb hK hP 1 0 ev155 (by decide) rfl rfl dX5_save_77 ?_
          obtain ⟨g156, eg156, hf⟩ := x_bind hf
          refine xk_iast (f := g5_was x152) hx hb hK hP (x_addr hD rfl) hS 3 0 eg156 (by decide) rfl rfl dX5_save_78 (fun H locs hP hS => ?_)
          have hP : va_P (dC, dI) vwCl (w5C cs a (g5_thr x152) (g5_acts x152) (g5_typ x152) (g5_lat x152) (g5_pos x152) (g5_wra x152) (g5_now x152) (g5_put x152) g156 (g5_txt x152) (g5_lef x152) (g5_abo x152) (g5_ors x152)) H := hP
          refine xk_iinc (lv' := [(1, .int (iI (l1 + 1))), (0, .ref (a 0))]) hx hb dX5_save_79 hl (k := 1) rfl (by decide) rfl (fun ls hl => ?_)
          refine lv_goto (tgt := 51) hx hb dX5_save_82 (by decide) ?_
          exact ih51 (l1 + 1) (s5_was x152 g156) hf _ _ hP hS ls (lv_sub hl [1, 0] rfl)
        · have hf := c154f c154
          refine lv_aload_n hx hb dX5_save_85 rfl (lv_at hl 0 rfl) ?_
          refine lv_dup hx hb dX5_save_86 rfl ?_
          refine va_get (D := (dC, dI)) (ci := 5) (v := .int (iI (g5_acts x152))) (C := RX5) (T := TX5) (N := 13) hx hb hts hin5 hown hK hP 0 rfl rfl 4 (by decide) (hts (.fieldLink RX5 58 "BoatRunsModel" "acts" "I") (by decide +kernel)) (fun _ h9 => h9) rfl dX5_save_87 ?_
          refine xk_iconst hx hb dX5_save_90 ?_
          refine xk_iadd hx hb dX5_save_91 ?_
          refine va_put (D := (dC, dI)) (ci := 5) (v := .int (iI (g5_acts x152 + 1))) (ty := .int) (C := RX5) (T := TX5) (N := 13) hx hb hts hin5 tyX5 tyX5_ok nmX5 hown hK hP (x_addr hD rfl) hS 0 rfl rfl 4 (by decide) (hts (.fieldLink RX5 58 "BoatRunsModel" "acts" "I") (by decide +kernel)) (fun _ h9 => h9) rfl (by decide +kernel) rfl rfl (Nat.le_of_ble_eq_true rfl) dX5_save_92 (fun H locs hP _ hS => ?_)
          have hP : va_P (dC, dI) vwCl (w5C cs a (g5_thr x152) (g5_acts x152 + 1) (g5_typ x152) (g5_lat x152) (g5_pos x152) (g5_wra x152) (g5_now x152) (g5_put x152) (g5_was x152) (g5_txt x152) (g5_lef x152) (g5_abo x152) (g5_ors x152)) H := hP
          obtain rfl := Option.some.inj hf
          exact xe_wv hx hb hr hlocks hS hP dX5_save_95
    exact hL51  xFU 0 x hf _ _ hP hS ls (lv_sub hl [1, 0] rfl)
theorem cdX5_save : yX5_save.cls = RX5 ∧ yX5_save.cls ≠ "java/lang/invoke/MethodHandle" ∧ yX5_save.cls ≠ "java/lang/invoke/VarHandle" ∧ (parseMethodDescriptor yX5_save.desc).map (fun d => d.parameters.length) = some 0 := by decide +kernel

set_option maxHeartbeats 4000000 in
set_option maxRecDepth 100000 in
theorem c5_newRun (l : Launch) (dC : Nat → ClassId) (dI : Nat → Nat → Nat) (cs : Nat → ClassId) (a : Nat → Nat) (sz : Nat) (x : ModS) (res : Int × ModS) (hf : f5_newRun x = some res) : Met l yX5_newRun wsX5_newRun ({ frames := 0, cells := 0, slots := 0, locals := 0 } : Room) (va_Pc [.ref (a 0)] (xPW (dC, dI) vwCl (w5 cs a x) (xT cs) sz)) (xQi (dC, dI) vwCl (w5 cs a x) (w5 cs a res.2) sz res.1) 0 0 (va_A (w5 cs a x) sz) := by
  refine Met.ofW (cc := cX5_newRun) (maxL := 2) (ret := (some .int)) (by decide) rfl ?_
  intro p e s m args below meth c s₁ B hml hv
  obtain ⟨rfl, hsz, hP, hK, hD0⟩ := hv
  have hx := B.exec
  have hb := B.bytes
  have hr := B.returns
  have hts := atoms_spec (ws := wsX5_newRun) B.pre
  have hown : s.vm.findClass RX5 = some m.cls := findClass_of_methodNamed B.named
  have hlocks := B.notSynchronized
  have hin5 : ∀ w ∈ wsX50, w ∈ wsX5_newRun := by decide +kernel
  subst hsz
  have hD := hD0.self (sz := s.heap.size)
  have hA : ∀ z9 : Nat, s.heap.size ≤ z9 → va_A (w5 cs a x) s.heap.size z9 := fun z9 h => Or.inr h
  have hS : va_S (va_A (w5 cs a x) s.heap.size) s.heap s.heap [] := va_S.rf
  have hl := lv_entry [.ref (a 0)] (n := 2) (Nat.le_of_ble_eq_true rfl)
  rw [lg_entry_eq]
  generalize (lg_sl [.ref (a 0)] ++ List.replicate (2 - (lg_sl [.ref (a 0)]).length) Slot.unset).toArray = ls at hl ⊢
  have hl : lv_has ls 2 [(0, .ref (a 0))] := hl
  unfold f5_newRun at hf
  refine xk_bipush hx hb dX5_newRun_0 (by decide) ?_
  refine xk_iconst hx hb dX5_newRun_2 ?_
  refine lv_aload_n hx hb dX5_newRun_3 rfl (lv_at hl 0 rfl) ?_
  refine va_get (D := (dC, dI)) (ci := 5) (v := .ref (a 1)) (C := RX5) (T := TX5) (N := 13) hx hb hts hin5 hown hK hP 0 rfl rfl 1 (by decide) (hts (.fieldLink RX5 13 "BoatRunsModel" "now" "[I") (by decide +kernel)) (fun _ h9 => h9) rfl dX5_newRun_4 ?_
  refine xk_bipush hx hb dX5_newRun_7 (by decide) ?_
  obtain ⟨v1, ev1, hf⟩ := x_bind hf
  refine xk_iald (f := g5_now x) hx hb hK hP 1 0 ev1 (by decide) rfl rfl dX5_newRun_9 ?_
  refine xk_imul hx hb dX5_newRun_10 ?_
  refine xk_iadd hx hb dX5_newRun_11 ?_
  refine lv_istore_n (lv' := [(1, .int (iI (10 + (2 * v1)))), (0, .ref (a 0))]) hx hb dX5_newRun_12 rfl hl (by decide) rfl (fun ls hl => ?_)
  refine lv_aload_n hx hb dX5_newRun_13 rfl (lv_at hl 1 rfl) ?_
  refine va_get (D := (dC, dI)) (ci := 5) (v := .ref (a 1)) (C := RX5) (T := TX5) (N := 13) hx hb hts hin5 hown hK hP 0 rfl rfl 1 (by decide) (hts (.fieldLink RX5 13 "BoatRunsModel" "now" "[I") (by decide +kernel)) (fun _ h9 => h9) rfl dX5_newRun_14 ?_
  refine lv_iload_n hx hb dX5_newRun_17 rfl (lv_at hl 0 rfl) ?_
  refine lv_aload_n hx hb dX5_newRun_18 rfl (lv_at hl 1 rfl) ?_
  refine va_get (D := (dC, dI)) (ci := 5) (v := .ref (a 1)) (C := RX5) (T := TX5) (N := 13) hx hb hts hin5 hown hK hP 0 rfl rfl 1 (by decide) (hts (.fieldLink RX5 13 "BoatRunsModel" "now" "[I") (by decide +kernel)) (fun _ h9 => h9) rfl dX5_newRun_19 ?_
  refine xk_bipush hx hb dX5_newRun_22 (by decide) ?_
  obtain ⟨v2, ev2, hf⟩ := x_bind hf
  refine xk_iald (f := g5_now x) hx hb hK hP 1 0 ev2 (by decide) rfl rfl dX5_newRun_24 ?_
  obtain ⟨g3, eg3, hf⟩ := x_bind hf
  refine xk_iast (f := g5_now x) hx hb hK hP (x_addr hD rfl) hS 1 0 eg3 (by decide) rfl rfl dX5_newRun_25 (fun H locs hP hS => ?_)
  have hP : va_P (dC, dI) vwCl (w5C cs a (g5_thr x) (g5_acts x) (g5_typ x) (g5_lat x) (g5_pos x) (g5_wra x) g3 (g5_put x) (g5_was x) (g5_txt x) (g5_lef x) (g5_abo x) (g5_ors x)) H := hP
  refine lv_aload_n hx hb dX5_newRun_26 rfl (lv_at hl 1 rfl) ?_
  refine va_get (D := (dC, dI)) (ci := 5) (v := .ref (a 1)) (C := RX5) (T := TX5) (N := 13) hx hb hts hin5 hown hK hP 0 rfl rfl 1 (by decide) (hts (.fieldLink RX5 13 "BoatRunsModel" "now" "[I") (by decide +kernel)) (fun _ h9 => h9) rfl dX5_newRun_27 ?_
  refine lv_iload_n hx hb dX5_newRun_30 rfl (lv_at hl 0 rfl) ?_
  refine xk_iconst hx hb dX5_newRun_31 ?_
  refine xk_iadd hx hb dX5_newRun_32 ?_
  refine xk_iconst hx hb dX5_newRun_33 ?_
  obtain ⟨g4, eg4, hf⟩ := x_bind hf
  refine xk_iast (f := g3) hx hb hK hP (x_addr hD rfl) hS 1 0 eg4 (by decide) rfl rfl dX5_newRun_34 (fun H locs hP hS => ?_)
  have hP : va_P (dC, dI) vwCl (w5C cs a (g5_thr x) (g5_acts x) (g5_typ x) (g5_lat x) (g5_pos x) (g5_wra x) g4 (g5_put x) (g5_was x) (g5_txt x) (g5_lef x) (g5_abo x) (g5_ors x)) H := hP
  refine lv_aload_n hx hb dX5_newRun_35 rfl (lv_at hl 1 rfl) ?_
  refine va_get (D := (dC, dI)) (ci := 5) (v := .ref (a 1)) (C := RX5) (T := TX5) (N := 13) hx hb hts hin5 hown hK hP 0 rfl rfl 1 (by decide) (hts (.fieldLink RX5 13 "BoatRunsModel" "now" "[I") (by decide +kernel)) (fun _ h9 => h9) rfl dX5_newRun_36 ?_
  refine xk_bipush hx hb dX5_newRun_39 (by decide) ?_
  refine lv_dup2_11 hx hb dX5_newRun_41 rfl rfl ?_
  obtain ⟨v5, ev5, hf⟩ := x_bind hf
  refine xk_iald (f := g4) hx hb hK hP 1 0 ev5 (by decide) rfl rfl dX5_newRun_42 ?_
  refine xk_iconst hx hb dX5_newRun_43 ?_
  refine xk_iadd hx hb dX5_newRun_44 ?_
  obtain ⟨g6, eg6, hf⟩ := x_bind hf
  refine xk_iast (f := g4) hx hb hK hP (x_addr hD rfl) hS 1 0 eg6 (by decide) rfl rfl dX5_newRun_45 (fun H locs hP hS => ?_)
  have hP : va_P (dC, dI) vwCl (w5C cs a (g5_thr x) (g5_acts x) (g5_typ x) (g5_lat x) (g5_pos x) (g5_wra x) g6 (g5_put x) (g5_was x) (g5_txt x) (g5_lef x) (g5_abo x) (g5_ors x)) H := hP
  refine lv_aload_n hx hb dX5_newRun_46 rfl (lv_at hl 1 rfl) ?_
  refine va_get (D := (dC, dI)) (ci := 5) (v := .ref (a 1)) (C := RX5) (T := TX5) (N := 13) hx hb hts hin5 hown hK hP 0 rfl rfl 1 (by decide) (hts (.fieldLink RX5 13 "BoatRunsModel" "now" "[I") (by decide +kernel)) (fun _ h9 => h9) rfl dX5_newRun_47 ?_
  refine xk_bipush hx hb dX5_newRun_50 (by decide) ?_
  refine lv_dup2_11 hx hb dX5_newRun_52 rfl rfl ?_
  obtain ⟨v7, ev7, hf⟩ := x_bind hf
  refine xk_iald (f := g6) hx hb hK hP 1 0 ev7 (by decide) rfl rfl dX5_newRun_53 ?_
  refine xk_iconst hx hb dX5_newRun_54 ?_
  refine xk_iadd hx hb dX5_newRun_55 ?_
  obtain ⟨g8, eg8, hf⟩ := x_bind hf
  refine xk_iast (f := g6) hx hb hK hP (x_addr hD rfl) hS 1 0 eg8 (by decide) rfl rfl dX5_newRun_56 (fun H locs hP hS => ?_)
  have hP : va_P (dC, dI) vwCl (w5C cs a (g5_thr x) (g5_acts x) (g5_typ x) (g5_lat x) (g5_pos x) (g5_wra x) g8 (g5_put x) (g5_was x) (g5_txt x) (g5_lef x) (g5_abo x) (g5_ors x)) H := hP
  refine lv_aload_n hx hb dX5_newRun_57 rfl (lv_at hl 1 rfl) ?_
  refine va_get (D := (dC, dI)) (ci := 5) (v := .ref (a 1)) (C := RX5) (T := TX5) (N := 13) hx hb hts hin5 hown hK hP 0 rfl rfl 1 (by decide) (hts (.fieldLink RX5 13 "BoatRunsModel" "now" "[I") (by decide +kernel)) (fun _ h9 => h9) rfl dX5_newRun_58 ?_
  refine xk_bipush hx hb dX5_newRun_61 (by decide) ?_
  obtain ⟨v9, ev9, hf⟩ := x_bind hf
  refine xk_iald (f := g8) hx hb hK hP 1 0 ev9 (by decide) rfl rfl dX5_newRun_63 ?_
  refine xk_iconst hx hb dX5_newRun_64 ?_
  refine xk_isub hx hb dX5_newRun_65 ?_
  obtain rfl := Option.some.inj hf
  exact xe_wi hx hb hr hlocks hS hP dX5_newRun_66
theorem cdX5_newRun : yX5_newRun.cls = RX5 ∧ yX5_newRun.cls ≠ "java/lang/invoke/MethodHandle" ∧ yX5_newRun.cls ≠ "java/lang/invoke/VarHandle" ∧ (parseMethodDescriptor yX5_newRun.desc).map (fun d => d.parameters.length) = some 0 := by decide +kernel

set_option maxHeartbeats 4000000 in
set_option maxRecDepth 100000 in
theorem c4_mixed (l : Launch) (p0 : Int) (p1 : Int) (res : Int) (hf : f4_mixed p0 p1 = some res) : Met l yX4_mixed wsX4_mixed ({ frames := 0, cells := 0, slots := 0, locals := 0 } : Room) (va_Pc [.long (iL p0), .int (iI p1)] (fun _ => True)) (vp_Sl (fun r => r = iL res)) 0 0 (fun _ => False) := by
  refine Met.ofW (cc := cX4_mixed) (maxL := 3) (ret := (some .long)) (by decide) rfl ?_
  intro p e s m args below meth c s₁ B hml hv
  obtain ⟨rfl, -⟩ := hv
  have hx := B.exec
  have hb := B.bytes
  have hr := B.returns
  have hts := atoms_spec (ws := wsX4_mixed) B.pre
  have hown : s.vm.findClass RX4 = some m.cls := findClass_of_methodNamed B.named
  have hlocks := B.notSynchronized
  have hl := lv_entry [.long (iL p0), .int (iI p1)] (n := 3) (Nat.le_of_ble_eq_true rfl)
  rw [lg_entry_eq]
  generalize (lg_sl [.long (iL p0), .int (iI p1)] ++ List.replicate (3 - (lg_sl [.long (iL p0), .int (iI p1)]).length) Slot.unset).toArray = ls at hl ⊢
  have hl : lv_has ls 3 [(0, .long (iL p0)), (2, .int (iI p1))] := hl
  unfold f4_mixed at hf
  refine xk_ldc2 (n := 31) hx hb hown (hts (.constantLong RX4 225 (31)) (by decide +kernel)) dX4_mixed_0 (by decide) ?_
  refine lv_lload_n hx hb dX4_mixed_3 rfl (lv_at hl 0 rfl) ?_
  refine xk_lmul hx hb dX4_mixed_4 ?_
  refine lv_iload_n hx hb dX4_mixed_5 rfl (lv_at hl 1 rfl) ?_
  obtain ⟨hc, hf⟩ := x_ckE hf
  refine xk_i2l hx hb hc dX4_mixed_6 ?_
  refine xk_ladd hx hb dX4_mixed_7 ?_
  obtain rfl := Option.some.inj hf
  exact xe_rl hx hb hr hlocks dX4_mixed_8 rfl
theorem cdX4_mixed : yX4_mixed.cls ≠ "java/lang/invoke/MethodHandle" ∧ yX4_mixed.cls ≠ "java/lang/invoke/VarHandle" ∧ (parseMethodDescriptor yX4_mixed.desc).map (fun d => d.parameters.length) = some 2 := by decide +kernel

set_option maxHeartbeats 4000000 in
set_option maxRecDepth 100000 in
theorem c4_digest (l : Launch) (dC : Nat → ClassId) (dI : Nat → Nat → Nat) (cs : Nat → ClassId) (a : Nat → Nat) (sz : Nat) (y : BrS) (res : Int × BrS) (hf : f4_digest y = some res) : Met l yX4_digest wsX4_digest ({ frames := 6, cells := 0, slots := 0, locals := 138 } : Room) (va_Pc [.ref (a 0)] (xPW (dC, dI) vwCl ((w4 cs a y).flatten) (xT cs) sz)) (xQl (dC, dI) vwCl ((w4 cs a y).flatten) ((w4 cs a res.2).flatten) sz res.1) 0 0 (va_A ((w4 cs a y).flatten) sz) := by
  refine Met.ofW (cc := cX4_digest) (maxL := 6) (ret := (some .long)) (by decide) rfl ?_
  intro p e s m args below meth c s₁ B hml hv
  obtain ⟨rfl, hsz, hP, hK, hD0⟩ := hv
  have hx := B.exec
  have hb := B.bytes
  have hr := B.returns
  have hts := atoms_spec (ws := wsX4_digest) B.pre
  have hown : s.vm.findClass RX4 = some m.cls := findClass_of_methodNamed B.named
  have hlocks := B.notSynchronized
  have hin4 : ∀ w ∈ wsX40, w ∈ wsX4_digest := by decide +kernel
  subst hsz
  have hD := hD0.self (sz := s.heap.size)
  have hA : ∀ z9 : Nat, s.heap.size ≤ z9 → va_A ((w4 cs a y).flatten) s.heap.size z9 := fun z9 h => Or.inr h
  have hS : va_S (va_A ((w4 cs a y).flatten) s.heap.size) s.heap s.heap [] := va_S.rf
  have hl := lv_entry [.ref (a 0)] (n := 6) (Nat.le_of_ble_eq_true rfl)
  rw [lg_entry_eq]
  generalize (lg_sl [.ref (a 0)] ++ List.replicate (6 - (lg_sl [.ref (a 0)]).length) Slot.unset).toArray = ls at hl ⊢
  have hl : lv_has ls 6 [(0, .ref (a 0))] := hl
  unfold f4_digest at hf
  refine xk_ldc2 (n := 3691) hx hb hown (hts (.constantLong RX4 213 (3691)) (by decide +kernel)) dX4_digest_0 (by decide) ?_
  refine lv_aload_n hx hb dX4_digest_3 rfl (lv_at hl 0 rfl) ?_
  refine va_get (D := (dC, dI)) (ci := 4) (v := .ref (a 93)) (C := RX4) (T := TX4) (N := 4) hx hb hts hin4 hown hK hP 0 rfl rfl 3 (by decide) (hts (.fieldLink RX4 29 "BoatRuns" "text" "LBoatRuns$Text;") (by decide +kernel)) (fun _ h9 => h9) rfl dX4_digest_4 ?_
  obtain ⟨v1, ev1, hf⟩ := x_bind hf
  refine xf_ri (As := []) (rest := [.long (iL 3691)]) (wcs := [w3 cs (x_sh a 93) (g4_tx y)]) ⟨hx, hb, hml, hown, hts⟩ (c3_length l dC dI cs (x_sh a 93) (g4_tx y)  _ ev1) (cwV 0 hts gX4_digest_X3_length rfl rfl rfl cdX3_length ⟨Nat.le_of_ble_eq_true rfl, Nat.le_of_ble_eq_true rfl⟩) hK hP [9] (by simp only [List.flatten_cons, List.flatten_nil, List.append_nil, List.cons_append, List.nil_append]) rfl rfl rfl rfl hl.1 rfl (Nat.le_of_ble_eq_true rfl) dX4_digest_7 ⟨Nat.zero_le _, Nat.zero_le _⟩ ?_
  obtain ⟨v2, ev2, hf⟩ := x_bind hf
  refine xc_sl (As := [.long (iL 3691), .int (iI v1)]) (rest := []) ⟨hx, hb, hml, hown, hts⟩ (c4_mixed l 3691 v1 _ ev2) (va_cwS 2 hts gX4_digest_X4_mixed rfl rfl rfl cdX4_mixed ⟨Nat.le_of_ble_eq_true rfl, Nat.le_of_ble_eq_true rfl⟩) rfl hl.1 rfl (Nat.le_of_ble_eq_true rfl) dX4_digest_10 ⟨Nat.zero_le _, Nat.zero_le _⟩ ?_
  refine lv_lstore_n (lv' := [(1, .long (iL v2)), (0, .ref (a 0))]) hx hb dX4_digest_13 rfl hl (by decide) rfl (fun ls hl => ?_)
  refine xk_iconst hx hb dX4_digest_14 ?_
  refine lv_istore_n (lv' := [(3, .int (iI 0)), (1, .long (iL v2)), (0, .ref (a 0))]) hx hb dX4_digest_15 rfl hl (by decide) rfl (fun ls hl => ?_)
  have hL16 : ∀ (n3 : Nat) (l1 : Int) (l3 : Int), f4_digest_L16 y n3 l1 l3 = some res → ∀ (ls : Array Slot), lv_has ls 6 [(0, .ref (a 0)), (1, .long (iL l1)), (3, .int (iI l3))] → W p l e (headSpec wsX4_digest ({ frames := 6, cells := 0, slots := 0, locals := 138 } : Room)).room s m ([.ref (a 0)] : List Value).toArray below meth c s.heap [] 0 0 (MQ below (xQl (dC, dI) vwCl ((w4 cs a y).flatten) ((w4 cs a res.2).flatten) s.heap.size res.1) ([.ref (a 0)] : List Value).toArray s 0 0 (va_A ((w4 cs a y).flatten) s.heap.size)) (F0 m 16 ls []) := by
    intro  n3
    induction n3 with
    | zero => intro l1 l3 hf; have hf : (none : Option (Int × BrS)) = some res := hf; cases hf
    | succ n3 ih16 =>
      intro l1 l3 hf ls hl
      rw [f4_digest_L16] at hf
      refine lv_iload_n hx hb dX4_digest_16 rfl (lv_at hl 2 rfl) ?_
      refine xk_bipush hx hb dX4_digest_17 (by decide) ?_
      obtain ⟨c4a, c4b, c4t, c4f⟩ := x_ltE hf
      refine xk_icmp_ge (tgt := 41) hx hb c4a c4b dX4_digest_19 (by decide) (fun c4 => ?_) (fun c4 => ?_)
      · have hf := c4t c4
        refine lv_lload_n hx hb dX4_digest_22 rfl (lv_at hl 1 rfl) ?_
        refine lv_aload_n hx hb dX4_digest_23 rfl (lv_at hl 0 rfl) ?_
        refine va_get (D := (dC, dI)) (ci := 4) (v := .ref (a 1)) (C := RX4) (T := TX4) (N := 4) hx hb hts hin4 hown hK hP 0 rfl rfl 0 (by decide) (hts (.fieldLink RX4 10 "BoatRuns" "boat" "LBoatRuns$Boat;") (by decide +kernel)) (fun _ h9 => h9) rfl dX4_digest_24 ?_
        refine lv_iload_n hx hb dX4_digest_27 rfl (lv_at hl 2 rfl) ?_
        obtain ⟨v5, ev5, hf⟩ := x_bind hf
        refine xf_ri (As := [.int (iI l3)]) (rest := [.long (iL l1)]) (wcs := [w0 cs (x_sh a 1) (g4_bo y)]) ⟨hx, hb, hml, hown, hts⟩ (c0_number l dC dI cs (x_sh a 1) (g4_bo y) l3  _ ev5) (cwV 1 hts gX4_digest_X0_number rfl rfl rfl cdX0_number ⟨Nat.le_of_ble_eq_true rfl, Nat.le_of_ble_eq_true rfl⟩) hK hP [1] (by simp only [List.flatten_cons, List.flatten_nil, List.append_nil, List.cons_append, List.nil_append]) rfl rfl rfl rfl hl.1 rfl (Nat.le_of_ble_eq_true rfl) dX4_digest_28 ⟨Nat.zero_le _, Nat.zero_le _⟩ ?_
        obtain ⟨v6, ev6, hf⟩ := x_bind hf
        refine xc_sl (As := [.long (iL l1), .int (iI v5)]) (rest := []) ⟨hx, hb, hml, hown, hts⟩ (c4_mixed l l1 v5 _ ev6) (va_cwS 2 hts gX4_digest_X4_mixed rfl rfl rfl cdX4_mixed ⟨Nat.le_of_ble_eq_true rfl, Nat.le_of_ble_eq_true rfl⟩) rfl hl.1 rfl (Nat.le_of_ble_eq_true rfl) dX4_digest_31 ⟨Nat.zero_le _, Nat.zero_le _⟩ ?_
        refine lv_lstore_n (lv' := [(1, .long (iL v6)), (0, .ref (a 0)), (3, .int (iI l3))]) hx hb dX4_digest_34 rfl hl (by decide) rfl (fun ls hl => ?_)
        refine xk_iinc (lv' := [(3, .int (iI (l3 + 1))), (1, .long (iL v6)), (0, .ref (a 0))]) hx hb dX4_digest_35 hl (k := 2) rfl (by decide) rfl (fun ls hl => ?_)
        refine lv_goto (tgt := 16) hx hb dX4_digest_38 (by decide) ?_
        exact ih16 v6 (l3 + 1) hf ls (lv_sub hl [2, 1, 0] rfl)
      · have hf := c4f c4
        refine xk_iconst hx hb dX4_digest_41 ?_
        refine lv_istore_n (lv' := [(3, .int (iI 0)), (0, .ref (a 0)), (1, .long (iL l1))]) hx hb dX4_digest_42 rfl hl (by decide) rfl (fun ls hl => ?_)
        have hL43 : ∀ (n7 : Nat) (l1x : Int) (l3x : Int), f4_digest_L43 y n7 l1x l3x = some res → ∀ (ls : Array Slot), lv_has ls 6 [(0, .ref (a 0)), (1, .long (iL l1x)), (3, .int (iI l3x))] → W p l e (headSpec wsX4_digest ({ frames := 6, cells := 0, slots := 0, locals := 138 } : Room)).room s m ([.ref (a 0)] : List Value).toArray below meth c s.heap [] 0 0 (MQ below (xQl (dC, dI) vwCl ((w4 cs a y).flatten) ((w4 cs a res.2).flatten) s.heap.size res.1) ([.ref (a 0)] : List Value).toArray s 0 0 (va_A ((w4 cs a y).flatten) s.heap.size)) (F0 m 43 ls []) := by
          intro  n7
          induction n7 with
          | zero => intro l1x l3x hf; have hf : (none : Option (Int × BrS)) = some res := hf; cases hf
          | succ n7 ih43 =>
            intro l1x l3x hf ls hl
            rw [f4_digest_L43] at hf
            refine lv_iload_n hx hb dX4_digest_43 rfl (lv_at hl 2 rfl) ?_
            refine lv_aload_n hx hb dX4_digest_44 rfl (lv_at hl 0 rfl) ?_
            refine va_get (D := (dC, dI)) (ci := 4) (v := .ref (a 1)) (C := RX4) (T := TX4) (N := 4) hx hb hts hin4 hown hK hP 0 rfl rfl 0 (by decide) (hts (.fieldLink RX4 10 "BoatRuns" "boat" "LBoatRuns$Boat;") (by decide +kernel)) (fun _ h9 => h9) rfl dX4_digest_45 ?_
            obtain ⟨v8, ev8, hf⟩ := x_bind hf
            refine xf_ri (As := []) (rest := [.int (iI l3x)]) (wcs := [w0 cs (x_sh a 1) (g4_bo y)]) ⟨hx, hb, hml, hown, hts⟩ (c0_loaded l dC dI cs (x_sh a 1) (g4_bo y)  _ ev8) (cwV 0 hts gX4_digest_X0_loaded rfl rfl rfl cdX0_loaded ⟨Nat.le_of_ble_eq_true rfl, Nat.le_of_ble_eq_true rfl⟩) hK hP [1] (by simp only [List.flatten_cons, List.flatten_nil, List.append_nil, List.cons_append, List.nil_append]) rfl rfl rfl rfl hl.1 rfl (Nat.le_of_ble_eq_true rfl) dX4_digest_48 ⟨Nat.zero_le _, Nat.zero_le _⟩ ?_
            obtain ⟨c9a, c9b, c9t, c9f⟩ := x_ltE hf
            refine xk_icmp_ge (tgt := 90) hx hb c9a c9b dX4_digest_51 (by decide) (fun c9 => ?_) (fun c9 => ?_)
            · have hf := c9t c9
              refine xk_iconst hx hb dX4_digest_54 ?_
              refine lv_istore (lv' := [(4, .int (iI 0)), (0, .ref (a 0)), (1, .long (iL l1x)), (3, .int (iI l3x))]) hx hb dX4_digest_55 hl (by decide) rfl (fun ls hl => ?_)
              have hL57 : ∀ (n10 : Nat) (l1xx : Int) (l4 : Int), f4_digest_L57 y l3x (f4_digest_L43 y n7) n10 l1xx l4 = some res → ∀ (ls : Array Slot), lv_has ls 6 [(0, .ref (a 0)), (1, .long (iL l1xx)), (3, .int (iI l3x)), (4, .int (iI l4))] → W p l e (headSpec wsX4_digest ({ frames := 6, cells := 0, slots := 0, locals := 138 } : Room)).room s m ([.ref (a 0)] : List Value).toArray below meth c s.heap [] 0 0 (MQ below (xQl (dC, dI) vwCl ((w4 cs a y).flatten) ((w4 cs a res.2).flatten) s.heap.size res.1) ([.ref (a 0)] : List Value).toArray s 0 0 (va_A ((w4 cs a y).flatten) s.heap.size)) (F0 m 57 ls []) := by
                intro  n10
                induction n10 with
                | zero => intro l1xx l4 hf; have hf : (none : Option (Int × BrS)) = some res := hf; cases hf
                | succ n10 ih57 =>
                  intro l1xx l4 hf ls hl
                  rw [f4_digest_L57] at hf
                  refine lv_iload hx hb dX4_digest_57 (lv_at hl 3 rfl) ?_
                  refine xk_iconst hx hb dX4_digest_59 ?_
                  obtain ⟨c11a, c11b, c11t, c11f⟩ := x_ltE hf
                  refine xk_icmp_ge (tgt := 84) hx hb c11a c11b dX4_digest_60 (by decide) (fun c11 => ?_) (fun c11 => ?_)
                  · have hf := c11t c11
                    refine lv_lload_n hx hb dX4_digest_63 rfl (lv_at hl 1 rfl) ?_
                    refine lv_aload_n hx hb dX4_digest_64 rfl (lv_at hl 0 rfl) ?_
                    refine va_get (D := (dC, dI)) (ci := 4) (v := .ref (a 1)) (C := RX4) (T := TX4) (N := 4) hx hb hts hin4 hown hK hP 0 rfl rfl 0 (by decide) (hts (.fieldLink RX4 10 "BoatRuns" "boat" "LBoatRuns$Boat;") (by decide +kernel)) (fun _ h9 => h9) rfl dX4_digest_65 ?_
                    refine lv_iload_n hx hb dX4_digest_68 rfl (lv_at hl 2 rfl) ?_
                    refine lv_iload hx hb dX4_digest_69 (lv_at hl 3 rfl) ?_
                    obtain ⟨v12, ev12, hf⟩ := x_bind hf
                    refine xf_ri (As := [.int (iI l3x), .int (iI l4)]) (rest := [.long (iL l1xx)]) (wcs := [w0 cs (x_sh a 1) (g4_bo y)]) ⟨hx, hb, hml, hown, hts⟩ (c0_parcelFact l dC dI cs (x_sh a 1) (g4_bo y) l3x l4  _ ev12) (cwV 2 hts gX4_digest_X0_parcelFact rfl rfl rfl cdX0_parcelFact ⟨Nat.le_of_ble_eq_true rfl, Nat.le_of_ble_eq_true rfl⟩) hK hP [1] (by simp only [List.flatten_cons, List.flatten_nil, List.append_nil, List.cons_append, List.nil_append]) rfl rfl rfl rfl hl.1 rfl (Nat.le_of_ble_eq_true rfl) dX4_digest_71 ⟨Nat.zero_le _, Nat.zero_le _⟩ ?_
                    obtain ⟨v13, ev13, hf⟩ := x_bind hf
                    refine xc_sl (As := [.long (iL l1xx), .int (iI v12)]) (rest := []) ⟨hx, hb, hml, hown, hts⟩ (c4_mixed l l1xx v12 _ ev13) (va_cwS 2 hts gX4_digest_X4_mixed rfl rfl rfl cdX4_mixed ⟨Nat.le_of_ble_eq_true rfl, Nat.le_of_ble_eq_true rfl⟩) rfl hl.1 rfl (Nat.le_of_ble_eq_true rfl) dX4_digest_74 ⟨Nat.zero_le _, Nat.zero_le _⟩ ?_
                    refine lv_lstore_n (lv' := [(1, .long (iL v13)), (0, .ref (a 0)), (3, .int (iI l3x)), (4, .int (iI l4))]) hx hb dX4_digest_77 rfl hl (by decide) rfl (fun ls hl => ?_)
                    refine xk_iinc (lv' := [(4, .int (iI (l4 + 1))), (1, .long (iL v13)), (0, .ref (a 0)), (3, .int (iI l3x))]) hx hb dX4_digest_78 hl (k := 3) rfl (by decide) rfl (fun ls hl => ?_)
                    refine lv_goto (tgt := 57) hx hb dX4_digest_81 (by decide) ?_
                    exact ih57 v13 (l4 + 1) hf ls (lv_sub hl [2, 1, 3, 0] rfl)
                  · have hf := c11f c11
                    refine xk_iinc (lv' := [(3, .int (iI (l3x + 1))), (0, .ref (a 0)), (1, .long (iL l1xx)), (4, .int (iI l4))]) hx hb dX4_digest_84 hl (k := 2) rfl (by decide) rfl (fun ls hl => ?_)
                    refine lv_goto (tgt := 43) hx hb dX4_digest_87 (by decide) ?_
                    exact ih43 l1xx (l3x + 1) hf ls (lv_sub hl [1, 2, 0] rfl)
              exact hL57  xFU l1x 0 hf ls (lv_sub hl [1, 2, 3, 0] rfl)
            · have hf := c9f c9
              refine xk_iconst hx hb dX4_digest_90 ?_
              refine lv_istore_n (lv' := [(3, .int (iI 0)), (0, .ref (a 0)), (1, .long (iL l1x))]) hx hb dX4_digest_91 rfl hl (by decide) rfl (fun ls hl => ?_)
              have hL92 : ∀ (n14 : Nat) (l1xxx : Int) (l3xx : Int), f4_digest_L92 y n14 l1xxx l3xx = some res → ∀ (ls : Array Slot), lv_has ls 6 [(0, .ref (a 0)), (1, .long (iL l1xxx)), (3, .int (iI l3xx))] → W p l e (headSpec wsX4_digest ({ frames := 6, cells := 0, slots := 0, locals := 138 } : Room)).room s m ([.ref (a 0)] : List Value).toArray below meth c s.heap [] 0 0 (MQ below (xQl (dC, dI) vwCl ((w4 cs a y).flatten) ((w4 cs a res.2).flatten) s.heap.size res.1) ([.ref (a 0)] : List Value).toArray s 0 0 (va_A ((w4 cs a y).flatten) s.heap.size)) (F0 m 92 ls []) := by
                intro  n14
                induction n14 with
                | zero => intro l1xxx l3xx hf; have hf : (none : Option (Int × BrS)) = some res := hf; cases hf
                | succ n14 ih92 =>
                  intro l1xxx l3xx hf ls hl
                  rw [f4_digest_L92] at hf
                  refine lv_iload_n hx hb dX4_digest_92 rfl (lv_at hl 2 rfl) ?_
                  refine lv_aload_n hx hb dX4_digest_93 rfl (lv_at hl 0 rfl) ?_
                  refine va_get (D := (dC, dI)) (ci := 4) (v := .ref (a 1)) (C := RX4) (T := TX4) (N := 4) hx hb hts hin4 hown hK hP 0 rfl rfl 0 (by decide) (hts (.fieldLink RX4 10 "BoatRuns" "boat" "LBoatRuns$Boat;") (by decide +kernel)) (fun _ h9 => h9) rfl dX4_digest_94 ?_
                  obtain ⟨v15, ev15, hf⟩ := x_bind hf
                  refine xf_ri (As := []) (rest := [.int (iI l3xx)]) (wcs := [w0 cs (x_sh a 1) (g4_bo y)]) ⟨hx, hb, hml, hown, hts⟩ (c0_runs l dC dI cs (x_sh a 1) (g4_bo y)  _ ev15) (cwV 0 hts gX4_digest_X0_runs rfl rfl rfl cdX0_runs ⟨Nat.le_of_ble_eq_true rfl, Nat.le_of_ble_eq_true rfl⟩) hK hP [1] (by simp only [List.flatten_cons, List.flatten_nil, List.append_nil, List.cons_append, List.nil_append]) rfl rfl rfl rfl hl.1 rfl (Nat.le_of_ble_eq_true rfl) dX4_digest_97 ⟨Nat.zero_le _, Nat.zero_le _⟩ ?_
                  obtain ⟨c16a, c16b, c16t, c16f⟩ := x_ltE hf
                  refine xk_icmp_ge (tgt := 158) hx hb c16a c16b dX4_digest_100 (by decide) (fun c16 => ?_) (fun c16 => ?_)
                  · have hf := c16t c16
                    refine lv_aload_n hx hb dX4_digest_103 rfl (lv_at hl 0 rfl) ?_
                    refine va_get (D := (dC, dI)) (ci := 4) (v := .ref (a 1)) (C := RX4) (T := TX4) (N := 4) hx hb hts hin4 hown hK hP 0 rfl rfl 0 (by decide) (hts (.fieldLink RX4 10 "BoatRuns" "boat" "LBoatRuns$Boat;") (by decide +kernel)) (fun _ h9 => h9) rfl dX4_digest_104 ?_
                    refine lv_iload_n hx hb dX4_digest_107 rfl (lv_at hl 2 rfl) ?_
                    obtain ⟨v17, ev17, hf⟩ := x_bind hf
                    refine xf_ri (As := [.int (iI l3xx)]) (rest := []) (wcs := [w0 cs (x_sh a 1) (g4_bo y)]) ⟨hx, hb, hml, hown, hts⟩ (c0_runNumber l dC dI cs (x_sh a 1) (g4_bo y) l3xx  _ ev17) (cwV 1 hts gX4_digest_X0_runNumber rfl rfl rfl cdX0_runNumber ⟨Nat.le_of_ble_eq_true rfl, Nat.le_of_ble_eq_true rfl⟩) hK hP [1] (by simp only [List.flatten_cons, List.flatten_nil, List.append_nil, List.cons_append, List.nil_append]) rfl rfl rfl rfl hl.1 rfl (Nat.le_of_ble_eq_true rfl) dX4_digest_108 ⟨Nat.zero_le _, Nat.zero_le _⟩ ?_
                    refine lv_istore (lv' := [(4, .int (iI v17)), (0, .ref (a 0)), (1, .long (iL l1xxx)), (3, .int (iI l3xx))]) hx hb dX4_digest_111 hl (by decide) rfl (fun ls hl => ?_)
                    refine lv_lload_n hx hb dX4_digest_113 rfl (lv_at hl 2 rfl) ?_
                    refine lv_iload hx hb dX4_digest_114 (lv_at hl 0 rfl) ?_
                    obtain ⟨v18, ev18, hf⟩ := x_bind hf
                    refine xc_sl (As := [.long (iL l1xxx), .int (iI v17)]) (rest := []) ⟨hx, hb, hml, hown, hts⟩ (c4_mixed l l1xxx v17 _ ev18) (va_cwS 2 hts gX4_digest_X4_mixed rfl rfl rfl cdX4_mixed ⟨Nat.le_of_ble_eq_true rfl, Nat.le_of_ble_eq_true rfl⟩) rfl hl.1 rfl (Nat.le_of_ble_eq_true rfl) dX4_digest_116 ⟨Nat.zero_le _, Nat.zero_le _⟩ ?_
                    refine lv_lstore_n (lv' := [(1, .long (iL v18)), (4, .int (iI v17)), (0, .ref (a 0)), (3, .int (iI l3xx))]) hx hb dX4_digest_119 rfl hl (by decide) rfl (fun ls hl => ?_)
                    refine xk_iconst hx hb dX4_digest_120 ?_
                    refine lv_istore (lv' := [(5, .int (iI 0)), (1, .long (iL v18)), (4, .int (iI v17)), (0, .ref (a 0)), (3, .int (iI l3xx))]) hx hb dX4_digest_121 hl (by decide) rfl (fun ls hl => ?_)
                    have hL123 : ∀ (n19 : Nat) (l1xxxx : Int) (l5 : Int), f4_digest_L123 y l3xx v17 (f4_digest_L92 y n14) n19 l1xxxx l5 = some res → ∀ (ls : Array Slot), lv_has ls 6 [(0, .ref (a 0)), (1, .long (iL l1xxxx)), (3, .int (iI l3xx)), (4, .int (iI v17)), (5, .int (iI l5))] → W p l e (headSpec wsX4_digest ({ frames := 6, cells := 0, slots := 0, locals := 138 } : Room)).room s m ([.ref (a 0)] : List Value).toArray below meth c s.heap [] 0 0 (MQ below (xQl (dC, dI) vwCl ((w4 cs a y).flatten) ((w4 cs a res.2).flatten) s.heap.size res.1) ([.ref (a 0)] : List Value).toArray s 0 0 (va_A ((w4 cs a y).flatten) s.heap.size)) (F0 m 123 ls []) := by
                      intro  n19
                      induction n19 with
                      | zero => intro l1xxxx l5 hf; have hf : (none : Option (Int × BrS)) = some res := hf; cases hf
                      | succ n19 ih123 =>
                        intro l1xxxx l5 hf ls hl
                        rw [f4_digest_L123] at hf
                        refine lv_iload hx hb dX4_digest_123 (lv_at hl 4 rfl) ?_
                        refine xk_bipush hx hb dX4_digest_125 (by decide) ?_
                        obtain ⟨c20a, c20b, c20t, c20f⟩ := x_ltE hf
                        refine xk_icmp_ge (tgt := 152) hx hb c20a c20b dX4_digest_127 (by decide) (fun c20 => ?_) (fun c20 => ?_)
                        · have hf := c20t c20
                          refine lv_lload_n hx hb dX4_digest_130 rfl (lv_at hl 1 rfl) ?_
                          refine lv_aload_n hx hb dX4_digest_131 rfl (lv_at hl 0 rfl) ?_
                          refine va_get (D := (dC, dI)) (ci := 4) (v := .ref (a 1)) (C := RX4) (T := TX4) (N := 4) hx hb hts hin4 hown hK hP 0 rfl rfl 0 (by decide) (hts (.fieldLink RX4 10 "BoatRuns" "boat" "LBoatRuns$Boat;") (by decide +kernel)) (fun _ h9 => h9) rfl dX4_digest_132 ?_
                          refine lv_iload hx hb dX4_digest_135 (lv_at hl 3 rfl) ?_
                          refine lv_iload hx hb dX4_digest_137 (lv_at hl 4 rfl) ?_
                          obtain ⟨v21, ev21, hf⟩ := x_bind hf
                          refine xf_ri (As := [.int (iI v17), .int (iI l5)]) (rest := [.long (iL l1xxxx)]) (wcs := [w0 cs (x_sh a 1) (g4_bo y)]) ⟨hx, hb, hml, hown, hts⟩ (c0_runFact l dC dI cs (x_sh a 1) (g4_bo y) v17 l5  _ ev21) (cwV 2 hts gX4_digest_X0_runFact rfl rfl rfl cdX0_runFact ⟨Nat.le_of_ble_eq_true rfl, Nat.le_of_ble_eq_true rfl⟩) hK hP [1] (by simp only [List.flatten_cons, List.flatten_nil, List.append_nil, List.cons_append, List.nil_append]) rfl rfl rfl rfl hl.1 rfl (Nat.le_of_ble_eq_true rfl) dX4_digest_139 ⟨Nat.zero_le _, Nat.zero_le _⟩ ?_
                          obtain ⟨v22, ev22, hf⟩ := x_bind hf
                          refine xc_sl (As := [.long (iL l1xxxx), .int (iI v21)]) (rest := []) ⟨hx, hb, hml, hown, hts⟩ (c4_mixed l l1xxxx v21 _ ev22) (va_cwS 2 hts gX4_digest_X4_mixed rfl rfl rfl cdX4_mixed ⟨Nat.le_of_ble_eq_true rfl, Nat.le_of_ble_eq_true rfl⟩) rfl hl.1 rfl (Nat.le_of_ble_eq_true rfl) dX4_digest_142 ⟨Nat.zero_le _, Nat.zero_le _⟩ ?_
                          refine lv_lstore_n (lv' := [(1, .long (iL v22)), (0, .ref (a 0)), (3, .int (iI l3xx)), (4, .int (iI v17)), (5, .int (iI l5))]) hx hb dX4_digest_145 rfl hl (by decide) rfl (fun ls hl => ?_)
                          refine xk_iinc (lv' := [(5, .int (iI (l5 + 1))), (1, .long (iL v22)), (0, .ref (a 0)), (3, .int (iI l3xx)), (4, .int (iI v17))]) hx hb dX4_digest_146 hl (k := 4) rfl (by decide) rfl (fun ls hl => ?_)
                          refine lv_goto (tgt := 123) hx hb dX4_digest_149 (by decide) ?_
                          exact ih123 v22 (l5 + 1) hf ls (lv_sub hl [2, 1, 3, 4, 0] rfl)
                        · have hf := c20f c20
                          refine xk_iinc (lv' := [(3, .int (iI (l3xx + 1))), (0, .ref (a 0)), (1, .long (iL l1xxxx)), (4, .int (iI v17)), (5, .int (iI l5))]) hx hb dX4_digest_152 hl (k := 2) rfl (by decide) rfl (fun ls hl => ?_)
                          refine lv_goto (tgt := 92) hx hb dX4_digest_155 (by decide) ?_
                          exact ih92 l1xxxx (l3xx + 1) hf ls (lv_sub hl [1, 2, 0] rfl)
                    exact hL123  xFU v18 0 hf ls (lv_sub hl [3, 1, 4, 2, 0] rfl)
                  · have hf := c16f c16
                    refine lv_lload_n hx hb dX4_digest_158 rfl (lv_at hl 1 rfl) ?_
                    refine lv_aload_n hx hb dX4_digest_159 rfl (lv_at hl 0 rfl) ?_
                    obtain ⟨v23, ev23, hf⟩ := x_bind hf
                    refine xf_ri (As := []) (rest := [.long (iL l1xxx)]) (wcs := w4 cs a y) ⟨hx, hb, hml, hown, hts⟩ (c4_nextThrown l dC dI cs a y  _ ev23) (cwV 0 hts gX4_digest_X4_nextThrown rfl rfl rfl cdX4_nextThrown ⟨Nat.le_of_ble_eq_true rfl, Nat.le_of_ble_eq_true rfl⟩) hK hP [0, 1, 2, 3, 4, 5, 6, 7, 8, 9] rfl rfl rfl rfl rfl hl.1 rfl (Nat.le_of_ble_eq_true rfl) dX4_digest_160 ⟨Nat.zero_le _, Nat.zero_le _⟩ ?_
                    obtain ⟨v24, ev24, hf⟩ := x_bind hf
                    refine xc_sl (As := [.long (iL l1xxx), .int (iI v23)]) (rest := []) ⟨hx, hb, hml, hown, hts⟩ (c4_mixed l l1xxx v23 _ ev24) (va_cwS 2 hts gX4_digest_X4_mixed rfl rfl rfl cdX4_mixed ⟨Nat.le_of_ble_eq_true rfl, Nat.le_of_ble_eq_true rfl⟩) rfl hl.1 rfl (Nat.le_of_ble_eq_true rfl) dX4_digest_163 ⟨Nat.zero_le _, Nat.zero_le _⟩ ?_
                    refine lv_lstore_n (lv' := [(1, .long (iL v24)), (0, .ref (a 0)), (3, .int (iI l3xx))]) hx hb dX4_digest_166 rfl hl (by decide) rfl (fun ls hl => ?_)
                    refine lv_lload_n hx hb dX4_digest_167 rfl (lv_at hl 0 rfl) ?_
                    refine lv_aload_n hx hb dX4_digest_168 rfl (lv_at hl 1 rfl) ?_
                    obtain ⟨⟨v26, y25⟩, ey25, hf⟩ := x_bind hf
                    refine xf_wi (As := []) (rest := [.long (iL v24)]) (wcs := w4 cs a y) (w1s := w4 cs a y25) ⟨hx, hb, hml, hown, hts⟩ (c4_costByWeight l dC dI cs a _ y  _ ey25) (cwV 0 hts gX4_digest_X4_costByWeight rfl rfl rfl cdX4_costByWeight ⟨Nat.le_of_ble_eq_true rfl, Nat.le_of_ble_eq_true rfl⟩) hK hP (x_addrF hD rfl) hS hA [0, 1, 2, 3, 4, 5, 6, 7, 8, 9] rfl rfl rfl (by decide) rfl rfl rfl rfl hl.1 rfl (Nat.le_of_ble_eq_true rfl) dX4_digest_169 ⟨Nat.zero_le _, Nat.zero_le _⟩ (fun H locs hP hS => ?_)
                    have hP : va_P (dC, dI) vwCl ((w4 cs a y25).flatten) H := hP
                    obtain ⟨v27, ev27, hf⟩ := x_bind hf
                    refine xc_sl (As := [.long (iL v24), .int (iI v26)]) (rest := []) ⟨hx, hb, hml, hown, hts⟩ (c4_mixed l v24 v26 _ ev27) (va_cwS 2 hts gX4_digest_X4_mixed rfl rfl rfl cdX4_mixed ⟨Nat.le_of_ble_eq_true rfl, Nat.le_of_ble_eq_true rfl⟩) rfl hl.1 rfl (Nat.le_of_ble_eq_true rfl) dX4_digest_172 ⟨Nat.zero_le _, Nat.zero_le _⟩ ?_
                    refine lv_lstore_n (lv' := [(1, .long (iL v27)), (0, .ref (a 0)), (3, .int (iI l3xx))]) hx hb dX4_digest_175 rfl hl (by decide) rfl (fun ls hl => ?_)
                    refine lv_lload_n hx hb dX4_digest_176 rfl (lv_at hl 0 rfl) ?_
                    refine lv_aload_n hx hb dX4_digest_177 rfl (lv_at hl 1 rfl) ?_
                    refine va_get (D := (dC, dI)) (ci := 4) (v := .ref (a 31)) (C := RX4) (T := TX4) (N := 4) hx hb hts hin4 hown hK hP 0 rfl rfl 2 (by decide) (hts (.fieldLink RX4 22 "BoatRuns" "history" "LBoatRuns$History;") (by decide +kernel)) (fun _ h9 => h9) rfl dX4_digest_178 ?_
                    obtain ⟨v28, ev28, hf⟩ := x_bind hf
                    refine xf_ri (As := []) (rest := [.long (iL v27)]) (wcs := w1 cs (x_sh a 31) (g4_hi y25)) ⟨hx, hb, hml, hown, hts⟩ (c1_count l dC dI cs (x_sh a 31) (g4_hi y25)  _ ev28) (cwV 0 hts gX4_digest_X1_count rfl rfl rfl cdX1_count ⟨Nat.le_of_ble_eq_true rfl, Nat.le_of_ble_eq_true rfl⟩) hK hP [3, 4, 5, 6, 7, 8] rfl rfl rfl rfl rfl hl.1 rfl (Nat.le_of_ble_eq_true rfl) dX4_digest_181 ⟨Nat.zero_le _, Nat.zero_le _⟩ ?_
                    obtain ⟨v29, ev29, hf⟩ := x_bind hf
                    refine xc_sl (As := [.long (iL v27), .int (iI v28)]) (rest := []) ⟨hx, hb, hml, hown, hts⟩ (c4_mixed l v27 v28 _ ev29) (va_cwS 2 hts gX4_digest_X4_mixed rfl rfl rfl cdX4_mixed ⟨Nat.le_of_ble_eq_true rfl, Nat.le_of_ble_eq_true rfl⟩) rfl hl.1 rfl (Nat.le_of_ble_eq_true rfl) dX4_digest_184 ⟨Nat.zero_le _, Nat.zero_le _⟩ ?_
                    obtain rfl := Option.some.inj hf
                    exact xe_wl hx hb hr hlocks hS hP dX4_digest_187
              exact hL92  xFU l1x 0 hf ls (lv_sub hl [1, 2, 0] rfl)
        exact hL43  xFU l1 0 hf ls (lv_sub hl [1, 2, 0] rfl)
  exact hL16  xFU v2 0 hf ls (lv_sub hl [2, 1, 0] rfl)
theorem cdX4_digest : yX4_digest.cls = RX4 ∧ yX4_digest.cls ≠ "java/lang/invoke/MethodHandle" ∧ yX4_digest.cls ≠ "java/lang/invoke/VarHandle" ∧ (parseMethodDescriptor yX4_digest.desc).map (fun d => d.parameters.length) = some 0 := by decide +kernel

set_option maxHeartbeats 4000000 in
set_option maxRecDepth 100000 in
theorem c3_readForce (l : Launch) (dC : Nat → ClassId) (dI : Nat → Nat → Nat) (cs : Nat → ClassId) (a : Nat → Nat) (sz : Nat) (t : TextS) (res : Int × TextS) (hf : f3_readForce t = some res) : Met l yX3_readForce wsX3_readForce ({ frames := 2, cells := 0, slots := 0, locals := 41 } : Room) (va_Pc [.ref (a 0)] (xPW (dC, dI) vwCl (w3 cs a t) (xT cs) sz)) (xQi (dC, dI) vwCl (w3 cs a t) (w3 cs a res.2) sz res.1) 0 0 (va_A (w3 cs a t) sz) := by
  refine Met.ofW (cc := cX3_readForce) (maxL := 2) (ret := (some .int)) (by decide) rfl ?_
  intro p e s m args below meth c s₁ B hml hv
  obtain ⟨rfl, hsz, hP, hK, hD0⟩ := hv
  have hx := B.exec
  have hb := B.bytes
  have hr := B.returns
  have hts := atoms_spec (ws := wsX3_readForce) B.pre
  have hown : s.vm.findClass RX3 = some m.cls := findClass_of_methodNamed B.named
  have hlocks := B.notSynchronized
  have hin3 : ∀ w ∈ wsX30, w ∈ wsX3_readForce := by decide +kernel
  subst hsz
  have hD := hD0.self (sz := s.heap.size)
  have hA : ∀ z9 : Nat, s.heap.size ≤ z9 → va_A (w3 cs a t) s.heap.size z9 := fun z9 h => Or.inr h
  have hS : va_S (va_A (w3 cs a t) s.heap.size) s.heap s.heap [] := va_S.rf
  have hl := lv_entry [.ref (a 0)] (n := 2) (Nat.le_of_ble_eq_true rfl)
  rw [lg_entry_eq]
  generalize (lg_sl [.ref (a 0)] ++ List.replicate (2 - (lg_sl [.ref (a 0)]).length) Slot.unset).toArray = ls at hl ⊢
  have hl : lv_has ls 2 [(0, .ref (a 0))] := hl
  unfold f3_readForce at hf
  refine lv_aload_n hx hb dX3_readForce_0 rfl (lv_at hl 0 rfl) ?_
  obtain ⟨v1, ev1, hf⟩ := x_bind hf
  refine xc_ri (As := []) (rest := []) ⟨hx, hb, hml, hown, hts⟩ (c3_here l dC dI cs a t  _ ev1) (cwV 0 hts gX3_readForce_X3_here rfl rfl rfl cdX3_here ⟨Nat.le_of_ble_eq_true rfl, Nat.le_of_ble_eq_true rfl⟩) hK hP [0, 1, 2, 3, 4, 5, 6, 7, 8] rfl 0 rfl rfl rfl hl.1 rfl (Nat.le_of_ble_eq_true rfl) dX3_readForce_1 ⟨Nat.zero_le _, Nat.zero_le _⟩ ?_
  refine lv_istore_n (lv' := [(1, .int (iI v1)), (0, .ref (a 0))]) hx hb dX3_readForce_4 rfl hl (by decide) rfl (fun ls hl => ?_)
  refine lv_iload_n hx hb dX3_readForce_5 rfl (lv_at hl 0 rfl) ?_
  refine xk_bipush hx hb dX3_readForce_6 (by decide) ?_
  obtain ⟨c2a, c2b, c2t, c2f⟩ := x_ltE hf
  refine xk_icmp_lt (tgt := 17) hx hb c2a c2b dX3_readForce_8 (by decide) (fun c2 => ?_) (fun c2 => ?_)
  · have hf := c2t c2
    refine lv_aload_n hx hb dX3_readForce_17 rfl (lv_at hl 1 rfl) ?_
    refine lv_aload_n hx hb dX3_readForce_18 rfl (lv_at hl 1 rfl) ?_
    refine va_get (D := (dC, dI)) (ci := 3) (v := .int (iI (g3_pos t))) (C := RX3) (T := TX3) (N := 6) hx hb hts hin3 hown hK hP 0 rfl rfl 4 (by decide) (hts (.fieldLink RX3 47 "BoatRuns$Text" "at" "I") (by decide +kernel)) (fun _ h9 => h9) rfl dX3_readForce_19 ?_
    refine va_put (D := (dC, dI)) (ci := 3) (v := .int (iI (g3_pos t))) (ty := .int) (C := RX3) (T := TX3) (N := 6) hx hb hts hin3 tyX3 tyX3_ok nmX3 hown hK hP (x_addr hD rfl) hS 0 rfl rfl 5 (by decide) (hts (.fieldLink RX3 29 "BoatRuns$Text" "error" "I") (by decide +kernel)) (fun _ h9 => h9) rfl (by decide +kernel) rfl rfl (Nat.le_of_ble_eq_true rfl) dX3_readForce_22 (fun H locs hP _ hS => ?_)
    have hP : va_P (dC, dI) vwCl (w3C cs a (g3_pos t) (g3_pos t) (g3_byts t) (g3_knds t) (g3_fsts t) (g3_snds t)) H := hP
    refine xk_iconst hx hb dX3_readForce_25 ?_
    obtain rfl := Option.some.inj hf
    exact xe_wi hx hb hr hlocks hS hP dX3_readForce_26
  · have hf := c2f c2
    refine lv_iload_n hx hb dX3_readForce_11 rfl (lv_at hl 0 rfl) ?_
    refine xk_bipush hx hb dX3_readForce_12 (by decide) ?_
    obtain ⟨c3a, c3b, c3t, c3f⟩ := x_ltE hf
    refine xk_icmp_le (tgt := 27) hx hb c3b c3a dX3_readForce_14 (by decide) (fun c3 => ?_) (fun c3 => ?_)
    · have hf := c3t c3
      refine lv_aload_n hx hb dX3_readForce_17 rfl (lv_at hl 1 rfl) ?_
      refine lv_aload_n hx hb dX3_readForce_18 rfl (lv_at hl 1 rfl) ?_
      refine va_get (D := (dC, dI)) (ci := 3) (v := .int (iI (g3_pos t))) (C := RX3) (T := TX3) (N := 6) hx hb hts hin3 hown hK hP 0 rfl rfl 4 (by decide) (hts (.fieldLink RX3 47 "BoatRuns$Text" "at" "I") (by decide +kernel)) (fun _ h9 => h9) rfl dX3_readForce_19 ?_
      refine va_put (D := (dC, dI)) (ci := 3) (v := .int (iI (g3_pos t))) (ty := .int) (C := RX3) (T := TX3) (N := 6) hx hb hts hin3 tyX3 tyX3_ok nmX3 hown hK hP (x_addr hD rfl) hS 0 rfl rfl 5 (by decide) (hts (.fieldLink RX3 29 "BoatRuns$Text" "error" "I") (by decide +kernel)) (fun _ h9 => h9) rfl (by decide +kernel) rfl rfl (Nat.le_of_ble_eq_true rfl) dX3_readForce_22 (fun H locs hP _ hS => ?_)
      have hP : va_P (dC, dI) vwCl (w3C cs a (g3_pos t) (g3_pos t) (g3_byts t) (g3_knds t) (g3_fsts t) (g3_snds t)) H := hP
      refine xk_iconst hx hb dX3_readForce_25 ?_
      obtain rfl := Option.some.inj hf
      exact xe_wi hx hb hr hlocks hS hP dX3_readForce_26
    · have hf := c3f c3
      refine lv_aload_n hx hb dX3_readForce_27 rfl (lv_at hl 1 rfl) ?_
      refine lv_dup hx hb dX3_readForce_28 rfl ?_
      refine va_get (D := (dC, dI)) (ci := 3) (v := .int (iI (g3_pos t))) (C := RX3) (T := TX3) (N := 6) hx hb hts hin3 hown hK hP 0 rfl rfl 4 (by decide) (hts (.fieldLink RX3 47 "BoatRuns$Text" "at" "I") (by decide +kernel)) (fun _ h9 => h9) rfl dX3_readForce_29 ?_
      refine xk_iconst hx hb dX3_readForce_32 ?_
      refine xk_iadd hx hb dX3_readForce_33 ?_
      refine va_put (D := (dC, dI)) (ci := 3) (v := .int (iI (g3_pos t + 1))) (ty := .int) (C := RX3) (T := TX3) (N := 6) hx hb hts hin3 tyX3 tyX3_ok nmX3 hown hK hP (x_addr hD rfl) hS 0 rfl rfl 4 (by decide) (hts (.fieldLink RX3 47 "BoatRuns$Text" "at" "I") (by decide +kernel)) (fun _ h9 => h9) rfl (by decide +kernel) rfl rfl (Nat.le_of_ble_eq_true rfl) dX3_readForce_34 (fun H locs hP _ hS => ?_)
      have hP : va_P (dC, dI) vwCl (w3C cs a (g3_pos t + 1) (g3_err t) (g3_byts t) (g3_knds t) (g3_fsts t) (g3_snds t)) H := hP
      refine lv_iload_n hx hb dX3_readForce_37 rfl (lv_at hl 0 rfl) ?_
      refine xk_bipush hx hb dX3_readForce_38 (by decide) ?_
      refine xk_isub hx hb dX3_readForce_40 ?_
      obtain rfl := Option.some.inj hf
      exact xe_wi hx hb hr hlocks hS hP dX3_readForce_41
theorem cdX3_readForce : yX3_readForce.cls = RX3 ∧ yX3_readForce.cls ≠ "java/lang/invoke/MethodHandle" ∧ yX3_readForce.cls ≠ "java/lang/invoke/VarHandle" ∧ (parseMethodDescriptor yX3_readForce.desc).map (fun d => d.parameters.length) = some 0 := by decide +kernel

set_option maxHeartbeats 4000000 in
set_option maxRecDepth 100000 in
theorem c3_readOrder (l : Launch) (dC : Nat → ClassId) (dI : Nat → Nat → Nat) (cs : Nat → ClassId) (a : Nat → Nat) (sz : Nat) (t : TextS) (res : TextS) (hf : f3_readOrder t = some res) : Met l yX3_readOrder wsX3_readOrder ({ frames := 4, cells := 0, slots := 0, locals := 87 } : Room) (va_Pc [.ref (a 0)] (xPW (dC, dI) vwCl (w3 cs a t) (xT cs) sz)) (xQv (dC, dI) vwCl (w3 cs a t) (w3 cs a res) sz) 0 0 (va_A (w3 cs a t) sz) := by
  refine Met.ofW (cc := cX3_readOrder) (maxL := 4) (ret := none) (by decide) rfl ?_
  intro p e s m args below meth c s₁ B hml hv
  obtain ⟨rfl, hsz, hP, hK, hD0⟩ := hv
  have hx := B.exec
  have hb := B.bytes
  have hr := B.returns
  have hts := atoms_spec (ws := wsX3_readOrder) B.pre
  have hown : s.vm.findClass RX3 = some m.cls := findClass_of_methodNamed B.named
  have hlocks := B.notSynchronized
  have hin3 : ∀ w ∈ wsX30, w ∈ wsX3_readOrder := by decide +kernel
  subst hsz
  have hD := hD0.self (sz := s.heap.size)
  have hA : ∀ z9 : Nat, s.heap.size ≤ z9 → va_A (w3 cs a t) s.heap.size z9 := fun z9 h => Or.inr h
  have hS : va_S (va_A (w3 cs a t) s.heap.size) s.heap s.heap [] := va_S.rf
  have hl := lv_entry [.ref (a 0)] (n := 4) (Nat.le_of_ble_eq_true rfl)
  rw [lg_entry_eq]
  generalize (lg_sl [.ref (a 0)] ++ List.replicate (4 - (lg_sl [.ref (a 0)]).length) Slot.unset).toArray = ls at hl ⊢
  have hl : lv_has ls 4 [(0, .ref (a 0))] := hl
  unfold f3_readOrder at hf
  refine lv_aload_n hx hb dX3_readOrder_0 rfl (lv_at hl 0 rfl) ?_
  obtain ⟨v1, ev1, hf⟩ := x_bind hf
  refine xc_ri (As := []) (rest := []) ⟨hx, hb, hml, hown, hts⟩ (c3_here l dC dI cs a t  _ ev1) (cwV 0 hts gX3_readOrder_X3_here rfl rfl rfl cdX3_here ⟨Nat.le_of_ble_eq_true rfl, Nat.le_of_ble_eq_true rfl⟩) hK hP [0, 1, 2, 3, 4, 5, 6, 7, 8] rfl 0 rfl rfl rfl hl.1 rfl (Nat.le_of_ble_eq_true rfl) dX3_readOrder_1 ⟨Nat.zero_le _, Nat.zero_le _⟩ ?_
  refine lv_istore_n (lv' := [(1, .int (iI v1)), (0, .ref (a 0))]) hx hb dX3_readOrder_4 rfl hl (by decide) rfl (fun ls hl => ?_)
  refine xk_iconst hx hb dX3_readOrder_5 ?_
  refine lv_istore_n (lv' := [(2, .int (iI 0)), (1, .int (iI v1)), (0, .ref (a 0))]) hx hb dX3_readOrder_6 rfl hl (by decide) rfl (fun ls hl => ?_)
  refine xk_iconst hx hb dX3_readOrder_7 ?_
  refine lv_istore_n (lv' := [(3, .int (iI 0)), (2, .int (iI 0)), (1, .int (iI v1)), (0, .ref (a 0))]) hx hb dX3_readOrder_8 rfl hl (by decide) rfl (fun ls hl => ?_)
  refine lv_iload_n hx hb dX3_readOrder_9 rfl (lv_at hl 2 rfl) ?_
  obtain ⟨c2a, c2b, c2t, c2f⟩ := x_eqE hf
  by_cases c2 : v1 = 101
  · have hf := c2t c2
    refine xk_tabIn (tgt := 122) hx hb c2a c2 dX3_readOrder_10 (by decide) rfl (by decide) ?_
    refine lv_aload_n hx hb dX3_readOrder_122 rfl (lv_at hl 3 rfl) ?_
    refine lv_dup hx hb dX3_readOrder_123 rfl ?_
    refine va_get (D := (dC, dI)) (ci := 3) (v := .int (iI (g3_pos t))) (C := RX3) (T := TX3) (N := 6) hx hb hts hin3 hown hK hP 0 rfl rfl 4 (by decide) (hts (.fieldLink RX3 47 "BoatRuns$Text" "at" "I") (by decide +kernel)) (fun _ h9 => h9) rfl dX3_readOrder_124 ?_
    refine xk_iconst hx hb dX3_readOrder_127 ?_
    refine xk_iadd hx hb dX3_readOrder_128 ?_
    refine va_put (D := (dC, dI)) (ci := 3) (v := .int (iI (g3_pos t + 1))) (ty := .int) (C := RX3) (T := TX3) (N := 6) hx hb hts hin3 tyX3 tyX3_ok nmX3 hown hK hP (x_addr hD rfl) hS 0 rfl rfl 4 (by decide) (hts (.fieldLink RX3 47 "BoatRuns$Text" "at" "I") (by decide +kernel)) (fun _ h9 => h9) rfl (by decide +kernel) rfl rfl (Nat.le_of_ble_eq_true rfl) dX3_readOrder_129 (fun H locs hP _ hS => ?_)
    have hP : va_P (dC, dI) vwCl (w3C cs a (g3_pos t + 1) (g3_err t) (g3_byts t) (g3_knds t) (g3_fsts t) (g3_snds t)) H := hP
    refine lv_goto (tgt := 200) hx hb dX3_readOrder_132 (by decide) ?_
    refine lv_aload_n hx hb dX3_readOrder_200 rfl (lv_at hl 3 rfl) ?_
    refine xk_bipush hx hb dX3_readOrder_201 (by decide) ?_
    obtain ⟨t3, et3, hf⟩ := x_bind hf
    refine xc_wv (As := [.int (iI 59)]) (rest := []) ⟨hx, hb, hml, hown, hts⟩ (c3_readSign l dC dI cs a _ (s3_pos t (g3_pos t + 1)) 59  _ et3) (cwV 1 hts gX3_readOrder_X3_readSign rfl rfl rfl cdX3_readSign ⟨Nat.le_of_ble_eq_true rfl, Nat.le_of_ble_eq_true rfl⟩) hK hP (x_addr hD rfl) hS hA [0, 1, 2, 3, 4, 5, 6, 7, 8] rfl (by decide) rfl 0 rfl rfl rfl hl.1 rfl (Nat.le_of_ble_eq_true rfl) dX3_readOrder_203 ⟨Nat.zero_le _, Nat.zero_le _⟩ (fun H locs hP hS => ?_)
    have hP : va_P (dC, dI) vwCl (w3 cs a t3) H := hP
    refine lv_aload_n hx hb dX3_readOrder_206 rfl (lv_at hl 3 rfl) ?_
    refine va_get (D := (dC, dI)) (ci := 3) (v := .int (iI (g3_err t3))) (C := RX3) (T := TX3) (N := 6) hx hb hts hin3 hown hK hP 0 rfl rfl 5 (by decide) (hts (.fieldLink RX3 29 "BoatRuns$Text" "error" "I") (by decide +kernel)) (fun _ h9 => h9) rfl dX3_readOrder_207 ?_
    refine xk_iconst hx hb dX3_readOrder_210 ?_
    obtain ⟨c4a, c4b, c4t, c4f⟩ := x_eqE hf
    refine xk_icmp_ne (tgt := 238) hx hb c4a c4b dX3_readOrder_211 (by decide) (fun c4 => ?_) (fun c4 => ?_)
    · have hf := c4t c4
      refine lv_aload_n hx hb dX3_readOrder_214 rfl (lv_at hl 3 rfl) ?_
      refine va_get (D := (dC, dI)) (ci := 3) (v := .ref (a 2)) (C := RX3) (T := TX3) (N := 6) hx hb hts hin3 hown hK hP 0 rfl rfl 1 (by decide) (hts (.fieldLink RX3 20 "BoatRuns$Text" "kinds" "LBoatRuns$Row;") (by decide +kernel)) (fun _ h9 => h9) rfl dX3_readOrder_215 ?_
      refine lv_iload_n hx hb dX3_readOrder_218 rfl (lv_at hl 2 rfl) ?_
      obtain ⟨r5, er5, hf⟩ := x_bind hf
      refine xc_wv (As := [.int (iI v1)]) (rest := []) ⟨hx, hb, hml, hown, hts⟩ (c2_add l dC dI cs (a 2) (a 6) _ 50 (g3_knds t3) v1 (by decide) _ er5) (cwV 1 hts gX3_readOrder_X2_add rfl rfl rfl cdX2_add ⟨Nat.le_of_ble_eq_true rfl, Nat.le_of_ble_eq_true rfl⟩) hK hP (x_addr hD rfl) hS hA [2, 6] rfl (by decide) rfl 2 rfl rfl rfl hl.1 rfl (Nat.le_of_ble_eq_true rfl) dX3_readOrder_219 ⟨Nat.zero_le _, Nat.zero_le _⟩ (fun H locs hP hS => ?_)
      have hP : va_P (dC, dI) vwCl (w3C cs a (g3_pos t3) (g3_err t3) (g3_byts t3) r5 (g3_fsts t3) (g3_snds t3)) H := hP
      refine lv_aload_n hx hb dX3_readOrder_222 rfl (lv_at hl 3 rfl) ?_
      refine va_get (D := (dC, dI)) (ci := 3) (v := .ref (a 3)) (C := RX3) (T := TX3) (N := 6) hx hb hts hin3 hown hK hP 0 rfl rfl 2 (by decide) (hts (.fieldLink RX3 23 "BoatRuns$Text" "firsts" "LBoatRuns$Row;") (by decide +kernel)) (fun _ h9 => h9) rfl dX3_readOrder_223 ?_
      refine lv_iload_n hx hb dX3_readOrder_226 rfl (lv_at hl 1 rfl) ?_
      obtain ⟨r6, er6, hf⟩ := x_bind hf
      refine xc_wv (As := [.int (iI 0)]) (rest := []) ⟨hx, hb, hml, hown, hts⟩ (c2_add l dC dI cs (a 3) (a 7) _ 50 (g3_fsts t3) 0 (by decide) _ er6) (cwV 1 hts gX3_readOrder_X2_add rfl rfl rfl cdX2_add ⟨Nat.le_of_ble_eq_true rfl, Nat.le_of_ble_eq_true rfl⟩) hK hP (x_addr hD rfl) hS hA [3, 7] rfl (by decide) rfl 3 rfl rfl rfl hl.1 rfl (Nat.le_of_ble_eq_true rfl) dX3_readOrder_227 ⟨Nat.zero_le _, Nat.zero_le _⟩ (fun H locs hP hS => ?_)
      have hP : va_P (dC, dI) vwCl (w3C cs a (g3_pos t3) (g3_err t3) (g3_byts t3) r5 r6 (g3_snds t3)) H := hP
      refine lv_aload_n hx hb dX3_readOrder_230 rfl (lv_at hl 3 rfl) ?_
      refine va_get (D := (dC, dI)) (ci := 3) (v := .ref (a 4)) (C := RX3) (T := TX3) (N := 6) hx hb hts hin3 hown hK hP 0 rfl rfl 3 (by decide) (hts (.fieldLink RX3 26 "BoatRuns$Text" "seconds" "LBoatRuns$Row;") (by decide +kernel)) (fun _ h9 => h9) rfl dX3_readOrder_231 ?_
      refine lv_iload_n hx hb dX3_readOrder_234 rfl (lv_at hl 0 rfl) ?_
      obtain ⟨r7, er7, hf⟩ := x_bind hf
      refine xc_wv (As := [.int (iI 0)]) (rest := []) ⟨hx, hb, hml, hown, hts⟩ (c2_add l dC dI cs (a 4) (a 8) _ 50 (g3_snds t3) 0 (by decide) _ er7) (cwV 1 hts gX3_readOrder_X2_add rfl rfl rfl cdX2_add ⟨Nat.le_of_ble_eq_true rfl, Nat.le_of_ble_eq_true rfl⟩) hK hP (x_addr hD rfl) hS hA [4, 8] rfl (by decide) rfl 4 rfl rfl rfl hl.1 rfl (Nat.le_of_ble_eq_true rfl) dX3_readOrder_235 ⟨Nat.zero_le _, Nat.zero_le _⟩ (fun H locs hP hS => ?_)
      have hP : va_P (dC, dI) vwCl (w3C cs a (g3_pos t3) (g3_err t3) (g3_byts t3) r5 r6 r7) H := hP
      obtain rfl := Option.some.inj hf
      exact xe_wv hx hb hr hlocks hS hP dX3_readOrder_238
    · have hf := c4f c4
      obtain rfl := Option.some.inj hf
      exact xe_wv hx hb hr hlocks hS hP dX3_readOrder_238
  · have hf := c2f c2
    obtain ⟨c8a, c8b, c8t, c8f⟩ := x_eqE hf
    by_cases c8 : v1 = 108
    · have hf := c8t c8
      refine xk_tabIn (tgt := 122) hx hb c8a c8 dX3_readOrder_10 (by decide) rfl (by decide) ?_
      refine lv_aload_n hx hb dX3_readOrder_122 rfl (lv_at hl 3 rfl) ?_
      refine lv_dup hx hb dX3_readOrder_123 rfl ?_
      refine va_get (D := (dC, dI)) (ci := 3) (v := .int (iI (g3_pos t))) (C := RX3) (T := TX3) (N := 6) hx hb hts hin3 hown hK hP 0 rfl rfl 4 (by decide) (hts (.fieldLink RX3 47 "BoatRuns$Text" "at" "I") (by decide +kernel)) (fun _ h9 => h9) rfl dX3_readOrder_124 ?_
      refine xk_iconst hx hb dX3_readOrder_127 ?_
      refine xk_iadd hx hb dX3_readOrder_128 ?_
      refine va_put (D := (dC, dI)) (ci := 3) (v := .int (iI (g3_pos t + 1))) (ty := .int) (C := RX3) (T := TX3) (N := 6) hx hb hts hin3 tyX3 tyX3_ok nmX3 hown hK hP (x_addr hD rfl) hS 0 rfl rfl 4 (by decide) (hts (.fieldLink RX3 47 "BoatRuns$Text" "at" "I") (by decide +kernel)) (fun _ h9 => h9) rfl (by decide +kernel) rfl rfl (Nat.le_of_ble_eq_true rfl) dX3_readOrder_129 (fun H locs hP _ hS => ?_)
      have hP : va_P (dC, dI) vwCl (w3C cs a (g3_pos t + 1) (g3_err t) (g3_byts t) (g3_knds t) (g3_fsts t) (g3_snds t)) H := hP
      refine lv_goto (tgt := 200) hx hb dX3_readOrder_132 (by decide) ?_
      refine lv_aload_n hx hb dX3_readOrder_200 rfl (lv_at hl 3 rfl) ?_
      refine xk_bipush hx hb dX3_readOrder_201 (by decide) ?_
      obtain ⟨t9, et9, hf⟩ := x_bind hf
      refine xc_wv (As := [.int (iI 59)]) (rest := []) ⟨hx, hb, hml, hown, hts⟩ (c3_readSign l dC dI cs a _ (s3_pos t (g3_pos t + 1)) 59  _ et9) (cwV 1 hts gX3_readOrder_X3_readSign rfl rfl rfl cdX3_readSign ⟨Nat.le_of_ble_eq_true rfl, Nat.le_of_ble_eq_true rfl⟩) hK hP (x_addr hD rfl) hS hA [0, 1, 2, 3, 4, 5, 6, 7, 8] rfl (by decide) rfl 0 rfl rfl rfl hl.1 rfl (Nat.le_of_ble_eq_true rfl) dX3_readOrder_203 ⟨Nat.zero_le _, Nat.zero_le _⟩ (fun H locs hP hS => ?_)
      have hP : va_P (dC, dI) vwCl (w3 cs a t9) H := hP
      refine lv_aload_n hx hb dX3_readOrder_206 rfl (lv_at hl 3 rfl) ?_
      refine va_get (D := (dC, dI)) (ci := 3) (v := .int (iI (g3_err t9))) (C := RX3) (T := TX3) (N := 6) hx hb hts hin3 hown hK hP 0 rfl rfl 5 (by decide) (hts (.fieldLink RX3 29 "BoatRuns$Text" "error" "I") (by decide +kernel)) (fun _ h9 => h9) rfl dX3_readOrder_207 ?_
      refine xk_iconst hx hb dX3_readOrder_210 ?_
      obtain ⟨c10a, c10b, c10t, c10f⟩ := x_eqE hf
      refine xk_icmp_ne (tgt := 238) hx hb c10a c10b dX3_readOrder_211 (by decide) (fun c10 => ?_) (fun c10 => ?_)
      · have hf := c10t c10
        refine lv_aload_n hx hb dX3_readOrder_214 rfl (lv_at hl 3 rfl) ?_
        refine va_get (D := (dC, dI)) (ci := 3) (v := .ref (a 2)) (C := RX3) (T := TX3) (N := 6) hx hb hts hin3 hown hK hP 0 rfl rfl 1 (by decide) (hts (.fieldLink RX3 20 "BoatRuns$Text" "kinds" "LBoatRuns$Row;") (by decide +kernel)) (fun _ h9 => h9) rfl dX3_readOrder_215 ?_
        refine lv_iload_n hx hb dX3_readOrder_218 rfl (lv_at hl 2 rfl) ?_
        obtain ⟨r11, er11, hf⟩ := x_bind hf
        refine xc_wv (As := [.int (iI v1)]) (rest := []) ⟨hx, hb, hml, hown, hts⟩ (c2_add l dC dI cs (a 2) (a 6) _ 50 (g3_knds t9) v1 (by decide) _ er11) (cwV 1 hts gX3_readOrder_X2_add rfl rfl rfl cdX2_add ⟨Nat.le_of_ble_eq_true rfl, Nat.le_of_ble_eq_true rfl⟩) hK hP (x_addr hD rfl) hS hA [2, 6] rfl (by decide) rfl 2 rfl rfl rfl hl.1 rfl (Nat.le_of_ble_eq_true rfl) dX3_readOrder_219 ⟨Nat.zero_le _, Nat.zero_le _⟩ (fun H locs hP hS => ?_)
        have hP : va_P (dC, dI) vwCl (w3C cs a (g3_pos t9) (g3_err t9) (g3_byts t9) r11 (g3_fsts t9) (g3_snds t9)) H := hP
        refine lv_aload_n hx hb dX3_readOrder_222 rfl (lv_at hl 3 rfl) ?_
        refine va_get (D := (dC, dI)) (ci := 3) (v := .ref (a 3)) (C := RX3) (T := TX3) (N := 6) hx hb hts hin3 hown hK hP 0 rfl rfl 2 (by decide) (hts (.fieldLink RX3 23 "BoatRuns$Text" "firsts" "LBoatRuns$Row;") (by decide +kernel)) (fun _ h9 => h9) rfl dX3_readOrder_223 ?_
        refine lv_iload_n hx hb dX3_readOrder_226 rfl (lv_at hl 1 rfl) ?_
        obtain ⟨r12, er12, hf⟩ := x_bind hf
        refine xc_wv (As := [.int (iI 0)]) (rest := []) ⟨hx, hb, hml, hown, hts⟩ (c2_add l dC dI cs (a 3) (a 7) _ 50 (g3_fsts t9) 0 (by decide) _ er12) (cwV 1 hts gX3_readOrder_X2_add rfl rfl rfl cdX2_add ⟨Nat.le_of_ble_eq_true rfl, Nat.le_of_ble_eq_true rfl⟩) hK hP (x_addr hD rfl) hS hA [3, 7] rfl (by decide) rfl 3 rfl rfl rfl hl.1 rfl (Nat.le_of_ble_eq_true rfl) dX3_readOrder_227 ⟨Nat.zero_le _, Nat.zero_le _⟩ (fun H locs hP hS => ?_)
        have hP : va_P (dC, dI) vwCl (w3C cs a (g3_pos t9) (g3_err t9) (g3_byts t9) r11 r12 (g3_snds t9)) H := hP
        refine lv_aload_n hx hb dX3_readOrder_230 rfl (lv_at hl 3 rfl) ?_
        refine va_get (D := (dC, dI)) (ci := 3) (v := .ref (a 4)) (C := RX3) (T := TX3) (N := 6) hx hb hts hin3 hown hK hP 0 rfl rfl 3 (by decide) (hts (.fieldLink RX3 26 "BoatRuns$Text" "seconds" "LBoatRuns$Row;") (by decide +kernel)) (fun _ h9 => h9) rfl dX3_readOrder_231 ?_
        refine lv_iload_n hx hb dX3_readOrder_234 rfl (lv_at hl 0 rfl) ?_
        obtain ⟨r13, er13, hf⟩ := x_bind hf
        refine xc_wv (As := [.int (iI 0)]) (rest := []) ⟨hx, hb, hml, hown, hts⟩ (c2_add l dC dI cs (a 4) (a 8) _ 50 (g3_snds t9) 0 (by decide) _ er13) (cwV 1 hts gX3_readOrder_X2_add rfl rfl rfl cdX2_add ⟨Nat.le_of_ble_eq_true rfl, Nat.le_of_ble_eq_true rfl⟩) hK hP (x_addr hD rfl) hS hA [4, 8] rfl (by decide) rfl 4 rfl rfl rfl hl.1 rfl (Nat.le_of_ble_eq_true rfl) dX3_readOrder_235 ⟨Nat.zero_le _, Nat.zero_le _⟩ (fun H locs hP hS => ?_)
        have hP : va_P (dC, dI) vwCl (w3C cs a (g3_pos t9) (g3_err t9) (g3_byts t9) r11 r12 r13) H := hP
        obtain rfl := Option.some.inj hf
        exact xe_wv hx hb hr hlocks hS hP dX3_readOrder_238
      · have hf := c10f c10
        obtain rfl := Option.some.inj hf
        exact xe_wv hx hb hr hlocks hS hP dX3_readOrder_238
    · have hf := c8f c8
      obtain ⟨c14a, c14b, c14t, c14f⟩ := x_eqE hf
      by_cases c14 : v1 = 109
      · have hf := c14t c14
        refine xk_tabIn (tgt := 153) hx hb c14a c14 dX3_readOrder_10 (by decide) rfl (by decide) ?_
        refine lv_aload_n hx hb dX3_readOrder_153 rfl (lv_at hl 3 rfl) ?_
        refine lv_dup hx hb dX3_readOrder_154 rfl ?_
        refine va_get (D := (dC, dI)) (ci := 3) (v := .int (iI (g3_pos t))) (C := RX3) (T := TX3) (N := 6) hx hb hts hin3 hown hK hP 0 rfl rfl 4 (by decide) (hts (.fieldLink RX3 47 "BoatRuns$Text" "at" "I") (by decide +kernel)) (fun _ h9 => h9) rfl dX3_readOrder_155 ?_
        refine xk_iconst hx hb dX3_readOrder_158 ?_
        refine xk_iadd hx hb dX3_readOrder_159 ?_
        refine va_put (D := (dC, dI)) (ci := 3) (v := .int (iI (g3_pos t + 1))) (ty := .int) (C := RX3) (T := TX3) (N := 6) hx hb hts hin3 tyX3 tyX3_ok nmX3 hown hK hP (x_addr hD rfl) hS 0 rfl rfl 4 (by decide) (hts (.fieldLink RX3 47 "BoatRuns$Text" "at" "I") (by decide +kernel)) (fun _ h9 => h9) rfl (by decide +kernel) rfl rfl (Nat.le_of_ble_eq_true rfl) dX3_readOrder_160 (fun H locs hP _ hS => ?_)
        have hP : va_P (dC, dI) vwCl (w3C cs a (g3_pos t + 1) (g3_err t) (g3_byts t) (g3_knds t) (g3_fsts t) (g3_snds t)) H := hP
        refine lv_aload_n hx hb dX3_readOrder_163 rfl (lv_at hl 3 rfl) ?_
        refine xk_iconst hx hb dX3_readOrder_164 ?_
        refine xk_iconst hx hb dX3_readOrder_165 ?_
        refine xk_sipush hx hb dX3_readOrder_166 (by decide) ?_
        obtain ⟨⟨v16, t15⟩, et15, hf⟩ := x_bind hf
        refine xc_wi (As := [.int (iI 3), .int (iI 0), .int (iI 999)]) (rest := []) ⟨hx, hb, hml, hown, hts⟩ (c3_readNumber l dC dI cs a _ (s3_pos t (g3_pos t + 1)) 3 0 999  _ et15) (cwV 3 hts gX3_readOrder_X3_readNumber rfl rfl rfl cdX3_readNumber ⟨Nat.le_of_ble_eq_true rfl, Nat.le_of_ble_eq_true rfl⟩) hK hP (x_addr hD rfl) hS hA [0, 1, 2, 3, 4, 5, 6, 7, 8] rfl (by decide) rfl 0 rfl rfl rfl hl.1 rfl (Nat.le_of_ble_eq_true rfl) dX3_readOrder_169 ⟨Nat.zero_le _, Nat.zero_le _⟩ (fun H locs hP hS => ?_)
        have hP : va_P (dC, dI) vwCl (w3 cs a t15) H := hP
        refine lv_istore_n (lv' := [(2, .int (iI v16)), (3, .int (iI 0)), (1, .int (iI v1)), (0, .ref (a 0))]) hx hb dX3_readOrder_172 rfl hl (by decide) rfl (fun ls hl => ?_)
        refine lv_aload_n hx hb dX3_readOrder_173 rfl (lv_at hl 3 rfl) ?_
        refine xk_bipush hx hb dX3_readOrder_174 (by decide) ?_
        obtain ⟨t18, et18, hf⟩ := x_bind hf
        refine xc_wv (As := [.int (iI 43)]) (rest := []) ⟨hx, hb, hml, hown, hts⟩ (c3_readSign l dC dI cs a _ t15 43  _ et18) (cwV 1 hts gX3_readOrder_X3_readSign rfl rfl rfl cdX3_readSign ⟨Nat.le_of_ble_eq_true rfl, Nat.le_of_ble_eq_true rfl⟩) hK hP (x_addr hD rfl) hS hA [0, 1, 2, 3, 4, 5, 6, 7, 8] rfl (by decide) rfl 0 rfl rfl rfl hl.1 rfl (Nat.le_of_ble_eq_true rfl) dX3_readOrder_176 ⟨Nat.zero_le _, Nat.zero_le _⟩ (fun H locs hP hS => ?_)
        have hP : va_P (dC, dI) vwCl (w3 cs a t18) H := hP
        refine lv_aload_n hx hb dX3_readOrder_179 rfl (lv_at hl 3 rfl) ?_
        refine xk_iconst hx hb dX3_readOrder_180 ?_
        refine xk_iconst hx hb dX3_readOrder_181 ?_
        refine xk_sipush hx hb dX3_readOrder_182 (by decide) ?_
        obtain ⟨⟨v20, t19⟩, et19, hf⟩ := x_bind hf
        refine xc_wi (As := [.int (iI 3), .int (iI 0), .int (iI 999)]) (rest := []) ⟨hx, hb, hml, hown, hts⟩ (c3_readNumber l dC dI cs a _ t18 3 0 999  _ et19) (cwV 3 hts gX3_readOrder_X3_readNumber rfl rfl rfl cdX3_readNumber ⟨Nat.le_of_ble_eq_true rfl, Nat.le_of_ble_eq_true rfl⟩) hK hP (x_addr hD rfl) hS hA [0, 1, 2, 3, 4, 5, 6, 7, 8] rfl (by decide) rfl 0 rfl rfl rfl hl.1 rfl (Nat.le_of_ble_eq_true rfl) dX3_readOrder_185 ⟨Nat.zero_le _, Nat.zero_le _⟩ (fun H locs hP hS => ?_)
        have hP : va_P (dC, dI) vwCl (w3 cs a t19) H := hP
        refine lv_istore_n (lv' := [(3, .int (iI v20)), (2, .int (iI v16)), (1, .int (iI v1)), (0, .ref (a 0))]) hx hb dX3_readOrder_188 rfl hl (by decide) rfl (fun ls hl => ?_)
        refine lv_goto (tgt := 200) hx hb dX3_readOrder_189 (by decide) ?_
        refine lv_aload_n hx hb dX3_readOrder_200 rfl (lv_at hl 3 rfl) ?_
        refine xk_bipush hx hb dX3_readOrder_201 (by decide) ?_
        obtain ⟨t22, et22, hf⟩ := x_bind hf
        refine xc_wv (As := [.int (iI 59)]) (rest := []) ⟨hx, hb, hml, hown, hts⟩ (c3_readSign l dC dI cs a _ t19 59  _ et22) (cwV 1 hts gX3_readOrder_X3_readSign rfl rfl rfl cdX3_readSign ⟨Nat.le_of_ble_eq_true rfl, Nat.le_of_ble_eq_true rfl⟩) hK hP (x_addr hD rfl) hS hA [0, 1, 2, 3, 4, 5, 6, 7, 8] rfl (by decide) rfl 0 rfl rfl rfl hl.1 rfl (Nat.le_of_ble_eq_true rfl) dX3_readOrder_203 ⟨Nat.zero_le _, Nat.zero_le _⟩ (fun H locs hP hS => ?_)
        have hP : va_P (dC, dI) vwCl (w3 cs a t22) H := hP
        refine lv_aload_n hx hb dX3_readOrder_206 rfl (lv_at hl 3 rfl) ?_
        refine va_get (D := (dC, dI)) (ci := 3) (v := .int (iI (g3_err t22))) (C := RX3) (T := TX3) (N := 6) hx hb hts hin3 hown hK hP 0 rfl rfl 5 (by decide) (hts (.fieldLink RX3 29 "BoatRuns$Text" "error" "I") (by decide +kernel)) (fun _ h9 => h9) rfl dX3_readOrder_207 ?_
        refine xk_iconst hx hb dX3_readOrder_210 ?_
        obtain ⟨c23a, c23b, c23t, c23f⟩ := x_eqE hf
        refine xk_icmp_ne (tgt := 238) hx hb c23a c23b dX3_readOrder_211 (by decide) (fun c23 => ?_) (fun c23 => ?_)
        · have hf := c23t c23
          refine lv_aload_n hx hb dX3_readOrder_214 rfl (lv_at hl 3 rfl) ?_
          refine va_get (D := (dC, dI)) (ci := 3) (v := .ref (a 2)) (C := RX3) (T := TX3) (N := 6) hx hb hts hin3 hown hK hP 0 rfl rfl 1 (by decide) (hts (.fieldLink RX3 20 "BoatRuns$Text" "kinds" "LBoatRuns$Row;") (by decide +kernel)) (fun _ h9 => h9) rfl dX3_readOrder_215 ?_
          refine lv_iload_n hx hb dX3_readOrder_218 rfl (lv_at hl 2 rfl) ?_
          obtain ⟨r24, er24, hf⟩ := x_bind hf
          refine xc_wv (As := [.int (iI v1)]) (rest := []) ⟨hx, hb, hml, hown, hts⟩ (c2_add l dC dI cs (a 2) (a 6) _ 50 (g3_knds t22) v1 (by decide) _ er24) (cwV 1 hts gX3_readOrder_X2_add rfl rfl rfl cdX2_add ⟨Nat.le_of_ble_eq_true rfl, Nat.le_of_ble_eq_true rfl⟩) hK hP (x_addr hD rfl) hS hA [2, 6] rfl (by decide) rfl 2 rfl rfl rfl hl.1 rfl (Nat.le_of_ble_eq_true rfl) dX3_readOrder_219 ⟨Nat.zero_le _, Nat.zero_le _⟩ (fun H locs hP hS => ?_)
          have hP : va_P (dC, dI) vwCl (w3C cs a (g3_pos t22) (g3_err t22) (g3_byts t22) r24 (g3_fsts t22) (g3_snds t22)) H := hP
          refine lv_aload_n hx hb dX3_readOrder_222 rfl (lv_at hl 3 rfl) ?_
          refine va_get (D := (dC, dI)) (ci := 3) (v := .ref (a 3)) (C := RX3) (T := TX3) (N := 6) hx hb hts hin3 hown hK hP 0 rfl rfl 2 (by decide) (hts (.fieldLink RX3 23 "BoatRuns$Text" "firsts" "LBoatRuns$Row;") (by decide +kernel)) (fun _ h9 => h9) rfl dX3_readOrder_223 ?_
          refine lv_iload_n hx hb dX3_readOrder_226 rfl (lv_at hl 1 rfl) ?_
          obtain ⟨r25, er25, hf⟩ := x_bind hf
          refine xc_wv (As := [.int (iI v16)]) (rest := []) ⟨hx, hb, hml, hown, hts⟩ (c2_add l dC dI cs (a 3) (a 7) _ 50 (g3_fsts t22) v16 (by decide) _ er25) (cwV 1 hts gX3_readOrder_X2_add rfl rfl rfl cdX2_add ⟨Nat.le_of_ble_eq_true rfl, Nat.le_of_ble_eq_true rfl⟩) hK hP (x_addr hD rfl) hS hA [3, 7] rfl (by decide) rfl 3 rfl rfl rfl hl.1 rfl (Nat.le_of_ble_eq_true rfl) dX3_readOrder_227 ⟨Nat.zero_le _, Nat.zero_le _⟩ (fun H locs hP hS => ?_)
          have hP : va_P (dC, dI) vwCl (w3C cs a (g3_pos t22) (g3_err t22) (g3_byts t22) r24 r25 (g3_snds t22)) H := hP
          refine lv_aload_n hx hb dX3_readOrder_230 rfl (lv_at hl 3 rfl) ?_
          refine va_get (D := (dC, dI)) (ci := 3) (v := .ref (a 4)) (C := RX3) (T := TX3) (N := 6) hx hb hts hin3 hown hK hP 0 rfl rfl 3 (by decide) (hts (.fieldLink RX3 26 "BoatRuns$Text" "seconds" "LBoatRuns$Row;") (by decide +kernel)) (fun _ h9 => h9) rfl dX3_readOrder_231 ?_
          refine lv_iload_n hx hb dX3_readOrder_234 rfl (lv_at hl 0 rfl) ?_
          obtain ⟨r26, er26, hf⟩ := x_bind hf
          refine xc_wv (As := [.int (iI v20)]) (rest := []) ⟨hx, hb, hml, hown, hts⟩ (c2_add l dC dI cs (a 4) (a 8) _ 50 (g3_snds t22) v20 (by decide) _ er26) (cwV 1 hts gX3_readOrder_X2_add rfl rfl rfl cdX2_add ⟨Nat.le_of_ble_eq_true rfl, Nat.le_of_ble_eq_true rfl⟩) hK hP (x_addr hD rfl) hS hA [4, 8] rfl (by decide) rfl 4 rfl rfl rfl hl.1 rfl (Nat.le_of_ble_eq_true rfl) dX3_readOrder_235 ⟨Nat.zero_le _, Nat.zero_le _⟩ (fun H locs hP hS => ?_)
          have hP : va_P (dC, dI) vwCl (w3C cs a (g3_pos t22) (g3_err t22) (g3_byts t22) r24 r25 r26) H := hP
          obtain rfl := Option.some.inj hf
          exact xe_wv hx hb hr hlocks hS hP dX3_readOrder_238
        · have hf := c23f c23
          obtain rfl := Option.some.inj hf
          exact xe_wv hx hb hr hlocks hS hP dX3_readOrder_238
      · have hf := c14f c14
        obtain ⟨c27a, c27b, c27t, c27f⟩ := x_eqE hf
        by_cases c27 : v1 = 112
        · have hf := c27t c27
          refine xk_tabIn (tgt := 84) hx hb c27a c27 dX3_readOrder_10 (by decide) rfl (by decide) ?_
          refine lv_aload_n hx hb dX3_readOrder_84 rfl (lv_at hl 3 rfl) ?_
          refine lv_dup hx hb dX3_readOrder_85 rfl ?_
          refine va_get (D := (dC, dI)) (ci := 3) (v := .int (iI (g3_pos t))) (C := RX3) (T := TX3) (N := 6) hx hb hts hin3 hown hK hP 0 rfl rfl 4 (by decide) (hts (.fieldLink RX3 47 "BoatRuns$Text" "at" "I") (by decide +kernel)) (fun _ h9 => h9) rfl dX3_readOrder_86 ?_
          refine xk_iconst hx hb dX3_readOrder_89 ?_
          refine xk_iadd hx hb dX3_readOrder_90 ?_
          refine va_put (D := (dC, dI)) (ci := 3) (v := .int (iI (g3_pos t + 1))) (ty := .int) (C := RX3) (T := TX3) (N := 6) hx hb hts hin3 tyX3 tyX3_ok nmX3 hown hK hP (x_addr hD rfl) hS 0 rfl rfl 4 (by decide) (hts (.fieldLink RX3 47 "BoatRuns$Text" "at" "I") (by decide +kernel)) (fun _ h9 => h9) rfl (by decide +kernel) rfl rfl (Nat.le_of_ble_eq_true rfl) dX3_readOrder_91 (fun H locs hP _ hS => ?_)
          have hP : va_P (dC, dI) vwCl (w3C cs a (g3_pos t + 1) (g3_err t) (g3_byts t) (g3_knds t) (g3_fsts t) (g3_snds t)) H := hP
          refine lv_aload_n hx hb dX3_readOrder_94 rfl (lv_at hl 3 rfl) ?_
          refine xk_iconst hx hb dX3_readOrder_95 ?_
          refine xk_iconst hx hb dX3_readOrder_96 ?_
          refine xk_sipush hx hb dX3_readOrder_97 (by decide) ?_
          obtain ⟨⟨v29, t28⟩, et28, hf⟩ := x_bind hf
          refine xc_wi (As := [.int (iI 3), .int (iI 0), .int (iI 999)]) (rest := []) ⟨hx, hb, hml, hown, hts⟩ (c3_readNumber l dC dI cs a _ (s3_pos t (g3_pos t + 1)) 3 0 999  _ et28) (cwV 3 hts gX3_readOrder_X3_readNumber rfl rfl rfl cdX3_readNumber ⟨Nat.le_of_ble_eq_true rfl, Nat.le_of_ble_eq_true rfl⟩) hK hP (x_addr hD rfl) hS hA [0, 1, 2, 3, 4, 5, 6, 7, 8] rfl (by decide) rfl 0 rfl rfl rfl hl.1 rfl (Nat.le_of_ble_eq_true rfl) dX3_readOrder_100 ⟨Nat.zero_le _, Nat.zero_le _⟩ (fun H locs hP hS => ?_)
          have hP : va_P (dC, dI) vwCl (w3 cs a t28) H := hP
          refine lv_istore_n (lv' := [(2, .int (iI v29)), (3, .int (iI 0)), (1, .int (iI v1)), (0, .ref (a 0))]) hx hb dX3_readOrder_103 rfl hl (by decide) rfl (fun ls hl => ?_)
          refine lv_aload_n hx hb dX3_readOrder_104 rfl (lv_at hl 3 rfl) ?_
          refine xk_bipush hx hb dX3_readOrder_105 (by decide) ?_
          obtain ⟨t31, et31, hf⟩ := x_bind hf
          refine xc_wv (As := [.int (iI 44)]) (rest := []) ⟨hx, hb, hml, hown, hts⟩ (c3_readSign l dC dI cs a _ t28 44  _ et31) (cwV 1 hts gX3_readOrder_X3_readSign rfl rfl rfl cdX3_readSign ⟨Nat.le_of_ble_eq_true rfl, Nat.le_of_ble_eq_true rfl⟩) hK hP (x_addr hD rfl) hS hA [0, 1, 2, 3, 4, 5, 6, 7, 8] rfl (by decide) rfl 0 rfl rfl rfl hl.1 rfl (Nat.le_of_ble_eq_true rfl) dX3_readOrder_107 ⟨Nat.zero_le _, Nat.zero_le _⟩ (fun H locs hP hS => ?_)
          have hP : va_P (dC, dI) vwCl (w3 cs a t31) H := hP
          refine lv_aload_n hx hb dX3_readOrder_110 rfl (lv_at hl 3 rfl) ?_
          refine xk_iconst hx hb dX3_readOrder_111 ?_
          refine xk_iconst hx hb dX3_readOrder_112 ?_
          refine xk_bipush hx hb dX3_readOrder_113 (by decide) ?_
          obtain ⟨⟨v33, t32⟩, et32, hf⟩ := x_bind hf
          refine xc_wi (As := [.int (iI 2), .int (iI 1), .int (iI 50)]) (rest := []) ⟨hx, hb, hml, hown, hts⟩ (c3_readNumber l dC dI cs a _ t31 2 1 50  _ et32) (cwV 3 hts gX3_readOrder_X3_readNumber rfl rfl rfl cdX3_readNumber ⟨Nat.le_of_ble_eq_true rfl, Nat.le_of_ble_eq_true rfl⟩) hK hP (x_addr hD rfl) hS hA [0, 1, 2, 3, 4, 5, 6, 7, 8] rfl (by decide) rfl 0 rfl rfl rfl hl.1 rfl (Nat.le_of_ble_eq_true rfl) dX3_readOrder_115 ⟨Nat.zero_le _, Nat.zero_le _⟩ (fun H locs hP hS => ?_)
          have hP : va_P (dC, dI) vwCl (w3 cs a t32) H := hP
          refine lv_istore_n (lv' := [(3, .int (iI v33)), (2, .int (iI v29)), (1, .int (iI v1)), (0, .ref (a 0))]) hx hb dX3_readOrder_118 rfl hl (by decide) rfl (fun ls hl => ?_)
          refine lv_goto (tgt := 200) hx hb dX3_readOrder_119 (by decide) ?_
          refine lv_aload_n hx hb dX3_readOrder_200 rfl (lv_at hl 3 rfl) ?_
          refine xk_bipush hx hb dX3_readOrder_201 (by decide) ?_
          obtain ⟨t35, et35, hf⟩ := x_bind hf
          refine xc_wv (As := [.int (iI 59)]) (rest := []) ⟨hx, hb, hml, hown, hts⟩ (c3_readSign l dC dI cs a _ t32 59  _ et35) (cwV 1 hts gX3_readOrder_X3_readSign rfl rfl rfl cdX3_readSign ⟨Nat.le_of_ble_eq_true rfl, Nat.le_of_ble_eq_true rfl⟩) hK hP (x_addr hD rfl) hS hA [0, 1, 2, 3, 4, 5, 6, 7, 8] rfl (by decide) rfl 0 rfl rfl rfl hl.1 rfl (Nat.le_of_ble_eq_true rfl) dX3_readOrder_203 ⟨Nat.zero_le _, Nat.zero_le _⟩ (fun H locs hP hS => ?_)
          have hP : va_P (dC, dI) vwCl (w3 cs a t35) H := hP
          refine lv_aload_n hx hb dX3_readOrder_206 rfl (lv_at hl 3 rfl) ?_
          refine va_get (D := (dC, dI)) (ci := 3) (v := .int (iI (g3_err t35))) (C := RX3) (T := TX3) (N := 6) hx hb hts hin3 hown hK hP 0 rfl rfl 5 (by decide) (hts (.fieldLink RX3 29 "BoatRuns$Text" "error" "I") (by decide +kernel)) (fun _ h9 => h9) rfl dX3_readOrder_207 ?_
          refine xk_iconst hx hb dX3_readOrder_210 ?_
          obtain ⟨c36a, c36b, c36t, c36f⟩ := x_eqE hf
          refine xk_icmp_ne (tgt := 238) hx hb c36a c36b dX3_readOrder_211 (by decide) (fun c36 => ?_) (fun c36 => ?_)
          · have hf := c36t c36
            refine lv_aload_n hx hb dX3_readOrder_214 rfl (lv_at hl 3 rfl) ?_
            refine va_get (D := (dC, dI)) (ci := 3) (v := .ref (a 2)) (C := RX3) (T := TX3) (N := 6) hx hb hts hin3 hown hK hP 0 rfl rfl 1 (by decide) (hts (.fieldLink RX3 20 "BoatRuns$Text" "kinds" "LBoatRuns$Row;") (by decide +kernel)) (fun _ h9 => h9) rfl dX3_readOrder_215 ?_
            refine lv_iload_n hx hb dX3_readOrder_218 rfl (lv_at hl 2 rfl) ?_
            obtain ⟨r37, er37, hf⟩ := x_bind hf
            refine xc_wv (As := [.int (iI v1)]) (rest := []) ⟨hx, hb, hml, hown, hts⟩ (c2_add l dC dI cs (a 2) (a 6) _ 50 (g3_knds t35) v1 (by decide) _ er37) (cwV 1 hts gX3_readOrder_X2_add rfl rfl rfl cdX2_add ⟨Nat.le_of_ble_eq_true rfl, Nat.le_of_ble_eq_true rfl⟩) hK hP (x_addr hD rfl) hS hA [2, 6] rfl (by decide) rfl 2 rfl rfl rfl hl.1 rfl (Nat.le_of_ble_eq_true rfl) dX3_readOrder_219 ⟨Nat.zero_le _, Nat.zero_le _⟩ (fun H locs hP hS => ?_)
            have hP : va_P (dC, dI) vwCl (w3C cs a (g3_pos t35) (g3_err t35) (g3_byts t35) r37 (g3_fsts t35) (g3_snds t35)) H := hP
            refine lv_aload_n hx hb dX3_readOrder_222 rfl (lv_at hl 3 rfl) ?_
            refine va_get (D := (dC, dI)) (ci := 3) (v := .ref (a 3)) (C := RX3) (T := TX3) (N := 6) hx hb hts hin3 hown hK hP 0 rfl rfl 2 (by decide) (hts (.fieldLink RX3 23 "BoatRuns$Text" "firsts" "LBoatRuns$Row;") (by decide +kernel)) (fun _ h9 => h9) rfl dX3_readOrder_223 ?_
            refine lv_iload_n hx hb dX3_readOrder_226 rfl (lv_at hl 1 rfl) ?_
            obtain ⟨r38, er38, hf⟩ := x_bind hf
            refine xc_wv (As := [.int (iI v29)]) (rest := []) ⟨hx, hb, hml, hown, hts⟩ (c2_add l dC dI cs (a 3) (a 7) _ 50 (g3_fsts t35) v29 (by decide) _ er38) (cwV 1 hts gX3_readOrder_X2_add rfl rfl rfl cdX2_add ⟨Nat.le_of_ble_eq_true rfl, Nat.le_of_ble_eq_true rfl⟩) hK hP (x_addr hD rfl) hS hA [3, 7] rfl (by decide) rfl 3 rfl rfl rfl hl.1 rfl (Nat.le_of_ble_eq_true rfl) dX3_readOrder_227 ⟨Nat.zero_le _, Nat.zero_le _⟩ (fun H locs hP hS => ?_)
            have hP : va_P (dC, dI) vwCl (w3C cs a (g3_pos t35) (g3_err t35) (g3_byts t35) r37 r38 (g3_snds t35)) H := hP
            refine lv_aload_n hx hb dX3_readOrder_230 rfl (lv_at hl 3 rfl) ?_
            refine va_get (D := (dC, dI)) (ci := 3) (v := .ref (a 4)) (C := RX3) (T := TX3) (N := 6) hx hb hts hin3 hown hK hP 0 rfl rfl 3 (by decide) (hts (.fieldLink RX3 26 "BoatRuns$Text" "seconds" "LBoatRuns$Row;") (by decide +kernel)) (fun _ h9 => h9) rfl dX3_readOrder_231 ?_
            refine lv_iload_n hx hb dX3_readOrder_234 rfl (lv_at hl 0 rfl) ?_
            obtain ⟨r39, er39, hf⟩ := x_bind hf
            refine xc_wv (As := [.int (iI v33)]) (rest := []) ⟨hx, hb, hml, hown, hts⟩ (c2_add l dC dI cs (a 4) (a 8) _ 50 (g3_snds t35) v33 (by decide) _ er39) (cwV 1 hts gX3_readOrder_X2_add rfl rfl rfl cdX2_add ⟨Nat.le_of_ble_eq_true rfl, Nat.le_of_ble_eq_true rfl⟩) hK hP (x_addr hD rfl) hS hA [4, 8] rfl (by decide) rfl 4 rfl rfl rfl hl.1 rfl (Nat.le_of_ble_eq_true rfl) dX3_readOrder_235 ⟨Nat.zero_le _, Nat.zero_le _⟩ (fun H locs hP hS => ?_)
            have hP : va_P (dC, dI) vwCl (w3C cs a (g3_pos t35) (g3_err t35) (g3_byts t35) r37 r38 r39) H := hP
            obtain rfl := Option.some.inj hf
            exact xe_wv hx hb hr hlocks hS hP dX3_readOrder_238
          · have hf := c36f c36
            obtain rfl := Option.some.inj hf
            exact xe_wv hx hb hr hlocks hS hP dX3_readOrder_238
        · have hf := c27f c27
          obtain ⟨c40a, c40b, c40t, c40f⟩ := x_eqE hf
          by_cases c40 : v1 = 115
          · have hf := c40t c40
            refine xk_tabIn (tgt := 135) hx hb c40a c40 dX3_readOrder_10 (by decide) rfl (by decide) ?_
            refine lv_aload_n hx hb dX3_readOrder_135 rfl (lv_at hl 3 rfl) ?_
            refine lv_dup hx hb dX3_readOrder_136 rfl ?_
            refine va_get (D := (dC, dI)) (ci := 3) (v := .int (iI (g3_pos t))) (C := RX3) (T := TX3) (N := 6) hx hb hts hin3 hown hK hP 0 rfl rfl 4 (by decide) (hts (.fieldLink RX3 47 "BoatRuns$Text" "at" "I") (by decide +kernel)) (fun _ h9 => h9) rfl dX3_readOrder_137 ?_
            refine xk_iconst hx hb dX3_readOrder_140 ?_
            refine xk_iadd hx hb dX3_readOrder_141 ?_
            refine va_put (D := (dC, dI)) (ci := 3) (v := .int (iI (g3_pos t + 1))) (ty := .int) (C := RX3) (T := TX3) (N := 6) hx hb hts hin3 tyX3 tyX3_ok nmX3 hown hK hP (x_addr hD rfl) hS 0 rfl rfl 4 (by decide) (hts (.fieldLink RX3 47 "BoatRuns$Text" "at" "I") (by decide +kernel)) (fun _ h9 => h9) rfl (by decide +kernel) rfl rfl (Nat.le_of_ble_eq_true rfl) dX3_readOrder_142 (fun H locs hP _ hS => ?_)
            have hP : va_P (dC, dI) vwCl (w3C cs a (g3_pos t + 1) (g3_err t) (g3_byts t) (g3_knds t) (g3_fsts t) (g3_snds t)) H := hP
            refine lv_aload_n hx hb dX3_readOrder_145 rfl (lv_at hl 3 rfl) ?_
            obtain ⟨⟨v42, t41⟩, et41, hf⟩ := x_bind hf
            refine xc_wi (As := []) (rest := []) ⟨hx, hb, hml, hown, hts⟩ (c3_readForce l dC dI cs a _ (s3_pos t (g3_pos t + 1))  _ et41) (cwV 0 hts gX3_readOrder_X3_readForce rfl rfl rfl cdX3_readForce ⟨Nat.le_of_ble_eq_true rfl, Nat.le_of_ble_eq_true rfl⟩) hK hP (x_addr hD rfl) hS hA [0, 1, 2, 3, 4, 5, 6, 7, 8] rfl (by decide) rfl 0 rfl rfl rfl hl.1 rfl (Nat.le_of_ble_eq_true rfl) dX3_readOrder_146 ⟨Nat.zero_le _, Nat.zero_le _⟩ (fun H locs hP hS => ?_)
            have hP : va_P (dC, dI) vwCl (w3 cs a t41) H := hP
            refine lv_istore_n (lv' := [(2, .int (iI v42)), (3, .int (iI 0)), (1, .int (iI v1)), (0, .ref (a 0))]) hx hb dX3_readOrder_149 rfl hl (by decide) rfl (fun ls hl => ?_)
            refine lv_goto (tgt := 200) hx hb dX3_readOrder_150 (by decide) ?_
            refine lv_aload_n hx hb dX3_readOrder_200 rfl (lv_at hl 3 rfl) ?_
            refine xk_bipush hx hb dX3_readOrder_201 (by decide) ?_
            obtain ⟨t44, et44, hf⟩ := x_bind hf
            refine xc_wv (As := [.int (iI 59)]) (rest := []) ⟨hx, hb, hml, hown, hts⟩ (c3_readSign l dC dI cs a _ t41 59  _ et44) (cwV 1 hts gX3_readOrder_X3_readSign rfl rfl rfl cdX3_readSign ⟨Nat.le_of_ble_eq_true rfl, Nat.le_of_ble_eq_true rfl⟩) hK hP (x_addr hD rfl) hS hA [0, 1, 2, 3, 4, 5, 6, 7, 8] rfl (by decide) rfl 0 rfl rfl rfl hl.1 rfl (Nat.le_of_ble_eq_true rfl) dX3_readOrder_203 ⟨Nat.zero_le _, Nat.zero_le _⟩ (fun H locs hP hS => ?_)
            have hP : va_P (dC, dI) vwCl (w3 cs a t44) H := hP
            refine lv_aload_n hx hb dX3_readOrder_206 rfl (lv_at hl 3 rfl) ?_
            refine va_get (D := (dC, dI)) (ci := 3) (v := .int (iI (g3_err t44))) (C := RX3) (T := TX3) (N := 6) hx hb hts hin3 hown hK hP 0 rfl rfl 5 (by decide) (hts (.fieldLink RX3 29 "BoatRuns$Text" "error" "I") (by decide +kernel)) (fun _ h9 => h9) rfl dX3_readOrder_207 ?_
            refine xk_iconst hx hb dX3_readOrder_210 ?_
            obtain ⟨c45a, c45b, c45t, c45f⟩ := x_eqE hf
            refine xk_icmp_ne (tgt := 238) hx hb c45a c45b dX3_readOrder_211 (by decide) (fun c45 => ?_) (fun c45 => ?_)
            · have hf := c45t c45
              refine lv_aload_n hx hb dX3_readOrder_214 rfl (lv_at hl 3 rfl) ?_
              refine va_get (D := (dC, dI)) (ci := 3) (v := .ref (a 2)) (C := RX3) (T := TX3) (N := 6) hx hb hts hin3 hown hK hP 0 rfl rfl 1 (by decide) (hts (.fieldLink RX3 20 "BoatRuns$Text" "kinds" "LBoatRuns$Row;") (by decide +kernel)) (fun _ h9 => h9) rfl dX3_readOrder_215 ?_
              refine lv_iload_n hx hb dX3_readOrder_218 rfl (lv_at hl 2 rfl) ?_
              obtain ⟨r46, er46, hf⟩ := x_bind hf
              refine xc_wv (As := [.int (iI v1)]) (rest := []) ⟨hx, hb, hml, hown, hts⟩ (c2_add l dC dI cs (a 2) (a 6) _ 50 (g3_knds t44) v1 (by decide) _ er46) (cwV 1 hts gX3_readOrder_X2_add rfl rfl rfl cdX2_add ⟨Nat.le_of_ble_eq_true rfl, Nat.le_of_ble_eq_true rfl⟩) hK hP (x_addr hD rfl) hS hA [2, 6] rfl (by decide) rfl 2 rfl rfl rfl hl.1 rfl (Nat.le_of_ble_eq_true rfl) dX3_readOrder_219 ⟨Nat.zero_le _, Nat.zero_le _⟩ (fun H locs hP hS => ?_)
              have hP : va_P (dC, dI) vwCl (w3C cs a (g3_pos t44) (g3_err t44) (g3_byts t44) r46 (g3_fsts t44) (g3_snds t44)) H := hP
              refine lv_aload_n hx hb dX3_readOrder_222 rfl (lv_at hl 3 rfl) ?_
              refine va_get (D := (dC, dI)) (ci := 3) (v := .ref (a 3)) (C := RX3) (T := TX3) (N := 6) hx hb hts hin3 hown hK hP 0 rfl rfl 2 (by decide) (hts (.fieldLink RX3 23 "BoatRuns$Text" "firsts" "LBoatRuns$Row;") (by decide +kernel)) (fun _ h9 => h9) rfl dX3_readOrder_223 ?_
              refine lv_iload_n hx hb dX3_readOrder_226 rfl (lv_at hl 0 rfl) ?_
              obtain ⟨r47, er47, hf⟩ := x_bind hf
              refine xc_wv (As := [.int (iI v42)]) (rest := []) ⟨hx, hb, hml, hown, hts⟩ (c2_add l dC dI cs (a 3) (a 7) _ 50 (g3_fsts t44) v42 (by decide) _ er47) (cwV 1 hts gX3_readOrder_X2_add rfl rfl rfl cdX2_add ⟨Nat.le_of_ble_eq_true rfl, Nat.le_of_ble_eq_true rfl⟩) hK hP (x_addr hD rfl) hS hA [3, 7] rfl (by decide) rfl 3 rfl rfl rfl hl.1 rfl (Nat.le_of_ble_eq_true rfl) dX3_readOrder_227 ⟨Nat.zero_le _, Nat.zero_le _⟩ (fun H locs hP hS => ?_)
              have hP : va_P (dC, dI) vwCl (w3C cs a (g3_pos t44) (g3_err t44) (g3_byts t44) r46 r47 (g3_snds t44)) H := hP
              refine lv_aload_n hx hb dX3_readOrder_230 rfl (lv_at hl 3 rfl) ?_
              refine va_get (D := (dC, dI)) (ci := 3) (v := .ref (a 4)) (C := RX3) (T := TX3) (N := 6) hx hb hts hin3 hown hK hP 0 rfl rfl 3 (by decide) (hts (.fieldLink RX3 26 "BoatRuns$Text" "seconds" "LBoatRuns$Row;") (by decide +kernel)) (fun _ h9 => h9) rfl dX3_readOrder_231 ?_
              refine lv_iload_n hx hb dX3_readOrder_234 rfl (lv_at hl 1 rfl) ?_
              obtain ⟨r48, er48, hf⟩ := x_bind hf
              refine xc_wv (As := [.int (iI 0)]) (rest := []) ⟨hx, hb, hml, hown, hts⟩ (c2_add l dC dI cs (a 4) (a 8) _ 50 (g3_snds t44) 0 (by decide) _ er48) (cwV 1 hts gX3_readOrder_X2_add rfl rfl rfl cdX2_add ⟨Nat.le_of_ble_eq_true rfl, Nat.le_of_ble_eq_true rfl⟩) hK hP (x_addr hD rfl) hS hA [4, 8] rfl (by decide) rfl 4 rfl rfl rfl hl.1 rfl (Nat.le_of_ble_eq_true rfl) dX3_readOrder_235 ⟨Nat.zero_le _, Nat.zero_le _⟩ (fun H locs hP hS => ?_)
              have hP : va_P (dC, dI) vwCl (w3C cs a (g3_pos t44) (g3_err t44) (g3_byts t44) r46 r47 r48) H := hP
              obtain rfl := Option.some.inj hf
              exact xe_wv hx hb hr hlocks hS hP dX3_readOrder_238
            · have hf := c45f c45
              obtain rfl := Option.some.inj hf
              exact xe_wv hx hb hr hlocks hS hP dX3_readOrder_238
          · have hf := c40f c40
            have hdf : W p l e (headSpec wsX3_readOrder ({ frames := 4, cells := 0, slots := 0, locals := 87 } : Room)).room s m ([.ref (a 0)] : List Value).toArray below meth c s.heap [] 0 0 (MQ below (xQv (dC, dI) vwCl (w3 cs a t) (w3 cs a res) s.heap.size) ([.ref (a 0)] : List Value).toArray s 0 0 (va_A (w3 cs a t) s.heap.size)) (F0 m 192 ls []) := by
              refine lv_aload_n hx hb dX3_readOrder_192 rfl (lv_at hl 3 rfl) ?_
              refine lv_aload_n hx hb dX3_readOrder_193 rfl (lv_at hl 3 rfl) ?_
              refine va_get (D := (dC, dI)) (ci := 3) (v := .int (iI (g3_pos t))) (C := RX3) (T := TX3) (N := 6) hx hb hts hin3 hown hK hP 0 rfl rfl 4 (by decide) (hts (.fieldLink RX3 47 "BoatRuns$Text" "at" "I") (by decide +kernel)) (fun _ h9 => h9) rfl dX3_readOrder_194 ?_
              refine va_put (D := (dC, dI)) (ci := 3) (v := .int (iI (g3_pos t))) (ty := .int) (C := RX3) (T := TX3) (N := 6) hx hb hts hin3 tyX3 tyX3_ok nmX3 hown hK hP (x_addr hD rfl) hS 0 rfl rfl 5 (by decide) (hts (.fieldLink RX3 29 "BoatRuns$Text" "error" "I") (by decide +kernel)) (fun _ h9 => h9) rfl (by decide +kernel) rfl rfl (Nat.le_of_ble_eq_true rfl) dX3_readOrder_197 (fun H locs hP _ hS => ?_)
              have hP : va_P (dC, dI) vwCl (w3C cs a (g3_pos t) (g3_pos t) (g3_byts t) (g3_knds t) (g3_fsts t) (g3_snds t)) H := hP
              refine lv_aload_n hx hb dX3_readOrder_200 rfl (lv_at hl 3 rfl) ?_
              refine xk_bipush hx hb dX3_readOrder_201 (by decide) ?_
              obtain ⟨t49, et49, hf⟩ := x_bind hf
              refine xc_wv (As := [.int (iI 59)]) (rest := []) ⟨hx, hb, hml, hown, hts⟩ (c3_readSign l dC dI cs a _ (s3_err t (g3_pos t)) 59  _ et49) (cwV 1 hts gX3_readOrder_X3_readSign rfl rfl rfl cdX3_readSign ⟨Nat.le_of_ble_eq_true rfl, Nat.le_of_ble_eq_true rfl⟩) hK hP (x_addr hD rfl) hS hA [0, 1, 2, 3, 4, 5, 6, 7, 8] rfl (by decide) rfl 0 rfl rfl rfl hl.1 rfl (Nat.le_of_ble_eq_true rfl) dX3_readOrder_203 ⟨Nat.zero_le _, Nat.zero_le _⟩ (fun H locs hP hS => ?_)
              have hP : va_P (dC, dI) vwCl (w3 cs a t49) H := hP
              refine lv_aload_n hx hb dX3_readOrder_206 rfl (lv_at hl 3 rfl) ?_
              refine va_get (D := (dC, dI)) (ci := 3) (v := .int (iI (g3_err t49))) (C := RX3) (T := TX3) (N := 6) hx hb hts hin3 hown hK hP 0 rfl rfl 5 (by decide) (hts (.fieldLink RX3 29 "BoatRuns$Text" "error" "I") (by decide +kernel)) (fun _ h9 => h9) rfl dX3_readOrder_207 ?_
              refine xk_iconst hx hb dX3_readOrder_210 ?_
              obtain ⟨c50a, c50b, c50t, c50f⟩ := x_eqE hf
              refine xk_icmp_ne (tgt := 238) hx hb c50a c50b dX3_readOrder_211 (by decide) (fun c50 => ?_) (fun c50 => ?_)
              · have hf := c50t c50
                refine lv_aload_n hx hb dX3_readOrder_214 rfl (lv_at hl 3 rfl) ?_
                refine va_get (D := (dC, dI)) (ci := 3) (v := .ref (a 2)) (C := RX3) (T := TX3) (N := 6) hx hb hts hin3 hown hK hP 0 rfl rfl 1 (by decide) (hts (.fieldLink RX3 20 "BoatRuns$Text" "kinds" "LBoatRuns$Row;") (by decide +kernel)) (fun _ h9 => h9) rfl dX3_readOrder_215 ?_
                refine lv_iload_n hx hb dX3_readOrder_218 rfl (lv_at hl 2 rfl) ?_
                obtain ⟨r51, er51, hf⟩ := x_bind hf
                refine xc_wv (As := [.int (iI v1)]) (rest := []) ⟨hx, hb, hml, hown, hts⟩ (c2_add l dC dI cs (a 2) (a 6) _ 50 (g3_knds t49) v1 (by decide) _ er51) (cwV 1 hts gX3_readOrder_X2_add rfl rfl rfl cdX2_add ⟨Nat.le_of_ble_eq_true rfl, Nat.le_of_ble_eq_true rfl⟩) hK hP (x_addr hD rfl) hS hA [2, 6] rfl (by decide) rfl 2 rfl rfl rfl hl.1 rfl (Nat.le_of_ble_eq_true rfl) dX3_readOrder_219 ⟨Nat.zero_le _, Nat.zero_le _⟩ (fun H locs hP hS => ?_)
                have hP : va_P (dC, dI) vwCl (w3C cs a (g3_pos t49) (g3_err t49) (g3_byts t49) r51 (g3_fsts t49) (g3_snds t49)) H := hP
                refine lv_aload_n hx hb dX3_readOrder_222 rfl (lv_at hl 3 rfl) ?_
                refine va_get (D := (dC, dI)) (ci := 3) (v := .ref (a 3)) (C := RX3) (T := TX3) (N := 6) hx hb hts hin3 hown hK hP 0 rfl rfl 2 (by decide) (hts (.fieldLink RX3 23 "BoatRuns$Text" "firsts" "LBoatRuns$Row;") (by decide +kernel)) (fun _ h9 => h9) rfl dX3_readOrder_223 ?_
                refine lv_iload_n hx hb dX3_readOrder_226 rfl (lv_at hl 1 rfl) ?_
                obtain ⟨r52, er52, hf⟩ := x_bind hf
                refine xc_wv (As := [.int (iI 0)]) (rest := []) ⟨hx, hb, hml, hown, hts⟩ (c2_add l dC dI cs (a 3) (a 7) _ 50 (g3_fsts t49) 0 (by decide) _ er52) (cwV 1 hts gX3_readOrder_X2_add rfl rfl rfl cdX2_add ⟨Nat.le_of_ble_eq_true rfl, Nat.le_of_ble_eq_true rfl⟩) hK hP (x_addr hD rfl) hS hA [3, 7] rfl (by decide) rfl 3 rfl rfl rfl hl.1 rfl (Nat.le_of_ble_eq_true rfl) dX3_readOrder_227 ⟨Nat.zero_le _, Nat.zero_le _⟩ (fun H locs hP hS => ?_)
                have hP : va_P (dC, dI) vwCl (w3C cs a (g3_pos t49) (g3_err t49) (g3_byts t49) r51 r52 (g3_snds t49)) H := hP
                refine lv_aload_n hx hb dX3_readOrder_230 rfl (lv_at hl 3 rfl) ?_
                refine va_get (D := (dC, dI)) (ci := 3) (v := .ref (a 4)) (C := RX3) (T := TX3) (N := 6) hx hb hts hin3 hown hK hP 0 rfl rfl 3 (by decide) (hts (.fieldLink RX3 26 "BoatRuns$Text" "seconds" "LBoatRuns$Row;") (by decide +kernel)) (fun _ h9 => h9) rfl dX3_readOrder_231 ?_
                refine lv_iload_n hx hb dX3_readOrder_234 rfl (lv_at hl 0 rfl) ?_
                obtain ⟨r53, er53, hf⟩ := x_bind hf
                refine xc_wv (As := [.int (iI 0)]) (rest := []) ⟨hx, hb, hml, hown, hts⟩ (c2_add l dC dI cs (a 4) (a 8) _ 50 (g3_snds t49) 0 (by decide) _ er53) (cwV 1 hts gX3_readOrder_X2_add rfl rfl rfl cdX2_add ⟨Nat.le_of_ble_eq_true rfl, Nat.le_of_ble_eq_true rfl⟩) hK hP (x_addr hD rfl) hS hA [4, 8] rfl (by decide) rfl 4 rfl rfl rfl hl.1 rfl (Nat.le_of_ble_eq_true rfl) dX3_readOrder_235 ⟨Nat.zero_le _, Nat.zero_le _⟩ (fun H locs hP hS => ?_)
                have hP : va_P (dC, dI) vwCl (w3C cs a (g3_pos t49) (g3_err t49) (g3_byts t49) r51 r52 r53) H := hP
                obtain rfl := Option.some.inj hf
                exact xe_wv hx hb hr hlocks hS hP dX3_readOrder_238
              · have hf := c50f c50
                obtain rfl := Option.some.inj hf
                exact xe_wv hx hb hr hlocks hS hP dX3_readOrder_238
            rcases (show v1 = 102 ∨ v1 = 103 ∨ v1 = 104 ∨ v1 = 105 ∨ v1 = 106 ∨ v1 = 107 ∨ v1 = 110 ∨ v1 = 111 ∨ v1 = 113 ∨ v1 = 114 ∨ (v1 < 101 ∨ 115 < v1) by omega) with hq | hq | hq | hq | hq | hq | hq | hq | hq | hq | hq
            · exact xk_tabIn (tgt := 192) hx hb c40a hq dX3_readOrder_10 (by decide) rfl (by decide) hdf
            · exact xk_tabIn (tgt := 192) hx hb c40a hq dX3_readOrder_10 (by decide) rfl (by decide) hdf
            · exact xk_tabIn (tgt := 192) hx hb c40a hq dX3_readOrder_10 (by decide) rfl (by decide) hdf
            · exact xk_tabIn (tgt := 192) hx hb c40a hq dX3_readOrder_10 (by decide) rfl (by decide) hdf
            · exact xk_tabIn (tgt := 192) hx hb c40a hq dX3_readOrder_10 (by decide) rfl (by decide) hdf
            · exact xk_tabIn (tgt := 192) hx hb c40a hq dX3_readOrder_10 (by decide) rfl (by decide) hdf
            · exact xk_tabIn (tgt := 192) hx hb c40a hq dX3_readOrder_10 (by decide) rfl (by decide) hdf
            · exact xk_tabIn (tgt := 192) hx hb c40a hq dX3_readOrder_10 (by decide) rfl (by decide) hdf
            · exact xk_tabIn (tgt := 192) hx hb c40a hq dX3_readOrder_10 (by decide) rfl (by decide) hdf
            · exact xk_tabIn (tgt := 192) hx hb c40a hq dX3_readOrder_10 (by decide) rfl (by decide) hdf
            · exact xk_tabOut (tgt := 192) hx hb c40a dX3_readOrder_10 hq (by decide) hdf
theorem cdX3_readOrder : yX3_readOrder.cls = RX3 ∧ yX3_readOrder.cls ≠ "java/lang/invoke/MethodHandle" ∧ yX3_readOrder.cls ≠ "java/lang/invoke/VarHandle" ∧ (parseMethodDescriptor yX3_readOrder.desc).map (fun d => d.parameters.length) = some 0 := by decide +kernel

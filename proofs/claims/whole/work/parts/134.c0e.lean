set_option maxHeartbeats 4000000 in
set_option maxRecDepth 100000 in
theorem c0_joinAllByWeight (l : Launch) (dC : Nat → ClassId) (dI : Nat → Nat → Nat) (cs : Nat → ClassId) (a : Nat → Nat) (sz : Nat) (b : BoatS) (res : Int × BoatS) (hf : f0_joinAllByWeight b = some res) : Met l yX0_joinAllByWeight wsX0_joinAllByWeight ({ frames := 4, cells := 0, slots := 0, locals := 96 } : Room) (va_Pc [.ref (a 0)] (xPW (dC, dI) vwCl (w0 cs a b) (xT cs) sz)) (xQi (dC, dI) vwCl (w0 cs a b) (w0 cs a res.2) sz res.1) 0 0 (va_A (w0 cs a b) sz) := by
  refine Met.ofW (cc := cX0_joinAllByWeight) (maxL := 3) (ret := (some .int)) (by decide) rfl ?_
  intro p e s m args below meth c s₁ B hml hv
  obtain ⟨rfl, hsz, hP, hK, hD0⟩ := hv
  have hx := B.exec
  have hb := B.bytes
  have hr := B.returns
  have hts := atoms_spec (ws := wsX0_joinAllByWeight) B.pre
  have hown : s.vm.findClass RX0 = some m.cls := findClass_of_methodNamed B.named
  have hlocks := B.notSynchronized
  have hin0 : ∀ w ∈ wsX00, w ∈ wsX0_joinAllByWeight := by decide +kernel
  subst hsz
  have hD := hD0.self (sz := s.heap.size)
  have hA : ∀ z9 : Nat, s.heap.size ≤ z9 → va_A (w0 cs a b) s.heap.size z9 := fun z9 h => Or.inr h
  have hS : va_S (va_A (w0 cs a b) s.heap.size) s.heap s.heap [] := va_S.rf
  have hl := lv_entry [.ref (a 0)] (n := 3) (Nat.le_of_ble_eq_true rfl)
  rw [lg_entry_eq]
  generalize (lg_sl [.ref (a 0)] ++ List.replicate (3 - (lg_sl [.ref (a 0)]).length) Slot.unset).toArray = ls at hl ⊢
  have hl : lv_has ls 3 [(0, .ref (a 0))] := hl
  unfold f0_joinAllByWeight at hf
  refine lv_aload_n hx hb dX0_joinAllByWeight_0 rfl (lv_at hl 0 rfl) ?_
  refine va_get (D := (dC, dI)) (ci := 0) (v := .int (iI (g0_cst b))) (C := RX0) (T := TX0) (N := 14) hx hb hts hin0 hown hK hP 0 rfl rfl 10 (by decide) (hts (.fieldLink RX0 51 "BoatRuns$Boat" "costs" "I") (by decide +kernel)) (fun _ h9 => h9) rfl dX0_joinAllByWeight_1 ?_
  refine lv_istore_n (lv' := [(1, .int (iI (g0_cst b))), (0, .ref (a 0))]) hx hb dX0_joinAllByWeight_4 rfl hl (by decide) rfl (fun ls hl => ?_)
  refine lv_aload_n hx hb dX0_joinAllByWeight_5 rfl (lv_at hl 1 rfl) ?_
  refine va_get (D := (dC, dI)) (ci := 0) (v := .ref (a 5)) (C := RX0) (T := TX0) (N := 14) hx hb hts hin0 hown hK hP 0 rfl rfl 5 (by decide) (hts (.fieldLink RX0 36 "BoatRuns$Boat" "floats" "LBoatRuns$Row;") (by decide +kernel)) (fun _ h9 => h9) rfl dX0_joinAllByWeight_6 ?_
  obtain ⟨v1, ev1, hf⟩ := x_bind hf
  refine xc_ri (As := []) (rest := []) ⟨hx, hb, hml, hown, hts⟩ (c2_size l dC dI cs (a 5) (a 12) 120 (g0_flts b) (by decide) _ ev1) (cwV 0 hts gX0_joinAllByWeight_X2_size rfl rfl rfl cdX2_size ⟨Nat.le_of_ble_eq_true rfl, Nat.le_of_ble_eq_true rfl⟩) hK hP [5, 12] rfl 5 rfl rfl rfl hl.1 rfl (Nat.le_of_ble_eq_true rfl) dX0_joinAllByWeight_9 ⟨Nat.zero_le _, Nat.zero_le _⟩ ?_
  refine lv_istore_n (lv' := [(2, .int (iI v1)), (1, .int (iI (g0_cst b))), (0, .ref (a 0))]) hx hb dX0_joinAllByWeight_12 rfl hl (by decide) rfl (fun ls hl => ?_)
  have hL13 : ∀ (n3 : Nat) (l2 : Int) (b2 : BoatS), f0_joinAllByWeight_L13 b n3 l2 b2 = some res → ∀ (H : Heap) (locs : List Loc), va_P (dC, dI) vwCl (w0 cs a b2) H → va_S (va_A (w0 cs a b) s.heap.size) s.heap H locs → ∀ (ls : Array Slot), lv_has ls 3 [(0, .ref (a 0)), (1, .int (iI (g0_cst b))), (2, .int (iI l2))] → W p l e (headSpec wsX0_joinAllByWeight ({ frames := 4, cells := 0, slots := 0, locals := 96 } : Room)).room s m ([.ref (a 0)] : List Value).toArray below meth c H locs 0 0 (MQ below (xQi (dC, dI) vwCl (w0 cs a b) (w0 cs a res.2) s.heap.size res.1) ([.ref (a 0)] : List Value).toArray s 0 0 (va_A (w0 cs a b) s.heap.size)) (F0 m 13 ls []) := by
    intro  n3
    induction n3 with
    | zero => intro l2 b2 hf; have hf : (none : Option (Int × BoatS)) = some res := hf; cases hf
    | succ n3 ih13 =>
      intro l2 b2 hf H locs hP hS ls hl
      rw [f0_joinAllByWeight_L13] at hf
      refine lv_iload_n hx hb dX0_joinAllByWeight_13 rfl (lv_at hl 2 rfl) ?_
      refine xk_iconst hx hb dX0_joinAllByWeight_14 ?_
      obtain ⟨c4a, c4b, c4t, c4f⟩ := x_ltE hf
      refine xk_icmp_le (tgt := 29) hx hb c4b c4a dX0_joinAllByWeight_15 (by decide) (fun c4 => ?_) (fun c4 => ?_)
      · have hf := c4t c4
        refine lv_aload_n hx hb dX0_joinAllByWeight_18 rfl (lv_at hl 0 rfl) ?_
        obtain ⟨⟨v6, b5⟩, eb5, hf⟩ := x_bind hf
        refine xc_wi (As := []) (rest := []) ⟨hx, hb, hml, hown, hts⟩ (c0_joinLightest l dC dI cs a _ b2  _ eb5) (cwV 0 hts gX0_joinAllByWeight_X0_joinLightest rfl rfl rfl cdX0_joinLightest ⟨Nat.le_of_ble_eq_true rfl, Nat.le_of_ble_eq_true rfl⟩) hK hP (x_addr hD rfl) hS hA [0, 1, 2, 3, 4, 5, 6, 7, 8, 9, 10, 11, 12, 13, 14] rfl (by decide) rfl 0 rfl rfl rfl hl.1 rfl (Nat.le_of_ble_eq_true rfl) dX0_joinAllByWeight_19 ⟨Nat.zero_le _, Nat.zero_le _⟩ (fun H locs hP hS => ?_)
        have hP : va_P (dC, dI) vwCl (w0 cs a b5) H := hP
        refine lv_pop hx hb dX0_joinAllByWeight_22 rfl ?_
        refine xk_iinc (lv' := [(2, .int (iI (l2 + (-1)))), (0, .ref (a 0)), (1, .int (iI (g0_cst b)))]) hx hb dX0_joinAllByWeight_23 hl (k := 2) rfl (by decide) rfl (fun ls hl => ?_)
        refine lv_goto (tgt := 13) hx hb dX0_joinAllByWeight_26 (by decide) ?_
        exact ih13 (l2 + (-1)) b5 hf _ _ hP hS ls (lv_sub hl [1, 2, 0] rfl)
      · have hf := c4f c4
        refine lv_aload_n hx hb dX0_joinAllByWeight_29 rfl (lv_at hl 0 rfl) ?_
        refine va_get (D := (dC, dI)) (ci := 0) (v := .int (iI (g0_cst b2))) (C := RX0) (T := TX0) (N := 14) hx hb hts hin0 hown hK hP 0 rfl rfl 10 (by decide) (hts (.fieldLink RX0 51 "BoatRuns$Boat" "costs" "I") (by decide +kernel)) (fun _ h9 => h9) rfl dX0_joinAllByWeight_30 ?_
        refine lv_iload_n hx hb dX0_joinAllByWeight_33 rfl (lv_at hl 1 rfl) ?_
        refine xk_isub hx hb dX0_joinAllByWeight_34 ?_
        obtain rfl := Option.some.inj hf
        exact xe_wi hx hb hr hlocks hS hP dX0_joinAllByWeight_35
  exact hL13  xFU v1 b hf _ _ hP hS ls (lv_sub hl [2, 1, 0] rfl)
theorem cdX0_joinAllByWeight : yX0_joinAllByWeight.cls = RX0 ∧ yX0_joinAllByWeight.cls ≠ "java/lang/invoke/MethodHandle" ∧ yX0_joinAllByWeight.cls ≠ "java/lang/invoke/VarHandle" ∧ (parseMethodDescriptor yX0_joinAllByWeight.desc).map (fun d => d.parameters.length) = some 0 := by decide +kernel

set_option maxHeartbeats 4000000 in
set_option maxRecDepth 100000 in
theorem c0_joinAllByNumber (l : Launch) (dC : Nat → ClassId) (dI : Nat → Nat → Nat) (cs : Nat → ClassId) (a : Nat → Nat) (sz : Nat) (b : BoatS) (res : Int × BoatS) (hf : f0_joinAllByNumber b = some res) : Met l yX0_joinAllByNumber wsX0_joinAllByNumber ({ frames := 3, cells := 0, slots := 0, locals := 72 } : Room) (va_Pc [.ref (a 0)] (xPW (dC, dI) vwCl (w0 cs a b) (xT cs) sz)) (xQi (dC, dI) vwCl (w0 cs a b) (w0 cs a res.2) sz res.1) 0 0 (va_A (w0 cs a b) sz) := by
  refine Met.ofW (cc := cX0_joinAllByNumber) (maxL := 3) (ret := (some .int)) (by decide) rfl ?_
  intro p e s m args below meth c s₁ B hml hv
  obtain ⟨rfl, hsz, hP, hK, hD0⟩ := hv
  have hx := B.exec
  have hb := B.bytes
  have hr := B.returns
  have hts := atoms_spec (ws := wsX0_joinAllByNumber) B.pre
  have hown : s.vm.findClass RX0 = some m.cls := findClass_of_methodNamed B.named
  have hlocks := B.notSynchronized
  have hin0 : ∀ w ∈ wsX00, w ∈ wsX0_joinAllByNumber := by decide +kernel
  subst hsz
  have hD := hD0.self (sz := s.heap.size)
  have hA : ∀ z9 : Nat, s.heap.size ≤ z9 → va_A (w0 cs a b) s.heap.size z9 := fun z9 h => Or.inr h
  have hS : va_S (va_A (w0 cs a b) s.heap.size) s.heap s.heap [] := va_S.rf
  have hl := lv_entry [.ref (a 0)] (n := 3) (Nat.le_of_ble_eq_true rfl)
  rw [lg_entry_eq]
  generalize (lg_sl [.ref (a 0)] ++ List.replicate (3 - (lg_sl [.ref (a 0)]).length) Slot.unset).toArray = ls at hl ⊢
  have hl : lv_has ls 3 [(0, .ref (a 0))] := hl
  unfold f0_joinAllByNumber at hf
  refine lv_aload_n hx hb dX0_joinAllByNumber_0 rfl (lv_at hl 0 rfl) ?_
  refine va_get (D := (dC, dI)) (ci := 0) (v := .int (iI (g0_cst b))) (C := RX0) (T := TX0) (N := 14) hx hb hts hin0 hown hK hP 0 rfl rfl 10 (by decide) (hts (.fieldLink RX0 51 "BoatRuns$Boat" "costs" "I") (by decide +kernel)) (fun _ h9 => h9) rfl dX0_joinAllByNumber_1 ?_
  refine lv_istore_n (lv' := [(1, .int (iI (g0_cst b))), (0, .ref (a 0))]) hx hb dX0_joinAllByNumber_4 rfl hl (by decide) rfl (fun ls hl => ?_)
  refine lv_aload_n hx hb dX0_joinAllByNumber_5 rfl (lv_at hl 1 rfl) ?_
  refine va_get (D := (dC, dI)) (ci := 0) (v := .ref (a 5)) (C := RX0) (T := TX0) (N := 14) hx hb hts hin0 hown hK hP 0 rfl rfl 5 (by decide) (hts (.fieldLink RX0 36 "BoatRuns$Boat" "floats" "LBoatRuns$Row;") (by decide +kernel)) (fun _ h9 => h9) rfl dX0_joinAllByNumber_6 ?_
  obtain ⟨v1, ev1, hf⟩ := x_bind hf
  refine xc_ri (As := []) (rest := []) ⟨hx, hb, hml, hown, hts⟩ (c2_size l dC dI cs (a 5) (a 12) 120 (g0_flts b) (by decide) _ ev1) (cwV 0 hts gX0_joinAllByNumber_X2_size rfl rfl rfl cdX2_size ⟨Nat.le_of_ble_eq_true rfl, Nat.le_of_ble_eq_true rfl⟩) hK hP [5, 12] rfl 5 rfl rfl rfl hl.1 rfl (Nat.le_of_ble_eq_true rfl) dX0_joinAllByNumber_9 ⟨Nat.zero_le _, Nat.zero_le _⟩ ?_
  refine lv_istore_n (lv' := [(2, .int (iI v1)), (1, .int (iI (g0_cst b))), (0, .ref (a 0))]) hx hb dX0_joinAllByNumber_12 rfl hl (by decide) rfl (fun ls hl => ?_)
  have hL13 : ∀ (n3 : Nat) (l2 : Int) (b2 : BoatS), f0_joinAllByNumber_L13 b n3 l2 b2 = some res → ∀ (H : Heap) (locs : List Loc), va_P (dC, dI) vwCl (w0 cs a b2) H → va_S (va_A (w0 cs a b) s.heap.size) s.heap H locs → ∀ (ls : Array Slot), lv_has ls 3 [(0, .ref (a 0)), (1, .int (iI (g0_cst b))), (2, .int (iI l2))] → W p l e (headSpec wsX0_joinAllByNumber ({ frames := 3, cells := 0, slots := 0, locals := 72 } : Room)).room s m ([.ref (a 0)] : List Value).toArray below meth c H locs 0 0 (MQ below (xQi (dC, dI) vwCl (w0 cs a b) (w0 cs a res.2) s.heap.size res.1) ([.ref (a 0)] : List Value).toArray s 0 0 (va_A (w0 cs a b) s.heap.size)) (F0 m 13 ls []) := by
    intro  n3
    induction n3 with
    | zero => intro l2 b2 hf; have hf : (none : Option (Int × BoatS)) = some res := hf; cases hf
    | succ n3 ih13 =>
      intro l2 b2 hf H locs hP hS ls hl
      rw [f0_joinAllByNumber_L13] at hf
      refine lv_iload_n hx hb dX0_joinAllByNumber_13 rfl (lv_at hl 2 rfl) ?_
      refine xk_iconst hx hb dX0_joinAllByNumber_14 ?_
      obtain ⟨c4a, c4b, c4t, c4f⟩ := x_ltE hf
      refine xk_icmp_le (tgt := 45) hx hb c4b c4a dX0_joinAllByNumber_15 (by decide) (fun c4 => ?_) (fun c4 => ?_)
      · have hf := c4t c4
        refine lv_aload_n hx hb dX0_joinAllByNumber_18 rfl (lv_at hl 0 rfl) ?_
        refine lv_aload_n hx hb dX0_joinAllByNumber_19 rfl (lv_at hl 0 rfl) ?_
        refine va_get (D := (dC, dI)) (ci := 0) (v := .ref (a 5)) (C := RX0) (T := TX0) (N := 14) hx hb hts hin0 hown hK hP 0 rfl rfl 5 (by decide) (hts (.fieldLink RX0 36 "BoatRuns$Boat" "floats" "LBoatRuns$Row;") (by decide +kernel)) (fun _ h9 => h9) rfl dX0_joinAllByNumber_20 ?_
        refine xk_iconst hx hb dX0_joinAllByNumber_23 ?_
        obtain ⟨v5, ev5, hf⟩ := x_bind hf
        refine xc_ri (As := [.int (iI 0)]) (rest := [.ref (a 0)]) ⟨hx, hb, hml, hown, hts⟩ (c2_get l dC dI cs (a 5) (a 12) 120 (g0_flts b2) 0 (by decide) _ ev5) (cwV 1 hts gX0_joinAllByNumber_X2_get rfl rfl rfl cdX2_get ⟨Nat.le_of_ble_eq_true rfl, Nat.le_of_ble_eq_true rfl⟩) hK hP [5, 12] rfl 5 rfl rfl rfl hl.1 rfl (Nat.le_of_ble_eq_true rfl) dX0_joinAllByNumber_24 ⟨Nat.zero_le _, Nat.zero_le _⟩ ?_
        refine lv_aload_n hx hb dX0_joinAllByNumber_27 rfl (lv_at hl 0 rfl) ?_
        refine va_get (D := (dC, dI)) (ci := 0) (v := .ref (a 5)) (C := RX0) (T := TX0) (N := 14) hx hb hts hin0 hown hK hP 0 rfl rfl 5 (by decide) (hts (.fieldLink RX0 36 "BoatRuns$Boat" "floats" "LBoatRuns$Row;") (by decide +kernel)) (fun _ h9 => h9) rfl dX0_joinAllByNumber_28 ?_
        refine xk_iconst hx hb dX0_joinAllByNumber_31 ?_
        obtain ⟨v6, ev6, hf⟩ := x_bind hf
        refine xc_ri (As := [.int (iI 1)]) (rest := [.int (iI v5), .ref (a 0)]) ⟨hx, hb, hml, hown, hts⟩ (c2_get l dC dI cs (a 5) (a 12) 120 (g0_flts b2) 1 (by decide) _ ev6) (cwV 1 hts gX0_joinAllByNumber_X2_get rfl rfl rfl cdX2_get ⟨Nat.le_of_ble_eq_true rfl, Nat.le_of_ble_eq_true rfl⟩) hK hP [5, 12] rfl 5 rfl rfl rfl hl.1 rfl (Nat.le_of_ble_eq_true rfl) dX0_joinAllByNumber_32 ⟨Nat.zero_le _, Nat.zero_le _⟩ ?_
        obtain ⟨⟨v8, b7⟩, eb7, hf⟩ := x_bind hf
        refine xc_wi (As := [.int (iI v5), .int (iI v6)]) (rest := []) ⟨hx, hb, hml, hown, hts⟩ (c0_join l dC dI cs a _ b2 v5 v6  _ eb7) (cwV 2 hts gX0_joinAllByNumber_X0_join rfl rfl rfl cdX0_join ⟨Nat.le_of_ble_eq_true rfl, Nat.le_of_ble_eq_true rfl⟩) hK hP (x_addr hD rfl) hS hA [0, 1, 2, 3, 4, 5, 6, 7, 8, 9, 10, 11, 12, 13, 14] rfl (by decide) rfl 0 rfl rfl rfl hl.1 rfl (Nat.le_of_ble_eq_true rfl) dX0_joinAllByNumber_35 ⟨Nat.zero_le _, Nat.zero_le _⟩ (fun H locs hP hS => ?_)
        have hP : va_P (dC, dI) vwCl (w0 cs a b7) H := hP
        refine lv_pop hx hb dX0_joinAllByNumber_38 rfl ?_
        refine xk_iinc (lv' := [(2, .int (iI (l2 + (-1)))), (0, .ref (a 0)), (1, .int (iI (g0_cst b)))]) hx hb dX0_joinAllByNumber_39 hl (k := 2) rfl (by decide) rfl (fun ls hl => ?_)
        refine lv_goto (tgt := 13) hx hb dX0_joinAllByNumber_42 (by decide) ?_
        exact ih13 (l2 + (-1)) b7 hf _ _ hP hS ls (lv_sub hl [1, 2, 0] rfl)
      · have hf := c4f c4
        refine lv_aload_n hx hb dX0_joinAllByNumber_45 rfl (lv_at hl 0 rfl) ?_
        refine va_get (D := (dC, dI)) (ci := 0) (v := .int (iI (g0_cst b2))) (C := RX0) (T := TX0) (N := 14) hx hb hts hin0 hown hK hP 0 rfl rfl 10 (by decide) (hts (.fieldLink RX0 51 "BoatRuns$Boat" "costs" "I") (by decide +kernel)) (fun _ h9 => h9) rfl dX0_joinAllByNumber_46 ?_
        refine lv_iload_n hx hb dX0_joinAllByNumber_49 rfl (lv_at hl 1 rfl) ?_
        refine xk_isub hx hb dX0_joinAllByNumber_50 ?_
        obtain rfl := Option.some.inj hf
        exact xe_wi hx hb hr hlocks hS hP dX0_joinAllByNumber_51
  exact hL13  xFU v1 b hf _ _ hP hS ls (lv_sub hl [2, 1, 0] rfl)
theorem cdX0_joinAllByNumber : yX0_joinAllByNumber.cls = RX0 ∧ yX0_joinAllByNumber.cls ≠ "java/lang/invoke/MethodHandle" ∧ yX0_joinAllByNumber.cls ≠ "java/lang/invoke/VarHandle" ∧ (parseMethodDescriptor yX0_joinAllByNumber.desc).map (fun d => d.parameters.length) = some 0 := by decide +kernel

set_option maxHeartbeats 4000000 in
set_option maxRecDepth 100000 in
theorem c0_breakRun (l : Launch) (dC : Nat → ClassId) (dI : Nat → Nat → Nat) (cs : Nat → ClassId) (a : Nat → Nat) (sz : Nat) (b : BoatS) (p0 : Int) (res : BoatS) (hf : f0_breakRun b p0 = some res) : Met l yX0_breakRun wsX0_breakRun ({ frames := 3, cells := 0, slots := 0, locals := 66 } : Room) (va_Pc [.ref (a 0), .int (iI p0)] (xPW (dC, dI) vwCl (w0 cs a b) (xT cs) sz)) (xQv (dC, dI) vwCl (w0 cs a b) (w0 cs a res) sz) 0 0 (va_A (w0 cs a b) sz) := by
  refine Met.ofW (cc := cX0_breakRun) (maxL := 7) (ret := none) (by decide) rfl ?_
  intro p e s m args below meth c s₁ B hml hv
  obtain ⟨rfl, hsz, hP, hK, hD0⟩ := hv
  have hx := B.exec
  have hb := B.bytes
  have hr := B.returns
  have hts := atoms_spec (ws := wsX0_breakRun) B.pre
  have hown : s.vm.findClass RX0 = some m.cls := findClass_of_methodNamed B.named
  have hlocks := B.notSynchronized
  have hin0 : ∀ w ∈ wsX00, w ∈ wsX0_breakRun := by decide +kernel
  subst hsz
  have hD := hD0.self (sz := s.heap.size)
  have hA : ∀ z9 : Nat, s.heap.size ≤ z9 → va_A (w0 cs a b) s.heap.size z9 := fun z9 h => Or.inr h
  have hS : va_S (va_A (w0 cs a b) s.heap.size) s.heap s.heap [] := va_S.rf
  have hl := lv_entry [.ref (a 0), .int (iI p0)] (n := 7) (Nat.le_of_ble_eq_true rfl)
  rw [lg_entry_eq]
  generalize (lg_sl [.ref (a 0), .int (iI p0)] ++ List.replicate (7 - (lg_sl [.ref (a 0), .int (iI p0)]).length) Slot.unset).toArray = ls at hl ⊢
  have hl : lv_has ls 7 [(0, .ref (a 0)), (1, .int (iI p0))] := hl
  unfold f0_breakRun at hf
  refine lv_aload_n hx hb dX0_breakRun_0 rfl (lv_at hl 0 rfl) ?_
  refine va_get (D := (dC, dI)) (ci := 0) (v := .ref (a 5)) (C := RX0) (T := TX0) (N := 14) hx hb hts hin0 hown hK hP 0 rfl rfl 5 (by decide) (hts (.fieldLink RX0 36 "BoatRuns$Boat" "floats" "LBoatRuns$Row;") (by decide +kernel)) (fun _ h9 => h9) rfl dX0_breakRun_1 ?_
  refine lv_iload_n hx hb dX0_breakRun_4 rfl (lv_at hl 1 rfl) ?_
  obtain ⟨v1, ev1, hf⟩ := x_bind hf
  refine xc_ri (As := [.int (iI p0)]) (rest := []) ⟨hx, hb, hml, hown, hts⟩ (c2_get l dC dI cs (a 5) (a 12) 120 (g0_flts b) p0 (by decide) _ ev1) (cwV 1 hts gX0_breakRun_X2_get rfl rfl rfl cdX2_get ⟨Nat.le_of_ble_eq_true rfl, Nat.le_of_ble_eq_true rfl⟩) hK hP [5, 12] rfl 5 rfl rfl rfl hl.1 rfl (Nat.le_of_ble_eq_true rfl) dX0_breakRun_5 ⟨Nat.zero_le _, Nat.zero_le _⟩ ?_
  refine lv_istore_n (lv' := [(2, .int (iI v1)), (0, .ref (a 0)), (1, .int (iI p0))]) hx hb dX0_breakRun_8 rfl hl (by decide) rfl (fun ls hl => ?_)
  refine lv_aload_n hx hb dX0_breakRun_9 rfl (lv_at hl 1 rfl) ?_
  refine lv_iload_n hx hb dX0_breakRun_10 rfl (lv_at hl 0 rfl) ?_
  obtain ⟨v2, ev2, hf⟩ := x_bind hf
  refine xc_ri (As := [.int (iI v1)]) (rest := []) ⟨hx, hb, hml, hown, hts⟩ (c0_countAt l dC dI cs a b v1  _ ev2) (cwV 1 hts gX0_breakRun_X0_countAt rfl rfl rfl cdX0_countAt ⟨Nat.le_of_ble_eq_true rfl, Nat.le_of_ble_eq_true rfl⟩) hK hP [0, 1, 2, 3, 4, 5, 6, 7, 8, 9, 10, 11, 12, 13, 14] rfl 0 rfl rfl rfl hl.1 rfl (Nat.le_of_ble_eq_true rfl) dX0_breakRun_11 ⟨Nat.zero_le _, Nat.zero_le _⟩ ?_
  refine xk_iconst hx hb dX0_breakRun_14 ?_
  refine xk_iadd hx hb dX0_breakRun_15 ?_
  refine xk_iconst hx hb dX0_breakRun_16 ?_
  obtain ⟨v3, ev3, hf⟩ := x_bind hf
  refine xk_idiv hx hb ev3 dX0_breakRun_17 ?_
  refine lv_istore_n (lv' := [(3, .int (iI v3)), (2, .int (iI v1)), (0, .ref (a 0)), (1, .int (iI p0))]) hx hb dX0_breakRun_18 rfl hl (by decide) rfl (fun ls hl => ?_)
  refine lv_aload_n hx hb dX0_breakRun_19 rfl (lv_at hl 2 rfl) ?_
  obtain ⟨⟨v5, b4⟩, eb4, hf⟩ := x_bind hf
  refine xc_wi (As := []) (rest := []) ⟨hx, hb, hml, hown, hts⟩ (c0_newFloat l dC dI cs a _ b  _ eb4) (cwV 0 hts gX0_breakRun_X0_newFloat rfl rfl rfl cdX0_newFloat ⟨Nat.le_of_ble_eq_true rfl, Nat.le_of_ble_eq_true rfl⟩) hK hP (x_addr hD rfl) hS hA [0, 1, 2, 3, 4, 5, 6, 7, 8, 9, 10, 11, 12, 13, 14] rfl (by decide) rfl 0 rfl rfl rfl hl.1 rfl (Nat.le_of_ble_eq_true rfl) dX0_breakRun_20 ⟨Nat.zero_le _, Nat.zero_le _⟩ (fun H locs hP hS => ?_)
  have hP : va_P (dC, dI) vwCl (w0 cs a b4) H := hP
  refine lv_pop hx hb dX0_breakRun_23 rfl ?_
  refine lv_aload_n hx hb dX0_breakRun_24 rfl (lv_at hl 2 rfl) ?_
  refine va_get (D := (dC, dI)) (ci := 0) (v := .ref (a 5)) (C := RX0) (T := TX0) (N := 14) hx hb hts hin0 hown hK hP 0 rfl rfl 5 (by decide) (hts (.fieldLink RX0 36 "BoatRuns$Boat" "floats" "LBoatRuns$Row;") (by decide +kernel)) (fun _ h9 => h9) rfl dX0_breakRun_25 ?_
  obtain ⟨v7, ev7, hf⟩ := x_bind hf
  refine xc_ri (As := []) (rest := []) ⟨hx, hb, hml, hown, hts⟩ (c2_size l dC dI cs (a 5) (a 12) 120 (g0_flts b4) (by decide) _ ev7) (cwV 0 hts gX0_breakRun_X2_size rfl rfl rfl cdX2_size ⟨Nat.le_of_ble_eq_true rfl, Nat.le_of_ble_eq_true rfl⟩) hK hP [5, 12] rfl 5 rfl rfl rfl hl.1 rfl (Nat.le_of_ble_eq_true rfl) dX0_breakRun_28 ⟨Nat.zero_le _, Nat.zero_le _⟩ ?_
  refine xk_iconst hx hb dX0_breakRun_31 ?_
  refine xk_isub hx hb dX0_breakRun_32 ?_
  refine lv_istore (lv' := [(4, .int (iI (v7 - 1))), (3, .int (iI v3)), (2, .int (iI v1)), (0, .ref (a 0)), (1, .int (iI p0))]) hx hb dX0_breakRun_33 hl (by decide) rfl (fun ls hl => ?_)
  refine xk_iconst hx hb dX0_breakRun_35 ?_
  refine lv_istore (lv' := [(5, .int (iI 0)), (4, .int (iI (v7 - 1))), (3, .int (iI v3)), (2, .int (iI v1)), (0, .ref (a 0)), (1, .int (iI p0))]) hx hb dX0_breakRun_36 hl (by decide) rfl (fun ls hl => ?_)
  have hL38 : ∀ (n9 : Nat) (l3 : Int) (l5 : Int) (b8 : BoatS), f0_breakRun_L38 p0 v1 v7 n9 l3 l5 b8 = some res → ∀ (H : Heap) (locs : List Loc), va_P (dC, dI) vwCl (w0 cs a b8) H → va_S (va_A (w0 cs a b) s.heap.size) s.heap H locs → ∀ (ls : Array Slot), lv_has ls 7 [(0, .ref (a 0)), (1, .int (iI p0)), (2, .int (iI v1)), (3, .int (iI l3)), (4, .int (iI (v7 - 1))), (5, .int (iI l5))] → W p l e (headSpec wsX0_breakRun ({ frames := 3, cells := 0, slots := 0, locals := 66 } : Room)).room s m ([.ref (a 0), .int (iI p0)] : List Value).toArray below meth c H locs 0 0 (MQ below (xQv (dC, dI) vwCl (w0 cs a b) (w0 cs a res) s.heap.size) ([.ref (a 0), .int (iI p0)] : List Value).toArray s 0 0 (va_A (w0 cs a b) s.heap.size)) (F0 m 38 ls []) := by
    intro  n9
    induction n9 with
    | zero => intro l3 l5 b8 hf; have hf : (none : Option (BoatS)) = some res := hf; cases hf
    | succ n9 ih38 =>
      intro l3 l5 b8 hf H locs hP hS ls hl
      rw [f0_breakRun_L38] at hf
      refine lv_iload hx hb dX0_breakRun_38 (lv_at hl 5 rfl) ?_
      refine lv_aload_n hx hb dX0_breakRun_40 rfl (lv_at hl 0 rfl) ?_
      refine va_get (D := (dC, dI)) (ci := 0) (v := .ref (a 4)) (C := RX0) (T := TX0) (N := 14) hx hb hts hin0 hown hK hP 0 rfl rfl 4 (by decide) (hts (.fieldLink RX0 33 "BoatRuns$Boat" "order" "LBoatRuns$Row;") (by decide +kernel)) (fun _ h9 => h9) rfl dX0_breakRun_41 ?_
      obtain ⟨v10, ev10, hf⟩ := x_bind hf
      refine xc_ri (As := []) (rest := [.int (iI l5)]) ⟨hx, hb, hml, hown, hts⟩ (c2_size l dC dI cs (a 4) (a 11) 120 (g0_ords b8) (by decide) _ ev10) (cwV 0 hts gX0_breakRun_X2_size rfl rfl rfl cdX2_size ⟨Nat.le_of_ble_eq_true rfl, Nat.le_of_ble_eq_true rfl⟩) hK hP [4, 11] rfl 4 rfl rfl rfl hl.1 rfl (Nat.le_of_ble_eq_true rfl) dX0_breakRun_44 ⟨Nat.zero_le _, Nat.zero_le _⟩ ?_
      obtain ⟨c11a, c11b, c11t, c11f⟩ := x_ltE hf
      refine xk_icmp_ge (tgt := 116) hx hb c11a c11b dX0_breakRun_47 (by decide) (fun c11 => ?_) (fun c11 => ?_)
      · have hf := c11t c11
        refine lv_aload_n hx hb dX0_breakRun_50 rfl (lv_at hl 0 rfl) ?_
        refine va_get (D := (dC, dI)) (ci := 0) (v := .ref (a 4)) (C := RX0) (T := TX0) (N := 14) hx hb hts hin0 hown hK hP 0 rfl rfl 4 (by decide) (hts (.fieldLink RX0 33 "BoatRuns$Boat" "order" "LBoatRuns$Row;") (by decide +kernel)) (fun _ h9 => h9) rfl dX0_breakRun_51 ?_
        refine lv_iload hx hb dX0_breakRun_54 (lv_at hl 5 rfl) ?_
        obtain ⟨v12, ev12, hf⟩ := x_bind hf
        refine xc_ri (As := [.int (iI l5)]) (rest := []) ⟨hx, hb, hml, hown, hts⟩ (c2_get l dC dI cs (a 4) (a 11) 120 (g0_ords b8) l5 (by decide) _ ev12) (cwV 1 hts gX0_breakRun_X2_get rfl rfl rfl cdX2_get ⟨Nat.le_of_ble_eq_true rfl, Nat.le_of_ble_eq_true rfl⟩) hK hP [4, 11] rfl 4 rfl rfl rfl hl.1 rfl (Nat.le_of_ble_eq_true rfl) dX0_breakRun_56 ⟨Nat.zero_le _, Nat.zero_le _⟩ ?_
        refine lv_istore (lv' := [(6, .int (iI v12)), (0, .ref (a 0)), (1, .int (iI p0)), (2, .int (iI v1)), (3, .int (iI l3)), (4, .int (iI (v7 - 1))), (5, .int (iI l5))]) hx hb dX0_breakRun_59 hl (by decide) rfl (fun ls hl => ?_)
        refine lv_aload_n hx hb dX0_breakRun_61 rfl (lv_at hl 1 rfl) ?_
        refine va_get (D := (dC, dI)) (ci := 0) (v := .ref (a 3)) (C := RX0) (T := TX0) (N := 14) hx hb hts hin0 hown hK hP 0 rfl rfl 3 (by decide) (hts (.fieldLink RX0 30 "BoatRuns$Boat" "homes" "LBoatRuns$Row;") (by decide +kernel)) (fun _ h9 => h9) rfl dX0_breakRun_62 ?_
        refine lv_iload hx hb dX0_breakRun_65 (lv_at hl 0 rfl) ?_
        obtain ⟨v13, ev13, hf⟩ := x_bind hf
        refine xc_ri (As := [.int (iI v12)]) (rest := []) ⟨hx, hb, hml, hown, hts⟩ (c2_get l dC dI cs (a 3) (a 10) 120 (g0_homs b8) v12 (by decide) _ ev13) (cwV 1 hts gX0_breakRun_X2_get rfl rfl rfl cdX2_get ⟨Nat.le_of_ble_eq_true rfl, Nat.le_of_ble_eq_true rfl⟩) hK hP [3, 10] rfl 3 rfl rfl rfl hl.1 rfl (Nat.le_of_ble_eq_true rfl) dX0_breakRun_67 ⟨Nat.zero_le _, Nat.zero_le _⟩ ?_
        refine lv_iload_n hx hb dX0_breakRun_70 rfl (lv_at hl 3 rfl) ?_
        obtain ⟨c14a, c14b, c14t, c14f⟩ := x_eqE hf
        refine xk_icmp_ne (tgt := 110) hx hb c14a c14b dX0_breakRun_71 (by decide) (fun c14 => ?_) (fun c14 => ?_)
        · have hf := c14t c14
          refine lv_iload_n hx hb dX0_breakRun_74 rfl (lv_at hl 4 rfl) ?_
          obtain ⟨c15a, c15b, c15t, c15f⟩ := x_ltE hf
          refine xk_if_le (tgt := 84) hx hb c15b dX0_breakRun_75 (by decide) (fun c15 => ?_) (fun c15 => ?_)
          · have hf := c15t c15
            refine xk_iinc (lv' := [(3, .int (iI (l3 + (-1)))), (6, .int (iI v12)), (0, .ref (a 0)), (1, .int (iI p0)), (2, .int (iI v1)), (4, .int (iI (v7 - 1))), (5, .int (iI l5))]) hx hb dX0_breakRun_78 hl (k := 4) rfl (by decide) rfl (fun ls hl => ?_)
            refine lv_goto (tgt := 110) hx hb dX0_breakRun_81 (by decide) ?_
            refine xk_iinc (lv' := [(5, .int (iI (l5 + 1))), (3, .int (iI (l3 + (-1)))), (6, .int (iI v12)), (0, .ref (a 0)), (1, .int (iI p0)), (2, .int (iI v1)), (4, .int (iI (v7 - 1)))]) hx hb dX0_breakRun_110 hl (k := 6) rfl (by decide) rfl (fun ls hl => ?_)
            refine lv_goto (tgt := 38) hx hb dX0_breakRun_113 (by decide) ?_
            exact ih38 (l3 + (-1)) (l5 + 1) b8 hf _ _ hP hS ls (lv_sub hl [3, 4, 5, 1, 6, 0] rfl)
          · have hf := c15f c15
            refine lv_aload_n hx hb dX0_breakRun_84 rfl (lv_at hl 1 rfl) ?_
            refine va_get (D := (dC, dI)) (ci := 0) (v := .ref (a 7)) (C := RX0) (T := TX0) (N := 14) hx hb hts hin0 hown hK hP 0 rfl rfl 7 (by decide) (hts (.fieldLink RX0 42 "BoatRuns$Boat" "runWeights" "LBoatRuns$Row;") (by decide +kernel)) (fun _ h9 => h9) rfl dX0_breakRun_85 ?_
            refine lv_iload_n hx hb dX0_breakRun_88 rfl (lv_at hl 2 rfl) ?_
            refine lv_aload_n hx hb dX0_breakRun_89 rfl (lv_at hl 1 rfl) ?_
            refine va_get (D := (dC, dI)) (ci := 0) (v := .ref (a 2)) (C := RX0) (T := TX0) (N := 14) hx hb hts hin0 hown hK hP 0 rfl rfl 2 (by decide) (hts (.fieldLink RX0 27 "BoatRuns$Boat" "weights" "LBoatRuns$Row;") (by decide +kernel)) (fun _ h9 => h9) rfl dX0_breakRun_90 ?_
            refine lv_iload hx hb dX0_breakRun_93 (lv_at hl 0 rfl) ?_
            obtain ⟨v16, ev16, hf⟩ := x_bind hf
            refine xc_ri (As := [.int (iI v12)]) (rest := [.int (iI p0), .ref (a 7)]) ⟨hx, hb, hml, hown, hts⟩ (c2_get l dC dI cs (a 2) (a 9) 120 (g0_weis b8) v12 (by decide) _ ev16) (cwV 1 hts gX0_breakRun_X2_get rfl rfl rfl cdX2_get ⟨Nat.le_of_ble_eq_true rfl, Nat.le_of_ble_eq_true rfl⟩) hK hP [2, 9] rfl 2 rfl rfl rfl hl.1 rfl (Nat.le_of_ble_eq_true rfl) dX0_breakRun_95 ⟨Nat.zero_le _, Nat.zero_le _⟩ ?_
            refine xk_ineg hx hb dX0_breakRun_98 ?_
            obtain ⟨r17, er17, hf⟩ := x_bind hf
            refine xc_wv (As := [.int (iI p0), .int (iI (-v16))]) (rest := []) ⟨hx, hb, hml, hown, hts⟩ (c2_increase l dC dI cs (a 7) (a 14) _ 120 (g0_rwts b8) p0 (-v16) (by decide) _ er17) (cwV 2 hts gX0_breakRun_X2_increase rfl rfl rfl cdX2_increase ⟨Nat.le_of_ble_eq_true rfl, Nat.le_of_ble_eq_true rfl⟩) hK hP (x_addr hD rfl) hS hA [7, 14] rfl (by decide) rfl 7 rfl rfl rfl hl.1 rfl (Nat.le_of_ble_eq_true rfl) dX0_breakRun_99 ⟨Nat.zero_le _, Nat.zero_le _⟩ (fun H locs hP hS => ?_)
            have hP : va_P (dC, dI) vwCl (w0C cs a (g0_room b8) (g0_opn b8) (g0_flo b8) (g0_cst b8) (g0_mrg b8) (g0_stm b8) (g0_brk b8) (g0_keys b8) (g0_weis b8) (g0_homs b8) (g0_ords b8) (g0_flts b8) (g0_strs b8) r17) H := hP
            refine lv_aload_n hx hb dX0_breakRun_102 rfl (lv_at hl 1 rfl) ?_
            refine lv_iload hx hb dX0_breakRun_103 (lv_at hl 0 rfl) ?_
            refine lv_iload hx hb dX0_breakRun_105 (lv_at hl 5 rfl) ?_
            obtain ⟨b18, eb18, hf⟩ := x_bind hf
            refine xc_wv (As := [.int (iI v12), .int (iI (v7 - 1))]) (rest := []) ⟨hx, hb, hml, hown, hts⟩ (c0_tie l dC dI cs a _ (s0_rwts b8 r17) v12 (v7 - 1)  _ eb18) (cwV 2 hts gX0_breakRun_X0_tie rfl rfl rfl cdX0_tie ⟨Nat.le_of_ble_eq_true rfl, Nat.le_of_ble_eq_true rfl⟩) hK hP (x_addr hD rfl) hS hA [0, 1, 2, 3, 4, 5, 6, 7, 8, 9, 10, 11, 12, 13, 14] rfl (by decide) rfl 0 rfl rfl rfl hl.1 rfl (Nat.le_of_ble_eq_true rfl) dX0_breakRun_107 ⟨Nat.zero_le _, Nat.zero_le _⟩ (fun H locs hP hS => ?_)
            have hP : va_P (dC, dI) vwCl (w0 cs a b18) H := hP
            refine xk_iinc (lv' := [(5, .int (iI (l5 + 1))), (6, .int (iI v12)), (0, .ref (a 0)), (1, .int (iI p0)), (2, .int (iI v1)), (3, .int (iI l3)), (4, .int (iI (v7 - 1)))]) hx hb dX0_breakRun_110 hl (k := 6) rfl (by decide) rfl (fun ls hl => ?_)
            refine lv_goto (tgt := 38) hx hb dX0_breakRun_113 (by decide) ?_
            exact ih38 l3 (l5 + 1) b18 hf _ _ hP hS ls (lv_sub hl [2, 3, 4, 5, 6, 0] rfl)
        · have hf := c14f c14
          refine xk_iinc (lv' := [(5, .int (iI (l5 + 1))), (6, .int (iI v12)), (0, .ref (a 0)), (1, .int (iI p0)), (2, .int (iI v1)), (3, .int (iI l3)), (4, .int (iI (v7 - 1)))]) hx hb dX0_breakRun_110 hl (k := 6) rfl (by decide) rfl (fun ls hl => ?_)
          refine lv_goto (tgt := 38) hx hb dX0_breakRun_113 (by decide) ?_
          exact ih38 l3 (l5 + 1) b8 hf _ _ hP hS ls (lv_sub hl [2, 3, 4, 5, 6, 0] rfl)
      · have hf := c11f c11
        obtain rfl := Option.some.inj hf
        exact xe_wv hx hb hr hlocks hS hP dX0_breakRun_116
  exact hL38  xFU v3 0 b4 hf _ _ hP hS ls (lv_sub hl [4, 5, 3, 2, 1, 0] rfl)
theorem cdX0_breakRun : yX0_breakRun.cls = RX0 ∧ yX0_breakRun.cls ≠ "java/lang/invoke/MethodHandle" ∧ yX0_breakRun.cls ≠ "java/lang/invoke/VarHandle" ∧ (parseMethodDescriptor yX0_breakRun.desc).map (fun d => d.parameters.length) = some 1 := by decide +kernel

set_option maxHeartbeats 4000000 in
set_option maxRecDepth 100000 in
theorem c0_breakRuns (l : Launch) (dC : Nat → ClassId) (dI : Nat → Nat → Nat) (cs : Nat → ClassId) (a : Nat → Nat) (sz : Nat) (b : BoatS) (p0 : Int) (res : Int × BoatS) (hf : f0_breakRuns b p0 = some res) : Met l yX0_breakRuns wsX0_breakRuns ({ frames := 4, cells := 0, slots := 0, locals := 92 } : Room) (va_Pc [.ref (a 0), .int (iI p0)] (xPW (dC, dI) vwCl (w0 cs a b) (xT cs) sz)) (xQi (dC, dI) vwCl (w0 cs a b) (w0 cs a res.2) sz res.1) 0 0 (va_A (w0 cs a b) sz) := by
  refine Met.ofW (cc := cX0_breakRuns) (maxL := 5) (ret := (some .int)) (by decide) rfl ?_
  intro p e s m args below meth c s₁ B hml hv
  obtain ⟨rfl, hsz, hP, hK, hD0⟩ := hv
  have hx := B.exec
  have hb := B.bytes
  have hr := B.returns
  have hts := atoms_spec (ws := wsX0_breakRuns) B.pre
  have hown : s.vm.findClass RX0 = some m.cls := findClass_of_methodNamed B.named
  have hlocks := B.notSynchronized
  have hin0 : ∀ w ∈ wsX00, w ∈ wsX0_breakRuns := by decide +kernel
  subst hsz
  have hD := hD0.self (sz := s.heap.size)
  have hA : ∀ z9 : Nat, s.heap.size ≤ z9 → va_A (w0 cs a b) s.heap.size z9 := fun z9 h => Or.inr h
  have hS : va_S (va_A (w0 cs a b) s.heap.size) s.heap s.heap [] := va_S.rf
  have hl := lv_entry [.ref (a 0), .int (iI p0)] (n := 5) (Nat.le_of_ble_eq_true rfl)
  rw [lg_entry_eq]
  generalize (lg_sl [.ref (a 0), .int (iI p0)] ++ List.replicate (5 - (lg_sl [.ref (a 0), .int (iI p0)]).length) Slot.unset).toArray = ls at hl ⊢
  have hl : lv_has ls 5 [(0, .ref (a 0)), (1, .int (iI p0))] := hl
  unfold f0_breakRuns at hf
  refine lv_aload_n hx hb dX0_breakRuns_0 rfl (lv_at hl 0 rfl) ?_
  refine va_get (D := (dC, dI)) (ci := 0) (v := .ref (a 5)) (C := RX0) (T := TX0) (N := 14) hx hb hts hin0 hown hK hP 0 rfl rfl 5 (by decide) (hts (.fieldLink RX0 36 "BoatRuns$Boat" "floats" "LBoatRuns$Row;") (by decide +kernel)) (fun _ h9 => h9) rfl dX0_breakRuns_1 ?_
  obtain ⟨v1, ev1, hf⟩ := x_bind hf
  refine xc_ri (As := []) (rest := []) ⟨hx, hb, hml, hown, hts⟩ (c2_size l dC dI cs (a 5) (a 12) 120 (g0_flts b) (by decide) _ ev1) (cwV 0 hts gX0_breakRuns_X2_size rfl rfl rfl cdX2_size ⟨Nat.le_of_ble_eq_true rfl, Nat.le_of_ble_eq_true rfl⟩) hK hP [5, 12] rfl 5 rfl rfl rfl hl.1 rfl (Nat.le_of_ble_eq_true rfl) dX0_breakRuns_4 ⟨Nat.zero_le _, Nat.zero_le _⟩ ?_
  refine lv_istore_n (lv' := [(2, .int (iI v1)), (0, .ref (a 0)), (1, .int (iI p0))]) hx hb dX0_breakRuns_7 rfl hl (by decide) rfl (fun ls hl => ?_)
  refine xk_iconst hx hb dX0_breakRuns_8 ?_
  refine lv_istore_n (lv' := [(3, .int (iI 0)), (2, .int (iI v1)), (0, .ref (a 0)), (1, .int (iI p0))]) hx hb dX0_breakRuns_9 rfl hl (by decide) rfl (fun ls hl => ?_)
  refine xk_iconst hx hb dX0_breakRuns_10 ?_
  refine lv_istore (lv' := [(4, .int (iI 0)), (3, .int (iI 0)), (2, .int (iI v1)), (0, .ref (a 0)), (1, .int (iI p0))]) hx hb dX0_breakRuns_11 hl (by decide) rfl (fun ls hl => ?_)
  have hL13 : ∀ (n3 : Nat) (l3 : Int) (l4 : Int) (b2 : BoatS), f0_breakRuns_L13 p0 v1 n3 l3 l4 b2 = some res → ∀ (H : Heap) (locs : List Loc), va_P (dC, dI) vwCl (w0 cs a b2) H → va_S (va_A (w0 cs a b) s.heap.size) s.heap H locs → ∀ (ls : Array Slot), lv_has ls 5 [(0, .ref (a 0)), (1, .int (iI p0)), (2, .int (iI v1)), (3, .int (iI l3)), (4, .int (iI l4))] → W p l e (headSpec wsX0_breakRuns ({ frames := 4, cells := 0, slots := 0, locals := 92 } : Room)).room s m ([.ref (a 0), .int (iI p0)] : List Value).toArray below meth c H locs 0 0 (MQ below (xQi (dC, dI) vwCl (w0 cs a b) (w0 cs a res.2) s.heap.size res.1) ([.ref (a 0), .int (iI p0)] : List Value).toArray s 0 0 (va_A (w0 cs a b) s.heap.size)) (F0 m 13 ls []) := by
    intro  n3
    induction n3 with
    | zero => intro l3 l4 b2 hf; have hf : (none : Option (Int × BoatS)) = some res := hf; cases hf
    | succ n3 ih13 =>
      intro l3 l4 b2 hf H locs hP hS ls hl
      rw [f0_breakRuns_L13] at hf
      refine lv_iload hx hb dX0_breakRuns_13 (lv_at hl 4 rfl) ?_
      refine lv_iload_n hx hb dX0_breakRuns_15 rfl (lv_at hl 2 rfl) ?_
      obtain ⟨c4a, c4b, c4t, c4f⟩ := x_ltE hf
      refine xk_icmp_ge (tgt := 88) hx hb c4a c4b dX0_breakRuns_16 (by decide) (fun c4 => ?_) (fun c4 => ?_)
      · have hf := c4t c4
        refine lv_aload_n hx hb dX0_breakRuns_19 rfl (lv_at hl 0 rfl) ?_
        refine va_get (D := (dC, dI)) (ci := 0) (v := .ref (a 6)) (C := RX0) (T := TX0) (N := 14) hx hb hts hin0 hown hK hP 0 rfl rfl 6 (by decide) (hts (.fieldLink RX0 39 "BoatRuns$Boat" "strengths" "LBoatRuns$Row;") (by decide +kernel)) (fun _ h9 => h9) rfl dX0_breakRuns_20 ?_
        refine lv_iload hx hb dX0_breakRuns_23 (lv_at hl 4 rfl) ?_
        obtain ⟨v5, ev5, hf⟩ := x_bind hf
        refine xc_ri (As := [.int (iI l4)]) (rest := []) ⟨hx, hb, hml, hown, hts⟩ (c2_get l dC dI cs (a 6) (a 13) 120 (g0_strs b2) l4 (by decide) _ ev5) (cwV 1 hts gX0_breakRuns_X2_get rfl rfl rfl cdX2_get ⟨Nat.le_of_ble_eq_true rfl, Nat.le_of_ble_eq_true rfl⟩) hK hP [6, 13] rfl 6 rfl rfl rfl hl.1 rfl (Nat.le_of_ble_eq_true rfl) dX0_breakRuns_25 ⟨Nat.zero_le _, Nat.zero_le _⟩ ?_
        refine lv_iload_n hx hb dX0_breakRuns_28 rfl (lv_at hl 1 rfl) ?_
        obtain ⟨c6a, c6b, c6t, c6f⟩ := x_ltE hf
        refine xk_icmp_ge (tgt := 58) hx hb c6a c6b dX0_breakRuns_29 (by decide) (fun c6 => ?_) (fun c6 => ?_)
        · have hf := c6t c6
          refine lv_aload_n hx hb dX0_breakRuns_32 rfl (lv_at hl 0 rfl) ?_
          refine lv_aload_n hx hb dX0_breakRuns_33 rfl (lv_at hl 0 rfl) ?_
          refine va_get (D := (dC, dI)) (ci := 0) (v := .ref (a 5)) (C := RX0) (T := TX0) (N := 14) hx hb hts hin0 hown hK hP 0 rfl rfl 5 (by decide) (hts (.fieldLink RX0 36 "BoatRuns$Boat" "floats" "LBoatRuns$Row;") (by decide +kernel)) (fun _ h9 => h9) rfl dX0_breakRuns_34 ?_
          refine lv_iload hx hb dX0_breakRuns_37 (lv_at hl 4 rfl) ?_
          obtain ⟨v7, ev7, hf⟩ := x_bind hf
          refine xc_ri (As := [.int (iI l4)]) (rest := [.ref (a 0)]) ⟨hx, hb, hml, hown, hts⟩ (c2_get l dC dI cs (a 5) (a 12) 120 (g0_flts b2) l4 (by decide) _ ev7) (cwV 1 hts gX0_breakRuns_X2_get rfl rfl rfl cdX2_get ⟨Nat.le_of_ble_eq_true rfl, Nat.le_of_ble_eq_true rfl⟩) hK hP [5, 12] rfl 5 rfl rfl rfl hl.1 rfl (Nat.le_of_ble_eq_true rfl) dX0_breakRuns_39 ⟨Nat.zero_le _, Nat.zero_le _⟩ ?_
          obtain ⟨v8, ev8, hf⟩ := x_bind hf
          refine xc_ri (As := [.int (iI v7)]) (rest := []) ⟨hx, hb, hml, hown, hts⟩ (c0_countAt l dC dI cs a b2 v7  _ ev8) (cwV 1 hts gX0_breakRuns_X0_countAt rfl rfl rfl cdX0_countAt ⟨Nat.le_of_ble_eq_true rfl, Nat.le_of_ble_eq_true rfl⟩) hK hP [0, 1, 2, 3, 4, 5, 6, 7, 8, 9, 10, 11, 12, 13, 14] rfl 0 rfl rfl rfl hl.1 rfl (Nat.le_of_ble_eq_true rfl) dX0_breakRuns_42 ⟨Nat.zero_le _, Nat.zero_le _⟩ ?_
          refine xk_iconst hx hb dX0_breakRuns_45 ?_
          obtain ⟨c9a, c9b, c9t, c9f⟩ := x_ltE hf
          refine xk_icmp_lt (tgt := 58) hx hb c9a c9b dX0_breakRuns_46 (by decide) (fun c9 => ?_) (fun c9 => ?_)
          · have hf := c9t c9
            refine lv_aload_n hx hb dX0_breakRuns_58 rfl (lv_at hl 0 rfl) ?_
            refine va_get (D := (dC, dI)) (ci := 0) (v := .ref (a 6)) (C := RX0) (T := TX0) (N := 14) hx hb hts hin0 hown hK hP 0 rfl rfl 6 (by decide) (hts (.fieldLink RX0 39 "BoatRuns$Boat" "strengths" "LBoatRuns$Row;") (by decide +kernel)) (fun _ h9 => h9) rfl dX0_breakRuns_59 ?_
            refine lv_iload hx hb dX0_breakRuns_62 (lv_at hl 4 rfl) ?_
            refine lv_aload_n hx hb dX0_breakRuns_64 rfl (lv_at hl 0 rfl) ?_
            refine va_get (D := (dC, dI)) (ci := 0) (v := .ref (a 6)) (C := RX0) (T := TX0) (N := 14) hx hb hts hin0 hown hK hP 0 rfl rfl 6 (by decide) (hts (.fieldLink RX0 39 "BoatRuns$Boat" "strengths" "LBoatRuns$Row;") (by decide +kernel)) (fun _ h9 => h9) rfl dX0_breakRuns_65 ?_
            refine lv_iload hx hb dX0_breakRuns_68 (lv_at hl 4 rfl) ?_
            obtain ⟨v10, ev10, hf⟩ := x_bind hf
            refine xc_ri (As := [.int (iI l4)]) (rest := [.int (iI l4), .ref (a 6)]) ⟨hx, hb, hml, hown, hts⟩ (c2_get l dC dI cs (a 6) (a 13) 120 (g0_strs b2) l4 (by decide) _ ev10) (cwV 1 hts gX0_breakRuns_X2_get rfl rfl rfl cdX2_get ⟨Nat.le_of_ble_eq_true rfl, Nat.le_of_ble_eq_true rfl⟩) hK hP [6, 13] rfl 6 rfl rfl rfl hl.1 rfl (Nat.le_of_ble_eq_true rfl) dX0_breakRuns_70 ⟨Nat.zero_le _, Nat.zero_le _⟩ ?_
            refine xk_iconst hx hb dX0_breakRuns_73 ?_
            refine xk_isub hx hb dX0_breakRuns_74 ?_
            refine xk_iconst hx hb dX0_breakRuns_75 ?_
            obtain ⟨v11, ev11, hf⟩ := x_bind hf
            refine xk_mmax hx hb (by rw [hml]; exact hl.1.symm) hown (hts (.methodLink RX0 141 Lib.Math.max.name) (by decide +kernel)) (hts (.static Lib.Math.max.name) (by decide +kernel)) (hts (.initialized "java/lang/Math") (by decide +kernel)) (hts (.code Lib.Math.max.name Lib.Math.max.code 2 (some .int)) (by decide +kernel)) (Nat.le_of_ble_eq_true rfl) (Nat.le_of_ble_eq_true rfl) (Nat.zero_le _) (Nat.zero_le _) ev11 dX0_breakRuns_76 ?_
            obtain ⟨r12, er12, hf⟩ := x_bind hf
            refine xc_wv (As := [.int (iI l4), .int (iI v11)]) (rest := []) ⟨hx, hb, hml, hown, hts⟩ (c2_set l dC dI cs (a 6) (a 13) _ 120 (g0_strs b2) l4 v11 (by decide) _ er12) (cwV 2 hts gX0_breakRuns_X2_set rfl rfl rfl cdX2_set ⟨Nat.le_of_ble_eq_true rfl, Nat.le_of_ble_eq_true rfl⟩) hK hP (x_addr hD rfl) hS hA [6, 13] rfl (by decide) rfl 6 rfl rfl rfl hl.1 rfl (Nat.le_of_ble_eq_true rfl) dX0_breakRuns_79 ⟨Nat.zero_le _, Nat.zero_le _⟩ (fun H locs hP hS => ?_)
            have hP : va_P (dC, dI) vwCl (w0C cs a (g0_room b2) (g0_opn b2) (g0_flo b2) (g0_cst b2) (g0_mrg b2) (g0_stm b2) (g0_brk b2) (g0_keys b2) (g0_weis b2) (g0_homs b2) (g0_ords b2) (g0_flts b2) r12 (g0_rwts b2)) H := hP
            refine xk_iinc (lv' := [(4, .int (iI (l4 + 1))), (0, .ref (a 0)), (1, .int (iI p0)), (2, .int (iI v1)), (3, .int (iI l3))]) hx hb dX0_breakRuns_82 hl (k := 4) rfl (by decide) rfl (fun ls hl => ?_)
            refine lv_goto (tgt := 13) hx hb dX0_breakRuns_85 (by decide) ?_
            exact ih13 l3 (l4 + 1) (s0_strs b2 r12) hf _ _ hP hS ls (lv_sub hl [1, 2, 3, 4, 0] rfl)
          · have hf := c9f c9
            refine lv_aload_n hx hb dX0_breakRuns_49 rfl (lv_at hl 0 rfl) ?_
            refine lv_iload hx hb dX0_breakRuns_50 (lv_at hl 4 rfl) ?_
            obtain ⟨b13, eb13, hf⟩ := x_bind hf
            refine xc_wv (As := [.int (iI l4)]) (rest := []) ⟨hx, hb, hml, hown, hts⟩ (c0_breakRun l dC dI cs a _ b2 l4  _ eb13) (cwV 1 hts gX0_breakRuns_X0_breakRun rfl rfl rfl cdX0_breakRun ⟨Nat.le_of_ble_eq_true rfl, Nat.le_of_ble_eq_true rfl⟩) hK hP (x_addr hD rfl) hS hA [0, 1, 2, 3, 4, 5, 6, 7, 8, 9, 10, 11, 12, 13, 14] rfl (by decide) rfl 0 rfl rfl rfl hl.1 rfl (Nat.le_of_ble_eq_true rfl) dX0_breakRuns_52 ⟨Nat.zero_le _, Nat.zero_le _⟩ (fun H locs hP hS => ?_)
            have hP : va_P (dC, dI) vwCl (w0 cs a b13) H := hP
            refine xk_iinc (lv' := [(3, .int (iI (l3 + 1))), (0, .ref (a 0)), (1, .int (iI p0)), (2, .int (iI v1)), (4, .int (iI l4))]) hx hb dX0_breakRuns_55 hl (k := 3) rfl (by decide) rfl (fun ls hl => ?_)
            refine lv_aload_n hx hb dX0_breakRuns_58 rfl (lv_at hl 1 rfl) ?_
            refine va_get (D := (dC, dI)) (ci := 0) (v := .ref (a 6)) (C := RX0) (T := TX0) (N := 14) hx hb hts hin0 hown hK hP 0 rfl rfl 6 (by decide) (hts (.fieldLink RX0 39 "BoatRuns$Boat" "strengths" "LBoatRuns$Row;") (by decide +kernel)) (fun _ h9 => h9) rfl dX0_breakRuns_59 ?_
            refine lv_iload hx hb dX0_breakRuns_62 (lv_at hl 4 rfl) ?_
            refine lv_aload_n hx hb dX0_breakRuns_64 rfl (lv_at hl 1 rfl) ?_
            refine va_get (D := (dC, dI)) (ci := 0) (v := .ref (a 6)) (C := RX0) (T := TX0) (N := 14) hx hb hts hin0 hown hK hP 0 rfl rfl 6 (by decide) (hts (.fieldLink RX0 39 "BoatRuns$Boat" "strengths" "LBoatRuns$Row;") (by decide +kernel)) (fun _ h9 => h9) rfl dX0_breakRuns_65 ?_
            refine lv_iload hx hb dX0_breakRuns_68 (lv_at hl 4 rfl) ?_
            obtain ⟨v14, ev14, hf⟩ := x_bind hf
            refine xc_ri (As := [.int (iI l4)]) (rest := [.int (iI l4), .ref (a 6)]) ⟨hx, hb, hml, hown, hts⟩ (c2_get l dC dI cs (a 6) (a 13) 120 (g0_strs b13) l4 (by decide) _ ev14) (cwV 1 hts gX0_breakRuns_X2_get rfl rfl rfl cdX2_get ⟨Nat.le_of_ble_eq_true rfl, Nat.le_of_ble_eq_true rfl⟩) hK hP [6, 13] rfl 6 rfl rfl rfl hl.1 rfl (Nat.le_of_ble_eq_true rfl) dX0_breakRuns_70 ⟨Nat.zero_le _, Nat.zero_le _⟩ ?_
            refine xk_iconst hx hb dX0_breakRuns_73 ?_
            refine xk_isub hx hb dX0_breakRuns_74 ?_
            refine xk_iconst hx hb dX0_breakRuns_75 ?_
            obtain ⟨v15, ev15, hf⟩ := x_bind hf
            refine xk_mmax hx hb (by rw [hml]; exact hl.1.symm) hown (hts (.methodLink RX0 141 Lib.Math.max.name) (by decide +kernel)) (hts (.static Lib.Math.max.name) (by decide +kernel)) (hts (.initialized "java/lang/Math") (by decide +kernel)) (hts (.code Lib.Math.max.name Lib.Math.max.code 2 (some .int)) (by decide +kernel)) (Nat.le_of_ble_eq_true rfl) (Nat.le_of_ble_eq_true rfl) (Nat.zero_le _) (Nat.zero_le _) ev15 dX0_breakRuns_76 ?_
            obtain ⟨r16, er16, hf⟩ := x_bind hf
            refine xc_wv (As := [.int (iI l4), .int (iI v15)]) (rest := []) ⟨hx, hb, hml, hown, hts⟩ (c2_set l dC dI cs (a 6) (a 13) _ 120 (g0_strs b13) l4 v15 (by decide) _ er16) (cwV 2 hts gX0_breakRuns_X2_set rfl rfl rfl cdX2_set ⟨Nat.le_of_ble_eq_true rfl, Nat.le_of_ble_eq_true rfl⟩) hK hP (x_addr hD rfl) hS hA [6, 13] rfl (by decide) rfl 6 rfl rfl rfl hl.1 rfl (Nat.le_of_ble_eq_true rfl) dX0_breakRuns_79 ⟨Nat.zero_le _, Nat.zero_le _⟩ (fun H locs hP hS => ?_)
            have hP : va_P (dC, dI) vwCl (w0C cs a (g0_room b13) (g0_opn b13) (g0_flo b13) (g0_cst b13) (g0_mrg b13) (g0_stm b13) (g0_brk b13) (g0_keys b13) (g0_weis b13) (g0_homs b13) (g0_ords b13) (g0_flts b13) r16 (g0_rwts b13)) H := hP
            refine xk_iinc (lv' := [(4, .int (iI (l4 + 1))), (3, .int (iI (l3 + 1))), (0, .ref (a 0)), (1, .int (iI p0)), (2, .int (iI v1))]) hx hb dX0_breakRuns_82 hl (k := 4) rfl (by decide) rfl (fun ls hl => ?_)
            refine lv_goto (tgt := 13) hx hb dX0_breakRuns_85 (by decide) ?_
            exact ih13 (l3 + 1) (l4 + 1) (s0_strs b13 r16) hf _ _ hP hS ls (lv_sub hl [2, 3, 4, 1, 0] rfl)
        · have hf := c6f c6
          refine lv_aload_n hx hb dX0_breakRuns_58 rfl (lv_at hl 0 rfl) ?_
          refine va_get (D := (dC, dI)) (ci := 0) (v := .ref (a 6)) (C := RX0) (T := TX0) (N := 14) hx hb hts hin0 hown hK hP 0 rfl rfl 6 (by decide) (hts (.fieldLink RX0 39 "BoatRuns$Boat" "strengths" "LBoatRuns$Row;") (by decide +kernel)) (fun _ h9 => h9) rfl dX0_breakRuns_59 ?_
          refine lv_iload hx hb dX0_breakRuns_62 (lv_at hl 4 rfl) ?_
          refine lv_aload_n hx hb dX0_breakRuns_64 rfl (lv_at hl 0 rfl) ?_
          refine va_get (D := (dC, dI)) (ci := 0) (v := .ref (a 6)) (C := RX0) (T := TX0) (N := 14) hx hb hts hin0 hown hK hP 0 rfl rfl 6 (by decide) (hts (.fieldLink RX0 39 "BoatRuns$Boat" "strengths" "LBoatRuns$Row;") (by decide +kernel)) (fun _ h9 => h9) rfl dX0_breakRuns_65 ?_
          refine lv_iload hx hb dX0_breakRuns_68 (lv_at hl 4 rfl) ?_
          obtain ⟨v17, ev17, hf⟩ := x_bind hf
          refine xc_ri (As := [.int (iI l4)]) (rest := [.int (iI l4), .ref (a 6)]) ⟨hx, hb, hml, hown, hts⟩ (c2_get l dC dI cs (a 6) (a 13) 120 (g0_strs b2) l4 (by decide) _ ev17) (cwV 1 hts gX0_breakRuns_X2_get rfl rfl rfl cdX2_get ⟨Nat.le_of_ble_eq_true rfl, Nat.le_of_ble_eq_true rfl⟩) hK hP [6, 13] rfl 6 rfl rfl rfl hl.1 rfl (Nat.le_of_ble_eq_true rfl) dX0_breakRuns_70 ⟨Nat.zero_le _, Nat.zero_le _⟩ ?_
          refine xk_iconst hx hb dX0_breakRuns_73 ?_
          refine xk_isub hx hb dX0_breakRuns_74 ?_
          refine xk_iconst hx hb dX0_breakRuns_75 ?_
          obtain ⟨v18, ev18, hf⟩ := x_bind hf
          refine xk_mmax hx hb (by rw [hml]; exact hl.1.symm) hown (hts (.methodLink RX0 141 Lib.Math.max.name) (by decide +kernel)) (hts (.static Lib.Math.max.name) (by decide +kernel)) (hts (.initialized "java/lang/Math") (by decide +kernel)) (hts (.code Lib.Math.max.name Lib.Math.max.code 2 (some .int)) (by decide +kernel)) (Nat.le_of_ble_eq_true rfl) (Nat.le_of_ble_eq_true rfl) (Nat.zero_le _) (Nat.zero_le _) ev18 dX0_breakRuns_76 ?_
          obtain ⟨r19, er19, hf⟩ := x_bind hf
          refine xc_wv (As := [.int (iI l4), .int (iI v18)]) (rest := []) ⟨hx, hb, hml, hown, hts⟩ (c2_set l dC dI cs (a 6) (a 13) _ 120 (g0_strs b2) l4 v18 (by decide) _ er19) (cwV 2 hts gX0_breakRuns_X2_set rfl rfl rfl cdX2_set ⟨Nat.le_of_ble_eq_true rfl, Nat.le_of_ble_eq_true rfl⟩) hK hP (x_addr hD rfl) hS hA [6, 13] rfl (by decide) rfl 6 rfl rfl rfl hl.1 rfl (Nat.le_of_ble_eq_true rfl) dX0_breakRuns_79 ⟨Nat.zero_le _, Nat.zero_le _⟩ (fun H locs hP hS => ?_)
          have hP : va_P (dC, dI) vwCl (w0C cs a (g0_room b2) (g0_opn b2) (g0_flo b2) (g0_cst b2) (g0_mrg b2) (g0_stm b2) (g0_brk b2) (g0_keys b2) (g0_weis b2) (g0_homs b2) (g0_ords b2) (g0_flts b2) r19 (g0_rwts b2)) H := hP
          refine xk_iinc (lv' := [(4, .int (iI (l4 + 1))), (0, .ref (a 0)), (1, .int (iI p0)), (2, .int (iI v1)), (3, .int (iI l3))]) hx hb dX0_breakRuns_82 hl (k := 4) rfl (by decide) rfl (fun ls hl => ?_)
          refine lv_goto (tgt := 13) hx hb dX0_breakRuns_85 (by decide) ?_
          exact ih13 l3 (l4 + 1) (s0_strs b2 r19) hf _ _ hP hS ls (lv_sub hl [1, 2, 3, 4, 0] rfl)
      · have hf := c4f c4
        refine lv_aload_n hx hb dX0_breakRuns_88 rfl (lv_at hl 0 rfl) ?_
        refine xk_iconst hx hb dX0_breakRuns_89 ?_
        refine va_put (D := (dC, dI)) (ci := 0) (v := .int (iI (-1))) (ty := .int) (C := RX0) (T := TX0) (N := 14) hx hb hts hin0 tyX0 tyX0_ok nmX0 hown hK hP (x_addr hD rfl) hS 0 rfl rfl 8 (by decide) (hts (.fieldLink RX0 15 "BoatRuns$Boat" "open" "I") (by decide +kernel)) (fun _ h9 => h9) rfl (by decide +kernel) rfl rfl (Nat.le_of_ble_eq_true rfl) dX0_breakRuns_90 (fun H locs hP _ hS => ?_)
        have hP : va_P (dC, dI) vwCl (w0C cs a (g0_room b2) (-1) (g0_flo b2) (g0_cst b2) (g0_mrg b2) (g0_stm b2) (g0_brk b2) (g0_keys b2) (g0_weis b2) (g0_homs b2) (g0_ords b2) (g0_flts b2) (g0_strs b2) (g0_rwts b2)) H := hP
        refine lv_aload_n hx hb dX0_breakRuns_93 rfl (lv_at hl 0 rfl) ?_
        refine lv_dup hx hb dX0_breakRuns_94 rfl ?_
        refine va_get (D := (dC, dI)) (ci := 0) (v := .int (iI (g0_stm b2))) (C := RX0) (T := TX0) (N := 14) hx hb hts hin0 hown hK hP 0 rfl rfl 12 (by decide) (hts (.fieldLink RX0 57 "BoatRuns$Boat" "storms" "I") (by decide +kernel)) (fun _ h9 => h9) rfl dX0_breakRuns_95 ?_
        refine xk_iconst hx hb dX0_breakRuns_98 ?_
        refine xk_iadd hx hb dX0_breakRuns_99 ?_
        refine va_put (D := (dC, dI)) (ci := 0) (v := .int (iI (g0_stm b2 + 1))) (ty := .int) (C := RX0) (T := TX0) (N := 14) hx hb hts hin0 tyX0 tyX0_ok nmX0 hown hK hP (x_addr hD rfl) hS 0 rfl rfl 12 (by decide) (hts (.fieldLink RX0 57 "BoatRuns$Boat" "storms" "I") (by decide +kernel)) (fun _ h9 => h9) rfl (by decide +kernel) rfl rfl (Nat.le_of_ble_eq_true rfl) dX0_breakRuns_100 (fun H locs hP _ hS => ?_)
        have hP : va_P (dC, dI) vwCl (w0C cs a (g0_room b2) (-1) (g0_flo b2) (g0_cst b2) (g0_mrg b2) (g0_stm b2 + 1) (g0_brk b2) (g0_keys b2) (g0_weis b2) (g0_homs b2) (g0_ords b2) (g0_flts b2) (g0_strs b2) (g0_rwts b2)) H := hP
        refine lv_aload_n hx hb dX0_breakRuns_103 rfl (lv_at hl 0 rfl) ?_
        refine lv_dup hx hb dX0_breakRuns_104 rfl ?_
        refine va_get (D := (dC, dI)) (ci := 0) (v := .int (iI (g0_brk b2))) (C := RX0) (T := TX0) (N := 14) hx hb hts hin0 hown hK hP 0 rfl rfl 13 (by decide) (hts (.fieldLink RX0 60 "BoatRuns$Boat" "broken" "I") (by decide +kernel)) (fun _ h9 => h9) rfl dX0_breakRuns_105 ?_
        refine lv_iload_n hx hb dX0_breakRuns_108 rfl (lv_at hl 3 rfl) ?_
        refine xk_iadd hx hb dX0_breakRuns_109 ?_
        refine va_put (D := (dC, dI)) (ci := 0) (v := .int (iI (g0_brk b2 + l3))) (ty := .int) (C := RX0) (T := TX0) (N := 14) hx hb hts hin0 tyX0 tyX0_ok nmX0 hown hK hP (x_addr hD rfl) hS 0 rfl rfl 13 (by decide) (hts (.fieldLink RX0 60 "BoatRuns$Boat" "broken" "I") (by decide +kernel)) (fun _ h9 => h9) rfl (by decide +kernel) rfl rfl (Nat.le_of_ble_eq_true rfl) dX0_breakRuns_110 (fun H locs hP _ hS => ?_)
        have hP : va_P (dC, dI) vwCl (w0C cs a (g0_room b2) (-1) (g0_flo b2) (g0_cst b2) (g0_mrg b2) (g0_stm b2 + 1) (g0_brk b2 + l3) (g0_keys b2) (g0_weis b2) (g0_homs b2) (g0_ords b2) (g0_flts b2) (g0_strs b2) (g0_rwts b2)) H := hP
        refine lv_iload_n hx hb dX0_breakRuns_113 rfl (lv_at hl 3 rfl) ?_
        obtain rfl := Option.some.inj hf
        exact xe_wi hx hb hr hlocks hS hP dX0_breakRuns_114
  exact hL13  xFU 0 0 b hf _ _ hP hS ls (lv_sub hl [3, 4, 2, 1, 0] rfl)
theorem cdX0_breakRuns : yX0_breakRuns.cls = RX0 ∧ yX0_breakRuns.cls ≠ "java/lang/invoke/MethodHandle" ∧ yX0_breakRuns.cls ≠ "java/lang/invoke/VarHandle" ∧ (parseMethodDescriptor yX0_breakRuns.desc).map (fun d => d.parameters.length) = some 1 := by decide +kernel

set_option maxHeartbeats 4000000 in
set_option maxRecDepth 100000 in
theorem c0_strengthen (l : Launch) (dC : Nat → ClassId) (dI : Nat → Nat → Nat) (cs : Nat → ClassId) (a : Nat → Nat) (sz : Nat) (b : BoatS) (p0 : Int) (res : Int × BoatS) (hf : f0_strengthen b p0 = some res) : Met l yX0_strengthen wsX0_strengthen ({ frames := 1, cells := 0, slots := 0, locals := 22 } : Room) (va_Pc [.ref (a 0), .int (iI p0)] (xPW (dC, dI) vwCl (w0 cs a b) (xT cs) sz)) (xQi (dC, dI) vwCl (w0 cs a b) (w0 cs a res.2) sz res.1) 0 0 (va_A (w0 cs a b) sz) := by
  refine Met.ofW (cc := cX0_strengthen) (maxL := 3) (ret := (some .int)) (by decide) rfl ?_
  intro p e s m args below meth c s₁ B hml hv
  obtain ⟨rfl, hsz, hP, hK, hD0⟩ := hv
  have hx := B.exec
  have hb := B.bytes
  have hr := B.returns
  have hts := atoms_spec (ws := wsX0_strengthen) B.pre
  have hown : s.vm.findClass RX0 = some m.cls := findClass_of_methodNamed B.named
  have hlocks := B.notSynchronized
  have hin0 : ∀ w ∈ wsX00, w ∈ wsX0_strengthen := by decide +kernel
  subst hsz
  have hD := hD0.self (sz := s.heap.size)
  have hA : ∀ z9 : Nat, s.heap.size ≤ z9 → va_A (w0 cs a b) s.heap.size z9 := fun z9 h => Or.inr h
  have hS : va_S (va_A (w0 cs a b) s.heap.size) s.heap s.heap [] := va_S.rf
  have hl := lv_entry [.ref (a 0), .int (iI p0)] (n := 3) (Nat.le_of_ble_eq_true rfl)
  rw [lg_entry_eq]
  generalize (lg_sl [.ref (a 0), .int (iI p0)] ++ List.replicate (3 - (lg_sl [.ref (a 0), .int (iI p0)]).length) Slot.unset).toArray = ls at hl ⊢
  have hl : lv_has ls 3 [(0, .ref (a 0)), (1, .int (iI p0))] := hl
  unfold f0_strengthen at hf
  refine lv_aload_n hx hb dX0_strengthen_0 rfl (lv_at hl 0 rfl) ?_
  refine va_get (D := (dC, dI)) (ci := 0) (v := .ref (a 5)) (C := RX0) (T := TX0) (N := 14) hx hb hts hin0 hown hK hP 0 rfl rfl 5 (by decide) (hts (.fieldLink RX0 36 "BoatRuns$Boat" "floats" "LBoatRuns$Row;") (by decide +kernel)) (fun _ h9 => h9) rfl dX0_strengthen_1 ?_
  refine lv_iload_n hx hb dX0_strengthen_4 rfl (lv_at hl 1 rfl) ?_
  obtain ⟨v1, ev1, hf⟩ := x_bind hf
  refine xc_ri (As := [.int (iI p0)]) (rest := []) ⟨hx, hb, hml, hown, hts⟩ (c2_indexOf l dC dI cs (a 5) (a 12) 120 (g0_flts b) p0 (by decide) _ ev1) (cwV 1 hts gX0_strengthen_X2_indexOf rfl rfl rfl cdX2_indexOf ⟨Nat.le_of_ble_eq_true rfl, Nat.le_of_ble_eq_true rfl⟩) hK hP [5, 12] rfl 5 rfl rfl rfl hl.1 rfl (Nat.le_of_ble_eq_true rfl) dX0_strengthen_5 ⟨Nat.zero_le _, Nat.zero_le _⟩ ?_
  refine lv_istore_n (lv' := [(2, .int (iI v1)), (0, .ref (a 0)), (1, .int (iI p0))]) hx hb dX0_strengthen_8 rfl hl (by decide) rfl (fun ls hl => ?_)
  refine lv_aload_n hx hb dX0_strengthen_9 rfl (lv_at hl 1 rfl) ?_
  refine va_get (D := (dC, dI)) (ci := 0) (v := .ref (a 6)) (C := RX0) (T := TX0) (N := 14) hx hb hts hin0 hown hK hP 0 rfl rfl 6 (by decide) (hts (.fieldLink RX0 39 "BoatRuns$Boat" "strengths" "LBoatRuns$Row;") (by decide +kernel)) (fun _ h9 => h9) rfl dX0_strengthen_10 ?_
  refine lv_iload_n hx hb dX0_strengthen_13 rfl (lv_at hl 0 rfl) ?_
  refine lv_aload_n hx hb dX0_strengthen_14 rfl (lv_at hl 1 rfl) ?_
  refine va_get (D := (dC, dI)) (ci := 0) (v := .ref (a 6)) (C := RX0) (T := TX0) (N := 14) hx hb hts hin0 hown hK hP 0 rfl rfl 6 (by decide) (hts (.fieldLink RX0 39 "BoatRuns$Boat" "strengths" "LBoatRuns$Row;") (by decide +kernel)) (fun _ h9 => h9) rfl dX0_strengthen_15 ?_
  refine lv_iload_n hx hb dX0_strengthen_18 rfl (lv_at hl 0 rfl) ?_
  obtain ⟨v2, ev2, hf⟩ := x_bind hf
  refine xc_ri (As := [.int (iI v1)]) (rest := [.int (iI v1), .ref (a 6)]) ⟨hx, hb, hml, hown, hts⟩ (c2_get l dC dI cs (a 6) (a 13) 120 (g0_strs b) v1 (by decide) _ ev2) (cwV 1 hts gX0_strengthen_X2_get rfl rfl rfl cdX2_get ⟨Nat.le_of_ble_eq_true rfl, Nat.le_of_ble_eq_true rfl⟩) hK hP [6, 13] rfl 6 rfl rfl rfl hl.1 rfl (Nat.le_of_ble_eq_true rfl) dX0_strengthen_19 ⟨Nat.zero_le _, Nat.zero_le _⟩ ?_
  refine xk_iconst hx hb dX0_strengthen_22 ?_
  refine xk_iadd hx hb dX0_strengthen_23 ?_
  refine xk_bipush hx hb dX0_strengthen_24 (by decide) ?_
  obtain ⟨v3, ev3, hf⟩ := x_bind hf
  refine xk_mmin hx hb (by rw [hml]; exact hl.1.symm) hown (hts (.methodLink RX0 136 Lib.Math.min.name) (by decide +kernel)) (hts (.static Lib.Math.min.name) (by decide +kernel)) (hts (.initialized "java/lang/Math") (by decide +kernel)) (hts (.code Lib.Math.min.name Lib.Math.min.code 2 (some .int)) (by decide +kernel)) (Nat.le_of_ble_eq_true rfl) (Nat.le_of_ble_eq_true rfl) (Nat.zero_le _) (Nat.zero_le _) ev3 dX0_strengthen_26 ?_
  obtain ⟨r4, er4, hf⟩ := x_bind hf
  refine xc_wv (As := [.int (iI v1), .int (iI v3)]) (rest := []) ⟨hx, hb, hml, hown, hts⟩ (c2_set l dC dI cs (a 6) (a 13) _ 120 (g0_strs b) v1 v3 (by decide) _ er4) (cwV 2 hts gX0_strengthen_X2_set rfl rfl rfl cdX2_set ⟨Nat.le_of_ble_eq_true rfl, Nat.le_of_ble_eq_true rfl⟩) hK hP (x_addr hD rfl) hS hA [6, 13] rfl (by decide) rfl 6 rfl rfl rfl hl.1 rfl (Nat.le_of_ble_eq_true rfl) dX0_strengthen_29 ⟨Nat.zero_le _, Nat.zero_le _⟩ (fun H locs hP hS => ?_)
  have hP : va_P (dC, dI) vwCl (w0C cs a (g0_room b) (g0_opn b) (g0_flo b) (g0_cst b) (g0_mrg b) (g0_stm b) (g0_brk b) (g0_keys b) (g0_weis b) (g0_homs b) (g0_ords b) (g0_flts b) r4 (g0_rwts b)) H := hP
  refine lv_aload_n hx hb dX0_strengthen_32 rfl (lv_at hl 1 rfl) ?_
  refine va_get (D := (dC, dI)) (ci := 0) (v := .ref (a 6)) (C := RX0) (T := TX0) (N := 14) hx hb hts hin0 hown hK hP 0 rfl rfl 6 (by decide) (hts (.fieldLink RX0 39 "BoatRuns$Boat" "strengths" "LBoatRuns$Row;") (by decide +kernel)) (fun _ h9 => h9) rfl dX0_strengthen_33 ?_
  refine lv_iload_n hx hb dX0_strengthen_36 rfl (lv_at hl 0 rfl) ?_
  obtain ⟨v5, ev5, hf⟩ := x_bind hf
  refine xc_ri (As := [.int (iI v1)]) (rest := []) ⟨hx, hb, hml, hown, hts⟩ (c2_get l dC dI cs (a 6) (a 13) 120 r4 v1 (by decide) _ ev5) (cwV 1 hts gX0_strengthen_X2_get rfl rfl rfl cdX2_get ⟨Nat.le_of_ble_eq_true rfl, Nat.le_of_ble_eq_true rfl⟩) hK hP [6, 13] rfl 6 rfl rfl rfl hl.1 rfl (Nat.le_of_ble_eq_true rfl) dX0_strengthen_37 ⟨Nat.zero_le _, Nat.zero_le _⟩ ?_
  obtain rfl := Option.some.inj hf
  exact xe_wi hx hb hr hlocks hS hP dX0_strengthen_40
theorem cdX0_strengthen : yX0_strengthen.cls = RX0 ∧ yX0_strengthen.cls ≠ "java/lang/invoke/MethodHandle" ∧ yX0_strengthen.cls ≠ "java/lang/invoke/VarHandle" ∧ (parseMethodDescriptor yX0_strengthen.desc).map (fun d => d.parameters.length) = some 1 := by decide +kernel

set_option maxHeartbeats 4000000 in
set_option maxRecDepth 100000 in
theorem c3_readOrders (l : Launch) (dC : Nat → ClassId) (dI : Nat → Nat → Nat) (cs : Nat → ClassId) (a : Nat → Nat) (sz : Nat) (t : TextS) (res : Int × TextS) (hf : f3_readOrders t = some res) : Met l yX3_readOrders wsX3_readOrders ({ frames := 5, cells := 0, slots := 0, locals := 110 } : Room) (va_Pc [.ref (a 0)] (xPW (dC, dI) vwCl (w3 cs a t) (xT cs) sz)) (xQi (dC, dI) vwCl (w3 cs a t) (w3 cs a res.2) sz res.1) 0 0 (va_A (w3 cs a t) sz) := by
  refine Met.ofW (cc := cX3_readOrders) (maxL := 2) (ret := (some .int)) (by decide) rfl ?_
  intro p e s m args below meth c s₁ B hml hv
  obtain ⟨rfl, hsz, hP, hK, hD0⟩ := hv
  have hx := B.exec
  have hb := B.bytes
  have hr := B.returns
  have hts := atoms_spec (ws := wsX3_readOrders) B.pre
  have hown : s.vm.findClass RX3 = some m.cls := findClass_of_methodNamed B.named
  have hlocks := B.notSynchronized
  have hin3 : ∀ w ∈ wsX30, w ∈ wsX3_readOrders := by decide +kernel
  subst hsz
  have hD := hD0.self (sz := s.heap.size)
  have hA : ∀ z9 : Nat, s.heap.size ≤ z9 → va_A (w3 cs a t) s.heap.size z9 := fun z9 h => Or.inr h
  have hS : va_S (va_A (w3 cs a t) s.heap.size) s.heap s.heap [] := va_S.rf
  have hl := lv_entry [.ref (a 0)] (n := 2) (Nat.le_of_ble_eq_true rfl)
  rw [lg_entry_eq]
  generalize (lg_sl [.ref (a 0)] ++ List.replicate (2 - (lg_sl [.ref (a 0)]).length) Slot.unset).toArray = ls at hl ⊢
  have hl : lv_has ls 2 [(0, .ref (a 0))] := hl
  unfold f3_readOrders at hf
  refine lv_aload_n hx hb dX3_readOrders_0 rfl (lv_at hl 0 rfl) ?_
  refine va_get (D := (dC, dI)) (ci := 3) (v := .ref (a 2)) (C := RX3) (T := TX3) (N := 6) hx hb hts hin3 hown hK hP 0 rfl rfl 1 (by decide) (hts (.fieldLink RX3 20 "BoatRuns$Text" "kinds" "LBoatRuns$Row;") (by decide +kernel)) (fun _ h9 => h9) rfl dX3_readOrders_1 ?_
  obtain ⟨r1, er1, hf⟩ := x_bind hf
  refine xc_wv (As := []) (rest := []) ⟨hx, hb, hml, hown, hts⟩ (c2_clear l dC dI cs (a 2) (a 6) _ 50 (g3_knds t) (by decide) _ er1) (cwV 0 hts gX3_readOrders_X2_clear rfl rfl rfl cdX2_clear ⟨Nat.le_of_ble_eq_true rfl, Nat.le_of_ble_eq_true rfl⟩) hK hP (x_addr hD rfl) hS hA [2, 6] rfl (by decide) rfl 2 rfl rfl rfl hl.1 rfl (Nat.le_of_ble_eq_true rfl) dX3_readOrders_4 ⟨Nat.zero_le _, Nat.zero_le _⟩ (fun H locs hP hS => ?_)
  have hP : va_P (dC, dI) vwCl (w3C cs a (g3_pos t) (g3_err t) (g3_byts t) r1 (g3_fsts t) (g3_snds t)) H := hP
  refine lv_aload_n hx hb dX3_readOrders_7 rfl (lv_at hl 0 rfl) ?_
  refine va_get (D := (dC, dI)) (ci := 3) (v := .ref (a 3)) (C := RX3) (T := TX3) (N := 6) hx hb hts hin3 hown hK hP 0 rfl rfl 2 (by decide) (hts (.fieldLink RX3 23 "BoatRuns$Text" "firsts" "LBoatRuns$Row;") (by decide +kernel)) (fun _ h9 => h9) rfl dX3_readOrders_8 ?_
  obtain ⟨r2, er2, hf⟩ := x_bind hf
  refine xc_wv (As := []) (rest := []) ⟨hx, hb, hml, hown, hts⟩ (c2_clear l dC dI cs (a 3) (a 7) _ 50 (g3_fsts t) (by decide) _ er2) (cwV 0 hts gX3_readOrders_X2_clear rfl rfl rfl cdX2_clear ⟨Nat.le_of_ble_eq_true rfl, Nat.le_of_ble_eq_true rfl⟩) hK hP (x_addr hD rfl) hS hA [3, 7] rfl (by decide) rfl 3 rfl rfl rfl hl.1 rfl (Nat.le_of_ble_eq_true rfl) dX3_readOrders_11 ⟨Nat.zero_le _, Nat.zero_le _⟩ (fun H locs hP hS => ?_)
  have hP : va_P (dC, dI) vwCl (w3C cs a (g3_pos t) (g3_err t) (g3_byts t) r1 r2 (g3_snds t)) H := hP
  refine lv_aload_n hx hb dX3_readOrders_14 rfl (lv_at hl 0 rfl) ?_
  refine va_get (D := (dC, dI)) (ci := 3) (v := .ref (a 4)) (C := RX3) (T := TX3) (N := 6) hx hb hts hin3 hown hK hP 0 rfl rfl 3 (by decide) (hts (.fieldLink RX3 26 "BoatRuns$Text" "seconds" "LBoatRuns$Row;") (by decide +kernel)) (fun _ h9 => h9) rfl dX3_readOrders_15 ?_
  obtain ⟨r3, er3, hf⟩ := x_bind hf
  refine xc_wv (As := []) (rest := []) ⟨hx, hb, hml, hown, hts⟩ (c2_clear l dC dI cs (a 4) (a 8) _ 50 (g3_snds t) (by decide) _ er3) (cwV 0 hts gX3_readOrders_X2_clear rfl rfl rfl cdX2_clear ⟨Nat.le_of_ble_eq_true rfl, Nat.le_of_ble_eq_true rfl⟩) hK hP (x_addr hD rfl) hS hA [4, 8] rfl (by decide) rfl 4 rfl rfl rfl hl.1 rfl (Nat.le_of_ble_eq_true rfl) dX3_readOrders_18 ⟨Nat.zero_le _, Nat.zero_le _⟩ (fun H locs hP hS => ?_)
  have hP : va_P (dC, dI) vwCl (w3C cs a (g3_pos t) (g3_err t) (g3_byts t) r1 r2 r3) H := hP
  refine lv_aload_n hx hb dX3_readOrders_21 rfl (lv_at hl 0 rfl) ?_
  refine xk_iconst hx hb dX3_readOrders_22 ?_
  refine va_put (D := (dC, dI)) (ci := 3) (v := .int (iI 0)) (ty := .int) (C := RX3) (T := TX3) (N := 6) hx hb hts hin3 tyX3 tyX3_ok nmX3 hown hK hP (x_addr hD rfl) hS 0 rfl rfl 4 (by decide) (hts (.fieldLink RX3 47 "BoatRuns$Text" "at" "I") (by decide +kernel)) (fun _ h9 => h9) rfl (by decide +kernel) rfl rfl (Nat.le_of_ble_eq_true rfl) dX3_readOrders_23 (fun H locs hP _ hS => ?_)
  have hP : va_P (dC, dI) vwCl (w3C cs a 0 (g3_err t) (g3_byts t) r1 r2 r3) H := hP
  refine lv_aload_n hx hb dX3_readOrders_26 rfl (lv_at hl 0 rfl) ?_
  refine xk_iconst hx hb dX3_readOrders_27 ?_
  refine va_put (D := (dC, dI)) (ci := 3) (v := .int (iI (-1))) (ty := .int) (C := RX3) (T := TX3) (N := 6) hx hb hts hin3 tyX3 tyX3_ok nmX3 hown hK hP (x_addr hD rfl) hS 0 rfl rfl 5 (by decide) (hts (.fieldLink RX3 29 "BoatRuns$Text" "error" "I") (by decide +kernel)) (fun _ h9 => h9) rfl (by decide +kernel) rfl rfl (Nat.le_of_ble_eq_true rfl) dX3_readOrders_28 (fun H locs hP _ hS => ?_)
  have hP : va_P (dC, dI) vwCl (w3C cs a 0 (-1) (g3_byts t) r1 r2 r3) H := hP
  refine xk_iconst hx hb dX3_readOrders_31 ?_
  refine lv_istore_n (lv' := [(1, .int (iI 0)), (0, .ref (a 0))]) hx hb dX3_readOrders_32 rfl hl (by decide) rfl (fun ls hl => ?_)
  have hL33 : ∀ (n5 : Nat) (l1 : Int) (t4 : TextS), f3_readOrders_L33  n5 l1 t4 = some res → ∀ (H : Heap) (locs : List Loc), va_P (dC, dI) vwCl (w3 cs a t4) H → va_S (va_A (w3 cs a t) s.heap.size) s.heap H locs → ∀ (ls : Array Slot), lv_has ls 2 [(0, .ref (a 0)), (1, .int (iI l1))] → W p l e (headSpec wsX3_readOrders ({ frames := 5, cells := 0, slots := 0, locals := 110 } : Room)).room s m ([.ref (a 0)] : List Value).toArray below meth c H locs 0 0 (MQ below (xQi (dC, dI) vwCl (w3 cs a t) (w3 cs a res.2) s.heap.size res.1) ([.ref (a 0)] : List Value).toArray s 0 0 (va_A (w3 cs a t) s.heap.size)) (F0 m 33 ls []) := by
    intro  n5
    induction n5 with
    | zero => intro l1 t4 hf; have hf : (none : Option (Int × TextS)) = some res := hf; cases hf
    | succ n5 ih33 =>
      intro l1 t4 hf H locs hP hS ls hl
      rw [f3_readOrders_L33] at hf
      refine lv_iload_n hx hb dX3_readOrders_33 rfl (lv_at hl 1 rfl) ?_
      refine xk_bipush hx hb dX3_readOrders_34 (by decide) ?_
      obtain ⟨c6a, c6b, c6t, c6f⟩ := x_ltE hf
      refine xk_icmp_ge (tgt := 71) hx hb c6a c6b dX3_readOrders_36 (by decide) (fun c6 => ?_) (fun c6 => ?_)
      · have hf := c6t c6
        refine lv_aload_n hx hb dX3_readOrders_39 rfl (lv_at hl 0 rfl) ?_
        refine va_get (D := (dC, dI)) (ci := 3) (v := .int (iI (g3_err t4))) (C := RX3) (T := TX3) (N := 6) hx hb hts hin3 hown hK hP 0 rfl rfl 5 (by decide) (hts (.fieldLink RX3 29 "BoatRuns$Text" "error" "I") (by decide +kernel)) (fun _ h9 => h9) rfl dX3_readOrders_40 ?_
        refine xk_iconst hx hb dX3_readOrders_43 ?_
        obtain ⟨c7a, c7b, c7t, c7f⟩ := x_eqE hf
        refine xk_icmp_ne (tgt := 71) hx hb c7a c7b dX3_readOrders_44 (by decide) (fun c7 => ?_) (fun c7 => ?_)
        · have hf := c7t c7
          refine lv_aload_n hx hb dX3_readOrders_47 rfl (lv_at hl 0 rfl) ?_
          refine va_get (D := (dC, dI)) (ci := 3) (v := .int (iI (g3_pos t4))) (C := RX3) (T := TX3) (N := 6) hx hb hts hin3 hown hK hP 0 rfl rfl 4 (by decide) (hts (.fieldLink RX3 47 "BoatRuns$Text" "at" "I") (by decide +kernel)) (fun _ h9 => h9) rfl dX3_readOrders_48 ?_
          refine lv_aload_n hx hb dX3_readOrders_51 rfl (lv_at hl 0 rfl) ?_
          refine va_get (D := (dC, dI)) (ci := 3) (v := .ref (a 1)) (C := RX3) (T := TX3) (N := 6) hx hb hts hin3 hown hK hP 0 rfl rfl 0 (by decide) (hts (.fieldLink RX3 14 "BoatRuns$Text" "bytes" "LBoatRuns$Row;") (by decide +kernel)) (fun _ h9 => h9) rfl dX3_readOrders_52 ?_
          obtain ⟨v8, ev8, hf⟩ := x_bind hf
          refine xc_ri (As := []) (rest := [.int (iI (g3_pos t4))]) ⟨hx, hb, hml, hown, hts⟩ (c2_size l dC dI cs (a 1) (a 5) 100 (g3_byts t4) (by decide) _ ev8) (cwV 0 hts gX3_readOrders_X2_size rfl rfl rfl cdX2_size ⟨Nat.le_of_ble_eq_true rfl, Nat.le_of_ble_eq_true rfl⟩) hK hP [1, 5] rfl 1 rfl rfl rfl hl.1 rfl (Nat.le_of_ble_eq_true rfl) dX3_readOrders_55 ⟨Nat.zero_le _, Nat.zero_le _⟩ ?_
          obtain ⟨c9a, c9b, c9t, c9f⟩ := x_ltE hf
          refine xk_icmp_ge (tgt := 71) hx hb c9a c9b dX3_readOrders_58 (by decide) (fun c9 => ?_) (fun c9 => ?_)
          · have hf := c9t c9
            refine lv_aload_n hx hb dX3_readOrders_61 rfl (lv_at hl 0 rfl) ?_
            obtain ⟨t10, et10, hf⟩ := x_bind hf
            refine xc_wv (As := []) (rest := []) ⟨hx, hb, hml, hown, hts⟩ (c3_readOrder l dC dI cs a _ t4  _ et10) (cwV 0 hts gX3_readOrders_X3_readOrder rfl rfl rfl cdX3_readOrder ⟨Nat.le_of_ble_eq_true rfl, Nat.le_of_ble_eq_true rfl⟩) hK hP (x_addr hD rfl) hS hA [0, 1, 2, 3, 4, 5, 6, 7, 8] rfl (by decide) rfl 0 rfl rfl rfl hl.1 rfl (Nat.le_of_ble_eq_true rfl) dX3_readOrders_62 ⟨Nat.zero_le _, Nat.zero_le _⟩ (fun H locs hP hS => ?_)
            have hP : va_P (dC, dI) vwCl (w3 cs a t10) H := hP
            refine xk_iinc (lv' := [(1, .int (iI (l1 + 1))), (0, .ref (a 0))]) hx hb dX3_readOrders_65 hl (k := 1) rfl (by decide) rfl (fun ls hl => ?_)
            refine lv_goto (tgt := 33) hx hb dX3_readOrders_68 (by decide) ?_
            exact ih33 (l1 + 1) t10 hf _ _ hP hS ls (lv_sub hl [1, 0] rfl)
          · have hf := c9f c9
            refine lv_aload_n hx hb dX3_readOrders_71 rfl (lv_at hl 0 rfl) ?_
            refine va_get (D := (dC, dI)) (ci := 3) (v := .int (iI (g3_err t4))) (C := RX3) (T := TX3) (N := 6) hx hb hts hin3 hown hK hP 0 rfl rfl 5 (by decide) (hts (.fieldLink RX3 29 "BoatRuns$Text" "error" "I") (by decide +kernel)) (fun _ h9 => h9) rfl dX3_readOrders_72 ?_
            obtain rfl := Option.some.inj hf
            exact xe_wi hx hb hr hlocks hS hP dX3_readOrders_75
        · have hf := c7f c7
          refine lv_aload_n hx hb dX3_readOrders_71 rfl (lv_at hl 0 rfl) ?_
          refine va_get (D := (dC, dI)) (ci := 3) (v := .int (iI (g3_err t4))) (C := RX3) (T := TX3) (N := 6) hx hb hts hin3 hown hK hP 0 rfl rfl 5 (by decide) (hts (.fieldLink RX3 29 "BoatRuns$Text" "error" "I") (by decide +kernel)) (fun _ h9 => h9) rfl dX3_readOrders_72 ?_
          obtain rfl := Option.some.inj hf
          exact xe_wi hx hb hr hlocks hS hP dX3_readOrders_75
      · have hf := c6f c6
        refine lv_aload_n hx hb dX3_readOrders_71 rfl (lv_at hl 0 rfl) ?_
        refine va_get (D := (dC, dI)) (ci := 3) (v := .int (iI (g3_err t4))) (C := RX3) (T := TX3) (N := 6) hx hb hts hin3 hown hK hP 0 rfl rfl 5 (by decide) (hts (.fieldLink RX3 29 "BoatRuns$Text" "error" "I") (by decide +kernel)) (fun _ h9 => h9) rfl dX3_readOrders_72 ?_
        obtain rfl := Option.some.inj hf
        exact xe_wi hx hb hr hlocks hS hP dX3_readOrders_75
  exact hL33  xFU 0 (s3_err (s3_pos (s3_snds (s3_fsts (s3_knds t r1) r2) r3) 0) (-1)) hf _ _ hP hS ls (lv_sub hl [1, 0] rfl)
theorem cdX3_readOrders : yX3_readOrders.cls = RX3 ∧ yX3_readOrders.cls ≠ "java/lang/invoke/MethodHandle" ∧ yX3_readOrders.cls ≠ "java/lang/invoke/VarHandle" ∧ (parseMethodDescriptor yX3_readOrders.desc).map (fun d => d.parameters.length) = some 0 := by decide +kernel

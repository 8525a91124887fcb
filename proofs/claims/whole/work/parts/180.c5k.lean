set_option maxHeartbeats 4000000 in
set_option maxRecDepth 100000 in
theorem c5_wrong (l : Launch) (dC : Nat → ClassId) (dI : Nat → Nat → Nat) (cs : Nat → ClassId) (a : Nat → Nat) (sz : Nat) (x : ModS) (p0 : Int) (res : ModS) (hf : f5_wrong x p0 = some res) : Met l yX5_wrong wsX5_wrong ({ frames := 0, cells := 0, slots := 0, locals := 0 } : Room) (va_Pc [.ref (a 0), .int (iI p0)] (xPW (dC, dI) vwCl (w5 cs a x) (xT cs) sz)) (xQv (dC, dI) vwCl (w5 cs a x) (w5 cs a res) sz) 0 0 (va_A (w5 cs a x) sz) := by
  refine Met.ofW (cc := cX5_wrong) (maxL := 2) (ret := none) (by decide) rfl ?_
  intro p e s m args below meth c s₁ B hml hv
  obtain ⟨rfl, hsz, hP, hK, hD0⟩ := hv
  have hx := B.exec
  have hb := B.bytes
  have hr := B.returns
  have hts := atoms_spec (ws := wsX5_wrong) B.pre
  have hown : s.vm.findClass RX5 = some m.cls := findClass_of_methodNamed B.named
  have hlocks := B.notSynchronized
  have hin5 : ∀ w ∈ wsX50, w ∈ wsX5_wrong := by decide +kernel
  subst hsz
  have hD := hD0.self (sz := s.heap.size)
  have hA : ∀ z9 : Nat, s.heap.size ≤ z9 → va_A (w5 cs a x) s.heap.size z9 := fun z9 h => Or.inr h
  have hS : va_S (va_A (w5 cs a x) s.heap.size) s.heap s.heap [] := va_S.rf
  have hl := lv_entry [.ref (a 0), .int (iI p0)] (n := 2) (Nat.le_of_ble_eq_true rfl)
  rw [lg_entry_eq]
  generalize (lg_sl [.ref (a 0), .int (iI p0)] ++ List.replicate (2 - (lg_sl [.ref (a 0), .int (iI p0)]).length) Slot.unset).toArray = ls at hl ⊢
  have hl : lv_has ls 2 [(0, .ref (a 0)), (1, .int (iI p0))] := hl
  unfold f5_wrong at hf
  refine lv_aload_n hx hb dX5_wrong_0 rfl (lv_at hl 0 rfl) ?_
  refine lv_aload_n hx hb dX5_wrong_1 rfl (lv_at hl 0 rfl) ?_
  refine va_get (D := (dC, dI)) (ci := 5) (v := .int (iI (g5_wra x))) (C := RX5) (T := TX5) (N := 13) hx hb hts hin5 hown hK hP 0 rfl rfl 11 (by decide) (hts (.fieldLink RX5 186 "BoatRunsModel" "wrongAt" "I") (by decide +kernel)) (fun _ h9 => h9) rfl dX5_wrong_2 ?_
  refine xk_iconst hx hb dX5_wrong_5 ?_
  obtain ⟨c1a, c1b, c1t, c1f⟩ := x_eqE hf
  refine xk_icmp_ne (tgt := 13) hx hb c1a c1b dX5_wrong_6 (by decide) (fun c1 => ?_) (fun c1 => ?_)
  · have hf := c1t c1
    refine lv_iload_n hx hb dX5_wrong_9 rfl (lv_at hl 1 rfl) ?_
    refine lv_goto (tgt := 17) hx hb dX5_wrong_10 (by decide) ?_
    refine va_put (D := (dC, dI)) (ci := 5) (v := .int (iI p0)) (ty := .int) (C := RX5) (T := TX5) (N := 13) hx hb hts hin5 tyX5 tyX5_ok nmX5 hown hK hP (x_addr hD rfl) hS 0 rfl rfl 11 (by decide) (hts (.fieldLink RX5 186 "BoatRunsModel" "wrongAt" "I") (by decide +kernel)) (fun _ h9 => h9) rfl (by decide +kernel) rfl rfl (Nat.le_of_ble_eq_true rfl) dX5_wrong_17 (fun H locs hP _ hS => ?_)
    have hP : va_P (dC, dI) vwCl (w5C cs a (g5_thr x) (g5_acts x) (g5_typ x) (g5_lat x) (g5_pos x) p0 (g5_now x) (g5_put x) (g5_was x) (g5_txt x) (g5_lef x) (g5_abo x) (g5_ors x)) H := hP
    obtain rfl := Option.some.inj hf
    exact xe_wv hx hb hr hlocks hS hP dX5_wrong_20
  · have hf := c1f c1
    refine lv_aload_n hx hb dX5_wrong_13 rfl (lv_at hl 0 rfl) ?_
    refine va_get (D := (dC, dI)) (ci := 5) (v := .int (iI (g5_wra x))) (C := RX5) (T := TX5) (N := 13) hx hb hts hin5 hown hK hP 0 rfl rfl 11 (by decide) (hts (.fieldLink RX5 186 "BoatRunsModel" "wrongAt" "I") (by decide +kernel)) (fun _ h9 => h9) rfl dX5_wrong_14 ?_
    refine va_put (D := (dC, dI)) (ci := 5) (v := .int (iI (g5_wra x))) (ty := .int) (C := RX5) (T := TX5) (N := 13) hx hb hts hin5 tyX5 tyX5_ok nmX5 hown hK hP (x_addr hD rfl) hS 0 rfl rfl 11 (by decide) (hts (.fieldLink RX5 186 "BoatRunsModel" "wrongAt" "I") (by decide +kernel)) (fun _ h9 => h9) rfl (by decide +kernel) rfl rfl (Nat.le_of_ble_eq_true rfl) dX5_wrong_17 (fun H locs hP _ hS => ?_)
    have hP : va_P (dC, dI) vwCl (w5C cs a (g5_thr x) (g5_acts x) (g5_typ x) (g5_lat x) (g5_pos x) (g5_wra x) (g5_now x) (g5_put x) (g5_was x) (g5_txt x) (g5_lef x) (g5_abo x) (g5_ors x)) H := hP
    obtain rfl := Option.some.inj hf
    exact xe_wv hx hb hr hlocks hS hP dX5_wrong_20
theorem cdX5_wrong : yX5_wrong.cls = RX5 ∧ yX5_wrong.cls ≠ "java/lang/invoke/MethodHandle" ∧ yX5_wrong.cls ≠ "java/lang/invoke/VarHandle" ∧ (parseMethodDescriptor yX5_wrong.desc).map (fun d => d.parameters.length) = some 1 := by decide +kernel

set_option maxHeartbeats 4000000 in
set_option maxRecDepth 100000 in
theorem c5_sign (l : Launch) (dC : Nat → ClassId) (dI : Nat → Nat → Nat) (cs : Nat → ClassId) (a : Nat → Nat) (sz : Nat) (x : ModS) (p0 : Int) (res : ModS) (hf : f5_sign x p0 = some res) : Met l yX5_sign wsX5_sign ({ frames := 1, cells := 0, slots := 0, locals := 21 } : Room) (va_Pc [.ref (a 0), .int (iI p0)] (xPW (dC, dI) vwCl (w5 cs a x) (xT cs) sz)) (xQv (dC, dI) vwCl (w5 cs a x) (w5 cs a res) sz) 0 0 (va_A (w5 cs a x) sz) := by
  refine Met.ofW (cc := cX5_sign) (maxL := 2) (ret := none) (by decide) rfl ?_
  intro p e s m args below meth c s₁ B hml hv
  obtain ⟨rfl, hsz, hP, hK, hD0⟩ := hv
  have hx := B.exec
  have hb := B.bytes
  have hr := B.returns
  have hts := atoms_spec (ws := wsX5_sign) B.pre
  have hown : s.vm.findClass RX5 = some m.cls := findClass_of_methodNamed B.named
  have hlocks := B.notSynchronized
  have hin5 : ∀ w ∈ wsX50, w ∈ wsX5_sign := by decide +kernel
  subst hsz
  have hD := hD0.self (sz := s.heap.size)
  have hA : ∀ z9 : Nat, s.heap.size ≤ z9 → va_A (w5 cs a x) s.heap.size z9 := fun z9 h => Or.inr h
  have hS : va_S (va_A (w5 cs a x) s.heap.size) s.heap s.heap [] := va_S.rf
  have hl := lv_entry [.ref (a 0), .int (iI p0)] (n := 2) (Nat.le_of_ble_eq_true rfl)
  rw [lg_entry_eq]
  generalize (lg_sl [.ref (a 0), .int (iI p0)] ++ List.replicate (2 - (lg_sl [.ref (a 0), .int (iI p0)]).length) Slot.unset).toArray = ls at hl ⊢
  have hl : lv_has ls 2 [(0, .ref (a 0)), (1, .int (iI p0))] := hl
  unfold f5_sign at hf
  refine lv_aload_n hx hb dX5_sign_0 rfl (lv_at hl 0 rfl) ?_
  obtain ⟨v1, ev1, hf⟩ := x_bind hf
  refine xc_ri (As := []) (rest := []) ⟨hx, hb, hml, hown, hts⟩ (c5_look l dC dI cs a x  _ ev1) (cwV 0 hts gX5_sign_X5_look rfl rfl rfl cdX5_look ⟨Nat.le_of_ble_eq_true rfl, Nat.le_of_ble_eq_true rfl⟩) hK hP [0, 1, 2, 3, 4, 5, 6, 7] rfl 0 rfl rfl rfl hl.1 rfl (Nat.le_of_ble_eq_true rfl) dX5_sign_1 ⟨Nat.zero_le _, Nat.zero_le _⟩ ?_
  refine lv_iload_n hx hb dX5_sign_4 rfl (lv_at hl 1 rfl) ?_
  obtain ⟨c2a, c2b, c2t, c2f⟩ := x_eqE hf
  refine xk_icmp_eq (tgt := 16) hx hb c2a c2b dX5_sign_5 (by decide) (fun c2 => ?_) (fun c2 => ?_)
  · have hf := c2t c2
    refine lv_aload_n hx hb dX5_sign_16 rfl (lv_at hl 0 rfl) ?_
    refine lv_dup hx hb dX5_sign_17 rfl ?_
    refine va_get (D := (dC, dI)) (ci := 5) (v := .int (iI (g5_pos x))) (C := RX5) (T := TX5) (N := 13) hx hb hts hin5 hown hK hP 0 rfl rfl 10 (by decide) (hts (.fieldLink RX5 183 "BoatRunsModel" "at" "I") (by decide +kernel)) (fun _ h9 => h9) rfl dX5_sign_18 ?_
    refine xk_iconst hx hb dX5_sign_21 ?_
    refine xk_iadd hx hb dX5_sign_22 ?_
    refine va_put (D := (dC, dI)) (ci := 5) (v := .int (iI (g5_pos x + 1))) (ty := .int) (C := RX5) (T := TX5) (N := 13) hx hb hts hin5 tyX5 tyX5_ok nmX5 hown hK hP (x_addr hD rfl) hS 0 rfl rfl 10 (by decide) (hts (.fieldLink RX5 183 "BoatRunsModel" "at" "I") (by decide +kernel)) (fun _ h9 => h9) rfl (by decide +kernel) rfl rfl (Nat.le_of_ble_eq_true rfl) dX5_sign_23 (fun H locs hP _ hS => ?_)
    have hP : va_P (dC, dI) vwCl (w5C cs a (g5_thr x) (g5_acts x) (g5_typ x) (g5_lat x) (g5_pos x + 1) (g5_wra x) (g5_now x) (g5_put x) (g5_was x) (g5_txt x) (g5_lef x) (g5_abo x) (g5_ors x)) H := hP
    obtain rfl := Option.some.inj hf
    exact xe_wv hx hb hr hlocks hS hP dX5_sign_26
  · have hf := c2f c2
    refine lv_aload_n hx hb dX5_sign_8 rfl (lv_at hl 0 rfl) ?_
    refine lv_aload_n hx hb dX5_sign_9 rfl (lv_at hl 0 rfl) ?_
    refine va_get (D := (dC, dI)) (ci := 5) (v := .int (iI (g5_pos x))) (C := RX5) (T := TX5) (N := 13) hx hb hts hin5 hown hK hP 0 rfl rfl 10 (by decide) (hts (.fieldLink RX5 183 "BoatRunsModel" "at" "I") (by decide +kernel)) (fun _ h9 => h9) rfl dX5_sign_10 ?_
    obtain ⟨x3, ex3, hf⟩ := x_bind hf
    refine xc_wv (As := [.int (iI (g5_pos x))]) (rest := []) ⟨hx, hb, hml, hown, hts⟩ (c5_wrong l dC dI cs a _ x (g5_pos x)  _ ex3) (cwV 1 hts gX5_sign_X5_wrong rfl rfl rfl cdX5_wrong ⟨Nat.le_of_ble_eq_true rfl, Nat.le_of_ble_eq_true rfl⟩) hK hP (x_addr hD rfl) hS hA [0, 1, 2, 3, 4, 5, 6, 7] rfl (by decide) rfl 0 rfl rfl rfl hl.1 rfl (Nat.le_of_ble_eq_true rfl) dX5_sign_13 ⟨Nat.zero_le _, Nat.zero_le _⟩ (fun H locs hP hS => ?_)
    have hP : va_P (dC, dI) vwCl (w5 cs a x3) H := hP
    refine lv_aload_n hx hb dX5_sign_16 rfl (lv_at hl 0 rfl) ?_
    refine lv_dup hx hb dX5_sign_17 rfl ?_
    refine va_get (D := (dC, dI)) (ci := 5) (v := .int (iI (g5_pos x3))) (C := RX5) (T := TX5) (N := 13) hx hb hts hin5 hown hK hP 0 rfl rfl 10 (by decide) (hts (.fieldLink RX5 183 "BoatRunsModel" "at" "I") (by decide +kernel)) (fun _ h9 => h9) rfl dX5_sign_18 ?_
    refine xk_iconst hx hb dX5_sign_21 ?_
    refine xk_iadd hx hb dX5_sign_22 ?_
    refine va_put (D := (dC, dI)) (ci := 5) (v := .int (iI (g5_pos x3 + 1))) (ty := .int) (C := RX5) (T := TX5) (N := 13) hx hb hts hin5 tyX5 tyX5_ok nmX5 hown hK hP (x_addr hD rfl) hS 0 rfl rfl 10 (by decide) (hts (.fieldLink RX5 183 "BoatRunsModel" "at" "I") (by decide +kernel)) (fun _ h9 => h9) rfl (by decide +kernel) rfl rfl (Nat.le_of_ble_eq_true rfl) dX5_sign_23 (fun H locs hP _ hS => ?_)
    have hP : va_P (dC, dI) vwCl (w5C cs a (g5_thr x3) (g5_acts x3) (g5_typ x3) (g5_lat x3) (g5_pos x3 + 1) (g5_wra x3) (g5_now x3) (g5_put x3) (g5_was x3) (g5_txt x3) (g5_lef x3) (g5_abo x3) (g5_ors x3)) H := hP
    obtain rfl := Option.some.inj hf
    exact xe_wv hx hb hr hlocks hS hP dX5_sign_26
theorem cdX5_sign : yX5_sign.cls = RX5 ∧ yX5_sign.cls ≠ "java/lang/invoke/MethodHandle" ∧ yX5_sign.cls ≠ "java/lang/invoke/VarHandle" ∧ (parseMethodDescriptor yX5_sign.desc).map (fun d => d.parameters.length) = some 1 := by decide +kernel

set_option maxHeartbeats 4000000 in
set_option maxRecDepth 100000 in
theorem c5_number (l : Launch) (dC : Nat → ClassId) (dI : Nat → Nat → Nat) (cs : Nat → ClassId) (a : Nat → Nat) (sz : Nat) (x : ModS) (p0 : Int) (p1 : Int) (p2 : Int) (res : Int × ModS) (hf : f5_number x p0 p1 p2 = some res) : Met l yX5_number wsX5_number ({ frames := 1, cells := 0, slots := 0, locals := 22 } : Room) (va_Pc [.ref (a 0), .int (iI p0), .int (iI p1), .int (iI p2)] (xPW (dC, dI) vwCl (w5 cs a x) (xT cs) sz)) (xQi (dC, dI) vwCl (w5 cs a x) (w5 cs a res.2) sz res.1) 0 0 (va_A (w5 cs a x) sz) := by
  refine Met.ofW (cc := cX5_number) (maxL := 6) (ret := (some .int)) (by decide) rfl ?_
  intro p e s m args below meth c s₁ B hml hv
  obtain ⟨rfl, hsz, hP, hK, hD0⟩ := hv
  have hx := B.exec
  have hb := B.bytes
  have hr := B.returns
  have hts := atoms_spec (ws := wsX5_number) B.pre
  have hown : s.vm.findClass RX5 = some m.cls := findClass_of_methodNamed B.named
  have hlocks := B.notSynchronized
  have hin5 : ∀ w ∈ wsX50, w ∈ wsX5_number := by decide +kernel
  subst hsz
  have hD := hD0.self (sz := s.heap.size)
  have hA : ∀ z9 : Nat, s.heap.size ≤ z9 → va_A (w5 cs a x) s.heap.size z9 := fun z9 h => Or.inr h
  have hS : va_S (va_A (w5 cs a x) s.heap.size) s.heap s.heap [] := va_S.rf
  have hl := lv_entry [.ref (a 0), .int (iI p0), .int (iI p1), .int (iI p2)] (n := 6) (Nat.le_of_ble_eq_true rfl)
  rw [lg_entry_eq]
  generalize (lg_sl [.ref (a 0), .int (iI p0), .int (iI p1), .int (iI p2)] ++ List.replicate (6 - (lg_sl [.ref (a 0), .int (iI p0), .int (iI p1), .int (iI p2)]).length) Slot.unset).toArray = ls at hl ⊢
  have hl : lv_has ls 6 [(0, .ref (a 0)), (1, .int (iI p0)), (2, .int (iI p1)), (3, .int (iI p2))] := hl
  unfold f5_number at hf
  refine lv_aload_n hx hb dX5_number_0 rfl (lv_at hl 0 rfl) ?_
  refine va_get (D := (dC, dI)) (ci := 5) (v := .int (iI (g5_pos x))) (C := RX5) (T := TX5) (N := 13) hx hb hts hin5 hown hK hP 0 rfl rfl 10 (by decide) (hts (.fieldLink RX5 183 "BoatRunsModel" "at" "I") (by decide +kernel)) (fun _ h9 => h9) rfl dX5_number_1 ?_
  refine lv_istore (lv' := [(4, .int (iI (g5_pos x))), (0, .ref (a 0)), (1, .int (iI p0)), (2, .int (iI p1)), (3, .int (iI p2))]) hx hb dX5_number_4 hl (by decide) rfl (fun ls hl => ?_)
  refine xk_iconst hx hb dX5_number_6 ?_
  refine lv_istore (lv' := [(5, .int (iI 0)), (4, .int (iI (g5_pos x))), (0, .ref (a 0)), (1, .int (iI p0)), (2, .int (iI p1)), (3, .int (iI p2))]) hx hb dX5_number_7 hl (by decide) rfl (fun ls hl => ?_)
  have hL9 : ∀ (n2 : Nat) (l5 : Int) (x1 : ModS), f5_number_L9 x p0 p1 p2 n2 l5 x1 = some res → ∀ (H : Heap) (locs : List Loc), va_P (dC, dI) vwCl (w5 cs a x1) H → va_S (va_A (w5 cs a x) s.heap.size) s.heap H locs → ∀ (ls : Array Slot), lv_has ls 6 [(0, .ref (a 0)), (1, .int (iI p0)), (2, .int (iI p1)), (3, .int (iI p2)), (4, .int (iI (g5_pos x))), (5, .int (iI l5))] → W p l e (headSpec wsX5_number ({ frames := 1, cells := 0, slots := 0, locals := 22 } : Room)).room s m ([.ref (a 0), .int (iI p0), .int (iI p1), .int (iI p2)] : List Value).toArray below meth c H locs 0 0 (MQ below (xQi (dC, dI) vwCl (w5 cs a x) (w5 cs a res.2) s.heap.size res.1) ([.ref (a 0), .int (iI p0), .int (iI p1), .int (iI p2)] : List Value).toArray s 0 0 (va_A (w5 cs a x) s.heap.size)) (F0 m 9 ls []) := by
    intro  n2
    induction n2 with
    | zero => intro l5 x1 hf; have hf : (none : Option (Int × ModS)) = some res := hf; cases hf
    | succ n2 ih9 =>
      intro l5 x1 hf H locs hP hS ls hl
      rw [f5_number_L9] at hf
      refine lv_aload_n hx hb dX5_number_9 rfl (lv_at hl 0 rfl) ?_
      obtain ⟨v3, ev3, hf⟩ := x_bind hf
      refine xc_ri (As := []) (rest := []) ⟨hx, hb, hml, hown, hts⟩ (c5_look l dC dI cs a x1  _ ev3) (cwV 0 hts gX5_number_X5_look rfl rfl rfl cdX5_look ⟨Nat.le_of_ble_eq_true rfl, Nat.le_of_ble_eq_true rfl⟩) hK hP [0, 1, 2, 3, 4, 5, 6, 7] rfl 0 rfl rfl rfl hl.1 rfl (Nat.le_of_ble_eq_true rfl) dX5_number_10 ⟨Nat.zero_le _, Nat.zero_le _⟩ ?_
      refine xk_bipush hx hb dX5_number_13 (by decide) ?_
      refine xk_bipush hx hb dX5_number_15 (by decide) ?_
      obtain ⟨v4, ev4, hf⟩ := x_bind hf
      refine xc_si (As := [.int (iI v3), .int (iI 48), .int (iI 57)]) (rest := []) ⟨hx, hb, hml, hown, hts⟩ (c5_in l v3 48 57 _ ev4) (va_cwS 3 hts gX5_number_X5_in rfl rfl rfl cdX5_in ⟨Nat.le_of_ble_eq_true rfl, Nat.le_of_ble_eq_true rfl⟩) rfl hl.1 rfl (Nat.le_of_ble_eq_true rfl) dX5_number_17 ⟨Nat.zero_le _, Nat.zero_le _⟩ ?_
      obtain ⟨c5a, c5b, c5t, c5f⟩ := x_eqE hf
      refine xk_if_eq (tgt := 82) hx hb c5a dX5_number_20 (by decide) (fun c5 => ?_) (fun c5 => ?_)
      · have hf := c5t c5
        refine lv_aload_n hx hb dX5_number_82 rfl (lv_at hl 0 rfl) ?_
        refine va_get (D := (dC, dI)) (ci := 5) (v := .int (iI (g5_pos x1))) (C := RX5) (T := TX5) (N := 13) hx hb hts hin5 hown hK hP 0 rfl rfl 10 (by decide) (hts (.fieldLink RX5 183 "BoatRunsModel" "at" "I") (by decide +kernel)) (fun _ h9 => h9) rfl dX5_number_83 ?_
        refine lv_iload hx hb dX5_number_86 (lv_at hl 4 rfl) ?_
        obtain ⟨c6a, c6b, c6t, c6f⟩ := x_eqE hf
        refine xk_icmp_ne (tgt := 99) hx hb c6a c6b dX5_number_88 (by decide) (fun c6 => ?_) (fun c6 => ?_)
        · have hf := c6t c6
          refine lv_aload_n hx hb dX5_number_91 rfl (lv_at hl 0 rfl) ?_
          refine lv_aload_n hx hb dX5_number_92 rfl (lv_at hl 0 rfl) ?_
          refine va_get (D := (dC, dI)) (ci := 5) (v := .int (iI (g5_pos x1))) (C := RX5) (T := TX5) (N := 13) hx hb hts hin5 hown hK hP 0 rfl rfl 10 (by decide) (hts (.fieldLink RX5 183 "BoatRunsModel" "at" "I") (by decide +kernel)) (fun _ h9 => h9) rfl dX5_number_93 ?_
          obtain ⟨x7, ex7, hf⟩ := x_bind hf
          refine xc_wv (As := [.int (iI (g5_pos x1))]) (rest := []) ⟨hx, hb, hml, hown, hts⟩ (c5_wrong l dC dI cs a _ x1 (g5_pos x1)  _ ex7) (cwV 1 hts gX5_number_X5_wrong rfl rfl rfl cdX5_wrong ⟨Nat.le_of_ble_eq_true rfl, Nat.le_of_ble_eq_true rfl⟩) hK hP (x_addr hD rfl) hS hA [0, 1, 2, 3, 4, 5, 6, 7] rfl (by decide) rfl 0 rfl rfl rfl hl.1 rfl (Nat.le_of_ble_eq_true rfl) dX5_number_96 ⟨Nat.zero_le _, Nat.zero_le _⟩ (fun H locs hP hS => ?_)
          have hP : va_P (dC, dI) vwCl (w5 cs a x7) H := hP
          refine lv_aload_n hx hb dX5_number_99 rfl (lv_at hl 0 rfl) ?_
          refine va_get (D := (dC, dI)) (ci := 5) (v := .int (iI (g5_wra x7))) (C := RX5) (T := TX5) (N := 13) hx hb hts hin5 hown hK hP 0 rfl rfl 11 (by decide) (hts (.fieldLink RX5 186 "BoatRunsModel" "wrongAt" "I") (by decide +kernel)) (fun _ h9 => h9) rfl dX5_number_100 ?_
          refine xk_iconst hx hb dX5_number_103 ?_
          obtain ⟨c8a, c8b, c8t, c8f⟩ := x_eqE hf
          refine xk_icmp_ne (tgt := 123) hx hb c8a c8b dX5_number_104 (by decide) (fun c8 => ?_) (fun c8 => ?_)
          · have hf := c8t c8
            refine lv_iload hx hb dX5_number_107 (lv_at hl 5 rfl) ?_
            refine lv_iload_n hx hb dX5_number_109 rfl (lv_at hl 2 rfl) ?_
            refine lv_iload_n hx hb dX5_number_110 rfl (lv_at hl 3 rfl) ?_
            obtain ⟨v9, ev9, hf⟩ := x_bind hf
            refine xc_si (As := [.int (iI l5), .int (iI p1), .int (iI p2)]) (rest := []) ⟨hx, hb, hml, hown, hts⟩ (c5_in l l5 p1 p2 _ ev9) (va_cwS 3 hts gX5_number_X5_in rfl rfl rfl cdX5_in ⟨Nat.le_of_ble_eq_true rfl, Nat.le_of_ble_eq_true rfl⟩) rfl hl.1 rfl (Nat.le_of_ble_eq_true rfl) dX5_number_111 ⟨Nat.zero_le _, Nat.zero_le _⟩ ?_
            obtain ⟨c10a, c10b, c10t, c10f⟩ := x_eqE hf
            refine xk_if_ne (tgt := 123) hx hb c10a dX5_number_114 (by decide) (fun c10 => ?_) (fun c10 => ?_)
            · have hf := c10t c10
              refine lv_aload_n hx hb dX5_number_117 rfl (lv_at hl 0 rfl) ?_
              refine lv_iload hx hb dX5_number_118 (lv_at hl 4 rfl) ?_
              obtain ⟨x11, ex11, hf⟩ := x_bind hf
              refine xc_wv (As := [.int (iI (g5_pos x))]) (rest := []) ⟨hx, hb, hml, hown, hts⟩ (c5_wrong l dC dI cs a _ x7 (g5_pos x)  _ ex11) (cwV 1 hts gX5_number_X5_wrong rfl rfl rfl cdX5_wrong ⟨Nat.le_of_ble_eq_true rfl, Nat.le_of_ble_eq_true rfl⟩) hK hP (x_addr hD rfl) hS hA [0, 1, 2, 3, 4, 5, 6, 7] rfl (by decide) rfl 0 rfl rfl rfl hl.1 rfl (Nat.le_of_ble_eq_true rfl) dX5_number_120 ⟨Nat.zero_le _, Nat.zero_le _⟩ (fun H locs hP hS => ?_)
              have hP : va_P (dC, dI) vwCl (w5 cs a x11) H := hP
              refine lv_iload hx hb dX5_number_123 (lv_at hl 5 rfl) ?_
              obtain rfl := Option.some.inj hf
              exact xe_wi hx hb hr hlocks hS hP dX5_number_125
            · have hf := c10f c10
              refine lv_iload hx hb dX5_number_123 (lv_at hl 5 rfl) ?_
              obtain rfl := Option.some.inj hf
              exact xe_wi hx hb hr hlocks hS hP dX5_number_125
          · have hf := c8f c8
            refine lv_iload hx hb dX5_number_123 (lv_at hl 5 rfl) ?_
            obtain rfl := Option.some.inj hf
            exact xe_wi hx hb hr hlocks hS hP dX5_number_125
        · have hf := c6f c6
          refine lv_aload_n hx hb dX5_number_99 rfl (lv_at hl 0 rfl) ?_
          refine va_get (D := (dC, dI)) (ci := 5) (v := .int (iI (g5_wra x1))) (C := RX5) (T := TX5) (N := 13) hx hb hts hin5 hown hK hP 0 rfl rfl 11 (by decide) (hts (.fieldLink RX5 186 "BoatRunsModel" "wrongAt" "I") (by decide +kernel)) (fun _ h9 => h9) rfl dX5_number_100 ?_
          refine xk_iconst hx hb dX5_number_103 ?_
          obtain ⟨c12a, c12b, c12t, c12f⟩ := x_eqE hf
          refine xk_icmp_ne (tgt := 123) hx hb c12a c12b dX5_number_104 (by decide) (fun c12 => ?_) (fun c12 => ?_)
          · have hf := c12t c12
            refine lv_iload hx hb dX5_number_107 (lv_at hl 5 rfl) ?_
            refine lv_iload_n hx hb dX5_number_109 rfl (lv_at hl 2 rfl) ?_
            refine lv_iload_n hx hb dX5_number_110 rfl (lv_at hl 3 rfl) ?_
            obtain ⟨v13, ev13, hf⟩ := x_bind hf
            refine xc_si (As := [.int (iI l5), .int (iI p1), .int (iI p2)]) (rest := []) ⟨hx, hb, hml, hown, hts⟩ (c5_in l l5 p1 p2 _ ev13) (va_cwS 3 hts gX5_number_X5_in rfl rfl rfl cdX5_in ⟨Nat.le_of_ble_eq_true rfl, Nat.le_of_ble_eq_true rfl⟩) rfl hl.1 rfl (Nat.le_of_ble_eq_true rfl) dX5_number_111 ⟨Nat.zero_le _, Nat.zero_le _⟩ ?_
            obtain ⟨c14a, c14b, c14t, c14f⟩ := x_eqE hf
            refine xk_if_ne (tgt := 123) hx hb c14a dX5_number_114 (by decide) (fun c14 => ?_) (fun c14 => ?_)
            · have hf := c14t c14
              refine lv_aload_n hx hb dX5_number_117 rfl (lv_at hl 0 rfl) ?_
              refine lv_iload hx hb dX5_number_118 (lv_at hl 4 rfl) ?_
              obtain ⟨x15, ex15, hf⟩ := x_bind hf
              refine xc_wv (As := [.int (iI (g5_pos x))]) (rest := []) ⟨hx, hb, hml, hown, hts⟩ (c5_wrong l dC dI cs a _ x1 (g5_pos x)  _ ex15) (cwV 1 hts gX5_number_X5_wrong rfl rfl rfl cdX5_wrong ⟨Nat.le_of_ble_eq_true rfl, Nat.le_of_ble_eq_true rfl⟩) hK hP (x_addr hD rfl) hS hA [0, 1, 2, 3, 4, 5, 6, 7] rfl (by decide) rfl 0 rfl rfl rfl hl.1 rfl (Nat.le_of_ble_eq_true rfl) dX5_number_120 ⟨Nat.zero_le _, Nat.zero_le _⟩ (fun H locs hP hS => ?_)
              have hP : va_P (dC, dI) vwCl (w5 cs a x15) H := hP
              refine lv_iload hx hb dX5_number_123 (lv_at hl 5 rfl) ?_
              obtain rfl := Option.some.inj hf
              exact xe_wi hx hb hr hlocks hS hP dX5_number_125
            · have hf := c14f c14
              refine lv_iload hx hb dX5_number_123 (lv_at hl 5 rfl) ?_
              obtain rfl := Option.some.inj hf
              exact xe_wi hx hb hr hlocks hS hP dX5_number_125
          · have hf := c12f c12
            refine lv_iload hx hb dX5_number_123 (lv_at hl 5 rfl) ?_
            obtain rfl := Option.some.inj hf
            exact xe_wi hx hb hr hlocks hS hP dX5_number_125
      · have hf := c5f c5
        refine lv_aload_n hx hb dX5_number_23 rfl (lv_at hl 0 rfl) ?_
        refine va_get (D := (dC, dI)) (ci := 5) (v := .int (iI (g5_pos x1))) (C := RX5) (T := TX5) (N := 13) hx hb hts hin5 hown hK hP 0 rfl rfl 10 (by decide) (hts (.fieldLink RX5 183 "BoatRunsModel" "at" "I") (by decide +kernel)) (fun _ h9 => h9) rfl dX5_number_24 ?_
        refine lv_iload hx hb dX5_number_27 (lv_at hl 4 rfl) ?_
        refine lv_iload_n hx hb dX5_number_29 rfl (lv_at hl 1 rfl) ?_
        refine xk_iadd hx hb dX5_number_30 ?_
        obtain ⟨c16a, c16b, c16t, c16f⟩ := x_eqE hf
        refine xk_icmp_ne (tgt := 42) hx hb c16a c16b dX5_number_31 (by decide) (fun c16 => ?_) (fun c16 => ?_)
        · have hf := c16t c16
          refine lv_aload_n hx hb dX5_number_34 rfl (lv_at hl 0 rfl) ?_
          refine lv_aload_n hx hb dX5_number_35 rfl (lv_at hl 0 rfl) ?_
          refine va_get (D := (dC, dI)) (ci := 5) (v := .int (iI (g5_pos x1))) (C := RX5) (T := TX5) (N := 13) hx hb hts hin5 hown hK hP 0 rfl rfl 10 (by decide) (hts (.fieldLink RX5 183 "BoatRunsModel" "at" "I") (by decide +kernel)) (fun _ h9 => h9) rfl dX5_number_36 ?_
          obtain ⟨x17, ex17, hf⟩ := x_bind hf
          refine xc_wv (As := [.int (iI (g5_pos x1))]) (rest := []) ⟨hx, hb, hml, hown, hts⟩ (c5_wrong l dC dI cs a _ x1 (g5_pos x1)  _ ex17) (cwV 1 hts gX5_number_X5_wrong rfl rfl rfl cdX5_wrong ⟨Nat.le_of_ble_eq_true rfl, Nat.le_of_ble_eq_true rfl⟩) hK hP (x_addr hD rfl) hS hA [0, 1, 2, 3, 4, 5, 6, 7] rfl (by decide) rfl 0 rfl rfl rfl hl.1 rfl (Nat.le_of_ble_eq_true rfl) dX5_number_39 ⟨Nat.zero_le _, Nat.zero_le _⟩ (fun H locs hP hS => ?_)
          have hP : va_P (dC, dI) vwCl (w5 cs a x17) H := hP
          refine lv_aload_n hx hb dX5_number_42 rfl (lv_at hl 0 rfl) ?_
          refine va_get (D := (dC, dI)) (ci := 5) (v := .int (iI (g5_wra x17))) (C := RX5) (T := TX5) (N := 13) hx hb hts hin5 hown hK hP 0 rfl rfl 11 (by decide) (hts (.fieldLink RX5 186 "BoatRunsModel" "wrongAt" "I") (by decide +kernel)) (fun _ h9 => h9) rfl dX5_number_43 ?_
          refine xk_iconst hx hb dX5_number_46 ?_
          obtain ⟨c18a, c18b, c18t, c18f⟩ := x_eqE hf
          refine xk_icmp_ne (tgt := 66) hx hb c18a c18b dX5_number_47 (by decide) (fun c18 => ?_) (fun c18 => ?_)
          · have hf := c18t c18
            refine xk_bipush hx hb dX5_number_50 (by decide) ?_
            refine lv_iload hx hb dX5_number_52 (lv_at hl 5 rfl) ?_
            refine xk_imul hx hb dX5_number_54 ?_
            refine lv_aload_n hx hb dX5_number_55 rfl (lv_at hl 0 rfl) ?_
            obtain ⟨v19, ev19, hf⟩ := x_bind hf
            refine xc_ri (As := []) (rest := [.int (iI (10 * l5))]) ⟨hx, hb, hml, hown, hts⟩ (c5_look l dC dI cs a x17  _ ev19) (cwV 0 hts gX5_number_X5_look rfl rfl rfl cdX5_look ⟨Nat.le_of_ble_eq_true rfl, Nat.le_of_ble_eq_true rfl⟩) hK hP [0, 1, 2, 3, 4, 5, 6, 7] rfl 0 rfl rfl rfl hl.1 rfl (Nat.le_of_ble_eq_true rfl) dX5_number_56 ⟨Nat.zero_le _, Nat.zero_le _⟩ ?_
            refine xk_iadd hx hb dX5_number_59 ?_
            refine xk_bipush hx hb dX5_number_60 (by decide) ?_
            refine xk_isub hx hb dX5_number_62 ?_
            refine lv_goto (tgt := 67) hx hb dX5_number_63 (by decide) ?_
            refine lv_istore (lv' := [(5, .int (iI (((10 * l5) + v19) - 48))), (0, .ref (a 0)), (1, .int (iI p0)), (2, .int (iI p1)), (3, .int (iI p2)), (4, .int (iI (g5_pos x)))]) hx hb dX5_number_67 hl (by decide) rfl (fun ls hl => ?_)
            refine lv_aload_n hx hb dX5_number_69 rfl (lv_at hl 1 rfl) ?_
            refine lv_dup hx hb dX5_number_70 rfl ?_
            refine va_get (D := (dC, dI)) (ci := 5) (v := .int (iI (g5_pos x17))) (C := RX5) (T := TX5) (N := 13) hx hb hts hin5 hown hK hP 0 rfl rfl 10 (by decide) (hts (.fieldLink RX5 183 "BoatRunsModel" "at" "I") (by decide +kernel)) (fun _ h9 => h9) rfl dX5_number_71 ?_
            refine xk_iconst hx hb dX5_number_74 ?_
            refine xk_iadd hx hb dX5_number_75 ?_
            refine va_put (D := (dC, dI)) (ci := 5) (v := .int (iI (g5_pos x17 + 1))) (ty := .int) (C := RX5) (T := TX5) (N := 13) hx hb hts hin5 tyX5 tyX5_ok nmX5 hown hK hP (x_addr hD rfl) hS 0 rfl rfl 10 (by decide) (hts (.fieldLink RX5 183 "BoatRunsModel" "at" "I") (by decide +kernel)) (fun _ h9 => h9) rfl (by decide +kernel) rfl rfl (Nat.le_of_ble_eq_true rfl) dX5_number_76 (fun H locs hP _ hS => ?_)
            have hP : va_P (dC, dI) vwCl (w5C cs a (g5_thr x17) (g5_acts x17) (g5_typ x17) (g5_lat x17) (g5_pos x17 + 1) (g5_wra x17) (g5_now x17) (g5_put x17) (g5_was x17) (g5_txt x17) (g5_lef x17) (g5_abo x17) (g5_ors x17)) H := hP
            refine lv_goto (tgt := 9) hx hb dX5_number_79 (by decide) ?_
            exact ih9 (((10 * l5) + v19) - 48) (s5_pos x17 (g5_pos x17 + 1)) hf _ _ hP hS ls (lv_sub hl [1, 2, 3, 4, 5, 0] rfl)
          · have hf := c18f c18
            refine xk_iconst hx hb dX5_number_66 ?_
            refine lv_istore (lv' := [(5, .int (iI 0)), (0, .ref (a 0)), (1, .int (iI p0)), (2, .int (iI p1)), (3, .int (iI p2)), (4, .int (iI (g5_pos x)))]) hx hb dX5_number_67 hl (by decide) rfl (fun ls hl => ?_)
            refine lv_aload_n hx hb dX5_number_69 rfl (lv_at hl 1 rfl) ?_
            refine lv_dup hx hb dX5_number_70 rfl ?_
            refine va_get (D := (dC, dI)) (ci := 5) (v := .int (iI (g5_pos x17))) (C := RX5) (T := TX5) (N := 13) hx hb hts hin5 hown hK hP 0 rfl rfl 10 (by decide) (hts (.fieldLink RX5 183 "BoatRunsModel" "at" "I") (by decide +kernel)) (fun _ h9 => h9) rfl dX5_number_71 ?_
            refine xk_iconst hx hb dX5_number_74 ?_
            refine xk_iadd hx hb dX5_number_75 ?_
            refine va_put (D := (dC, dI)) (ci := 5) (v := .int (iI (g5_pos x17 + 1))) (ty := .int) (C := RX5) (T := TX5) (N := 13) hx hb hts hin5 tyX5 tyX5_ok nmX5 hown hK hP (x_addr hD rfl) hS 0 rfl rfl 10 (by decide) (hts (.fieldLink RX5 183 "BoatRunsModel" "at" "I") (by decide +kernel)) (fun _ h9 => h9) rfl (by decide +kernel) rfl rfl (Nat.le_of_ble_eq_true rfl) dX5_number_76 (fun H locs hP _ hS => ?_)
            have hP : va_P (dC, dI) vwCl (w5C cs a (g5_thr x17) (g5_acts x17) (g5_typ x17) (g5_lat x17) (g5_pos x17 + 1) (g5_wra x17) (g5_now x17) (g5_put x17) (g5_was x17) (g5_txt x17) (g5_lef x17) (g5_abo x17) (g5_ors x17)) H := hP
            refine lv_goto (tgt := 9) hx hb dX5_number_79 (by decide) ?_
            exact ih9 0 (s5_pos x17 (g5_pos x17 + 1)) hf _ _ hP hS ls (lv_sub hl [1, 2, 3, 4, 5, 0] rfl)
        · have hf := c16f c16
          refine lv_aload_n hx hb dX5_number_42 rfl (lv_at hl 0 rfl) ?_
          refine va_get (D := (dC, dI)) (ci := 5) (v := .int (iI (g5_wra x1))) (C := RX5) (T := TX5) (N := 13) hx hb hts hin5 hown hK hP 0 rfl rfl 11 (by decide) (hts (.fieldLink RX5 186 "BoatRunsModel" "wrongAt" "I") (by decide +kernel)) (fun _ h9 => h9) rfl dX5_number_43 ?_
          refine xk_iconst hx hb dX5_number_46 ?_
          obtain ⟨c20a, c20b, c20t, c20f⟩ := x_eqE hf
          refine xk_icmp_ne (tgt := 66) hx hb c20a c20b dX5_number_47 (by decide) (fun c20 => ?_) (fun c20 => ?_)
          · have hf := c20t c20
            refine xk_bipush hx hb dX5_number_50 (by decide) ?_
            refine lv_iload hx hb dX5_number_52 (lv_at hl 5 rfl) ?_
            refine xk_imul hx hb dX5_number_54 ?_
            refine lv_aload_n hx hb dX5_number_55 rfl (lv_at hl 0 rfl) ?_
            obtain ⟨v21, ev21, hf⟩ := x_bind hf
            refine xc_ri (As := []) (rest := [.int (iI (10 * l5))]) ⟨hx, hb, hml, hown, hts⟩ (c5_look l dC dI cs a x1  _ ev21) (cwV 0 hts gX5_number_X5_look rfl rfl rfl cdX5_look ⟨Nat.le_of_ble_eq_true rfl, Nat.le_of_ble_eq_true rfl⟩) hK hP [0, 1, 2, 3, 4, 5, 6, 7] rfl 0 rfl rfl rfl hl.1 rfl (Nat.le_of_ble_eq_true rfl) dX5_number_56 ⟨Nat.zero_le _, Nat.zero_le _⟩ ?_
            refine xk_iadd hx hb dX5_number_59 ?_
            refine xk_bipush hx hb dX5_number_60 (by decide) ?_
            refine xk_isub hx hb dX5_number_62 ?_
            refine lv_goto (tgt := 67) hx hb dX5_number_63 (by decide) ?_
            refine lv_istore (lv' := [(5, .int (iI (((10 * l5) + v21) - 48))), (0, .ref (a 0)), (1, .int (iI p0)), (2, .int (iI p1)), (3, .int (iI p2)), (4, .int (iI (g5_pos x)))]) hx hb dX5_number_67 hl (by decide) rfl (fun ls hl => ?_)
            refine lv_aload_n hx hb dX5_number_69 rfl (lv_at hl 1 rfl) ?_
            refine lv_dup hx hb dX5_number_70 rfl ?_
            refine va_get (D := (dC, dI)) (ci := 5) (v := .int (iI (g5_pos x1))) (C := RX5) (T := TX5) (N := 13) hx hb hts hin5 hown hK hP 0 rfl rfl 10 (by decide) (hts (.fieldLink RX5 183 "BoatRunsModel" "at" "I") (by decide +kernel)) (fun _ h9 => h9) rfl dX5_number_71 ?_
            refine xk_iconst hx hb dX5_number_74 ?_
            refine xk_iadd hx hb dX5_number_75 ?_
            refine va_put (D := (dC, dI)) (ci := 5) (v := .int (iI (g5_pos x1 + 1))) (ty := .int) (C := RX5) (T := TX5) (N := 13) hx hb hts hin5 tyX5 tyX5_ok nmX5 hown hK hP (x_addr hD rfl) hS 0 rfl rfl 10 (by decide) (hts (.fieldLink RX5 183 "BoatRunsModel" "at" "I") (by decide +kernel)) (fun _ h9 => h9) rfl (by decide +kernel) rfl rfl (Nat.le_of_ble_eq_true rfl) dX5_number_76 (fun H locs hP _ hS => ?_)
            have hP : va_P (dC, dI) vwCl (w5C cs a (g5_thr x1) (g5_acts x1) (g5_typ x1) (g5_lat x1) (g5_pos x1 + 1) (g5_wra x1) (g5_now x1) (g5_put x1) (g5_was x1) (g5_txt x1) (g5_lef x1) (g5_abo x1) (g5_ors x1)) H := hP
            refine lv_goto (tgt := 9) hx hb dX5_number_79 (by decide) ?_
            exact ih9 (((10 * l5) + v21) - 48) (s5_pos x1 (g5_pos x1 + 1)) hf _ _ hP hS ls (lv_sub hl [1, 2, 3, 4, 5, 0] rfl)
          · have hf := c20f c20
            refine xk_iconst hx hb dX5_number_66 ?_
            refine lv_istore (lv' := [(5, .int (iI 0)), (0, .ref (a 0)), (1, .int (iI p0)), (2, .int (iI p1)), (3, .int (iI p2)), (4, .int (iI (g5_pos x)))]) hx hb dX5_number_67 hl (by decide) rfl (fun ls hl => ?_)
            refine lv_aload_n hx hb dX5_number_69 rfl (lv_at hl 1 rfl) ?_
            refine lv_dup hx hb dX5_number_70 rfl ?_
            refine va_get (D := (dC, dI)) (ci := 5) (v := .int (iI (g5_pos x1))) (C := RX5) (T := TX5) (N := 13) hx hb hts hin5 hown hK hP 0 rfl rfl 10 (by decide) (hts (.fieldLink RX5 183 "BoatRunsModel" "at" "I") (by decide +kernel)) (fun _ h9 => h9) rfl dX5_number_71 ?_
            refine xk_iconst hx hb dX5_number_74 ?_
            refine xk_iadd hx hb dX5_number_75 ?_
            refine va_put (D := (dC, dI)) (ci := 5) (v := .int (iI (g5_pos x1 + 1))) (ty := .int) (C := RX5) (T := TX5) (N := 13) hx hb hts hin5 tyX5 tyX5_ok nmX5 hown hK hP (x_addr hD rfl) hS 0 rfl rfl 10 (by decide) (hts (.fieldLink RX5 183 "BoatRunsModel" "at" "I") (by decide +kernel)) (fun _ h9 => h9) rfl (by decide +kernel) rfl rfl (Nat.le_of_ble_eq_true rfl) dX5_number_76 (fun H locs hP _ hS => ?_)
            have hP : va_P (dC, dI) vwCl (w5C cs a (g5_thr x1) (g5_acts x1) (g5_typ x1) (g5_lat x1) (g5_pos x1 + 1) (g5_wra x1) (g5_now x1) (g5_put x1) (g5_was x1) (g5_txt x1) (g5_lef x1) (g5_abo x1) (g5_ors x1)) H := hP
            refine lv_goto (tgt := 9) hx hb dX5_number_79 (by decide) ?_
            exact ih9 0 (s5_pos x1 (g5_pos x1 + 1)) hf _ _ hP hS ls (lv_sub hl [1, 2, 3, 4, 5, 0] rfl)
  exact hL9  xFU 0 x hf _ _ hP hS ls (lv_sub hl [2, 3, 4, 5, 1, 0] rfl)
theorem cdX5_number : yX5_number.cls = RX5 ∧ yX5_number.cls ≠ "java/lang/invoke/MethodHandle" ∧ yX5_number.cls ≠ "java/lang/invoke/VarHandle" ∧ (parseMethodDescriptor yX5_number.desc).map (fun d => d.parameters.length) = some 3 := by decide +kernel

set_option maxHeartbeats 4000000 in
set_option maxRecDepth 100000 in
theorem c5_order (l : Launch) (dC : Nat → ClassId) (dI : Nat → Nat → Nat) (cs : Nat → ClassId) (a : Nat → Nat) (sz : Nat) (x : ModS) (p0 : Int) (res : ModS) (hf : f5_order x p0 = some res) : Met l yX5_order wsX5_order ({ frames := 2, cells := 0, slots := 0, locals := 47 } : Room) (va_Pc [.ref (a 0), .int (iI p0)] (xPW (dC, dI) vwCl (w5 cs a x) (xT cs) sz)) (xQv (dC, dI) vwCl (w5 cs a x) (w5 cs a res) sz) 0 0 (va_A (w5 cs a x) sz) := by
  refine Met.ofW (cc := cX5_order) (maxL := 3) (ret := none) (by decide) rfl ?_
  intro p e s m args below meth c s₁ B hml hv
  obtain ⟨rfl, hsz, hP, hK, hD0⟩ := hv
  have hx := B.exec
  have hb := B.bytes
  have hr := B.returns
  have hts := atoms_spec (ws := wsX5_order) B.pre
  have hown : s.vm.findClass RX5 = some m.cls := findClass_of_methodNamed B.named
  have hlocks := B.notSynchronized
  have hin5 : ∀ w ∈ wsX50, w ∈ wsX5_order := by decide +kernel
  subst hsz
  have hD := hD0.self (sz := s.heap.size)
  have hA : ∀ z9 : Nat, s.heap.size ≤ z9 → va_A (w5 cs a x) s.heap.size z9 := fun z9 h => Or.inr h
  have hS : va_S (va_A (w5 cs a x) s.heap.size) s.heap s.heap [] := va_S.rf
  have hl := lv_entry [.ref (a 0), .int (iI p0)] (n := 3) (Nat.le_of_ble_eq_true rfl)
  rw [lg_entry_eq]
  generalize (lg_sl [.ref (a 0), .int (iI p0)] ++ List.replicate (3 - (lg_sl [.ref (a 0), .int (iI p0)]).length) Slot.unset).toArray = ls at hl ⊢
  have hl : lv_has ls 3 [(0, .ref (a 0)), (1, .int (iI p0))] := hl
  unfold f5_order at hf
  refine lv_aload_n hx hb dX5_order_0 rfl (lv_at hl 0 rfl) ?_
  obtain ⟨v1, ev1, hf⟩ := x_bind hf
  refine xc_ri (As := []) (rest := []) ⟨hx, hb, hml, hown, hts⟩ (c5_look l dC dI cs a x  _ ev1) (cwV 0 hts gX5_order_X5_look rfl rfl rfl cdX5_look ⟨Nat.le_of_ble_eq_true rfl, Nat.le_of_ble_eq_true rfl⟩) hK hP [0, 1, 2, 3, 4, 5, 6, 7] rfl 0 rfl rfl rfl hl.1 rfl (Nat.le_of_ble_eq_true rfl) dX5_order_1 ⟨Nat.zero_le _, Nat.zero_le _⟩ ?_
  refine lv_istore_n (lv' := [(2, .int (iI v1)), (0, .ref (a 0)), (1, .int (iI p0))]) hx hb dX5_order_4 rfl hl (by decide) rfl (fun ls hl => ?_)
  refine lv_aload_n hx hb dX5_order_5 rfl (lv_at hl 1 rfl) ?_
  refine va_get (D := (dC, dI)) (ci := 5) (v := .ref (a 7)) (C := RX5) (T := TX5) (N := 13) hx hb hts hin5 hown hK hP 0 rfl rfl 12 (by decide) (hts (.fieldLink RX5 33 "BoatRunsModel" "orders" "[I") (by decide +kernel)) (fun _ h9 => h9) rfl dX5_order_6 ?_
  refine xk_iconst hx hb dX5_order_9 ?_
  refine lv_iload_n hx hb dX5_order_10 rfl (lv_at hl 2 rfl) ?_
  refine xk_imul hx hb dX5_order_11 ?_
  refine lv_iload_n hx hb dX5_order_12 rfl (lv_at hl 0 rfl) ?_
  obtain ⟨g2, eg2, hf⟩ := x_bind hf
  refine xk_iast (f := g5_ors x) hx hb hK hP (x_addr hD rfl) hS 7 0 eg2 (by decide) rfl rfl dX5_order_13 (fun H locs hP hS => ?_)
  have hP : va_P (dC, dI) vwCl (w5C cs a (g5_thr x) (g5_acts x) (g5_typ x) (g5_lat x) (g5_pos x) (g5_wra x) (g5_now x) (g5_put x) (g5_was x) (g5_txt x) (g5_lef x) (g5_abo x) g2) H := hP
  refine lv_aload_n hx hb dX5_order_14 rfl (lv_at hl 1 rfl) ?_
  refine lv_dup hx hb dX5_order_15 rfl ?_
  refine va_get (D := (dC, dI)) (ci := 5) (v := .int (iI (g5_pos x))) (C := RX5) (T := TX5) (N := 13) hx hb hts hin5 hown hK hP 0 rfl rfl 10 (by decide) (hts (.fieldLink RX5 183 "BoatRunsModel" "at" "I") (by decide +kernel)) (fun _ h9 => h9) rfl dX5_order_16 ?_
  refine xk_iconst hx hb dX5_order_19 ?_
  refine xk_iadd hx hb dX5_order_20 ?_
  refine va_put (D := (dC, dI)) (ci := 5) (v := .int (iI (g5_pos x + 1))) (ty := .int) (C := RX5) (T := TX5) (N := 13) hx hb hts hin5 tyX5 tyX5_ok nmX5 hown hK hP (x_addr hD rfl) hS 0 rfl rfl 10 (by decide) (hts (.fieldLink RX5 183 "BoatRunsModel" "at" "I") (by decide +kernel)) (fun _ h9 => h9) rfl (by decide +kernel) rfl rfl (Nat.le_of_ble_eq_true rfl) dX5_order_21 (fun H locs hP _ hS => ?_)
  have hP : va_P (dC, dI) vwCl (w5C cs a (g5_thr x) (g5_acts x) (g5_typ x) (g5_lat x) (g5_pos x + 1) (g5_wra x) (g5_now x) (g5_put x) (g5_was x) (g5_txt x) (g5_lef x) (g5_abo x) g2) H := hP
  refine lv_iload_n hx hb dX5_order_24 rfl (lv_at hl 0 rfl) ?_
  obtain ⟨c3a, c3b, c3t, c3f⟩ := x_eqE hf
  by_cases c3 : v1 = 101
  · have hf := c3t c3
    refine xk_tabIn (tgt := 245) hx hb c3a c3 dX5_order_25 (by decide) rfl (by decide) ?_
    refine lv_goto (tgt := 258) hx hb dX5_order_245 (by decide) ?_
    refine lv_aload_n hx hb dX5_order_258 rfl (lv_at hl 1 rfl) ?_
    refine xk_bipush hx hb dX5_order_259 (by decide) ?_
    obtain ⟨x4, ex4, hf⟩ := x_bind hf
    refine xc_wv (As := [.int (iI 59)]) (rest := []) ⟨hx, hb, hml, hown, hts⟩ (c5_sign l dC dI cs a _ (s5_pos (s5_ors x g2) (g5_pos x + 1)) 59  _ ex4) (cwV 1 hts gX5_order_X5_sign rfl rfl rfl cdX5_sign ⟨Nat.le_of_ble_eq_true rfl, Nat.le_of_ble_eq_true rfl⟩) hK hP (x_addr hD rfl) hS hA [0, 1, 2, 3, 4, 5, 6, 7] rfl (by decide) rfl 0 rfl rfl rfl hl.1 rfl (Nat.le_of_ble_eq_true rfl) dX5_order_261 ⟨Nat.zero_le _, Nat.zero_le _⟩ (fun H locs hP hS => ?_)
    have hP : va_P (dC, dI) vwCl (w5 cs a x4) H := hP
    obtain rfl := Option.some.inj hf
    exact xe_wv hx hb hr hlocks hS hP dX5_order_264
  · have hf := c3f c3
    obtain ⟨c5a, c5b, c5t, c5f⟩ := x_eqE hf
    by_cases c5 : v1 = 108
    · have hf := c5t c5
      refine xk_tabIn (tgt := 245) hx hb c5a c5 dX5_order_25 (by decide) rfl (by decide) ?_
      refine lv_goto (tgt := 258) hx hb dX5_order_245 (by decide) ?_
      refine lv_aload_n hx hb dX5_order_258 rfl (lv_at hl 1 rfl) ?_
      refine xk_bipush hx hb dX5_order_259 (by decide) ?_
      obtain ⟨x6, ex6, hf⟩ := x_bind hf
      refine xc_wv (As := [.int (iI 59)]) (rest := []) ⟨hx, hb, hml, hown, hts⟩ (c5_sign l dC dI cs a _ (s5_pos (s5_ors x g2) (g5_pos x + 1)) 59  _ ex6) (cwV 1 hts gX5_order_X5_sign rfl rfl rfl cdX5_sign ⟨Nat.le_of_ble_eq_true rfl, Nat.le_of_ble_eq_true rfl⟩) hK hP (x_addr hD rfl) hS hA [0, 1, 2, 3, 4, 5, 6, 7] rfl (by decide) rfl 0 rfl rfl rfl hl.1 rfl (Nat.le_of_ble_eq_true rfl) dX5_order_261 ⟨Nat.zero_le _, Nat.zero_le _⟩ (fun H locs hP hS => ?_)
      have hP : va_P (dC, dI) vwCl (w5 cs a x6) H := hP
      obtain rfl := Option.some.inj hf
      exact xe_wv hx hb hr hlocks hS hP dX5_order_264
    · have hf := c5f c5
      obtain ⟨c7a, c7b, c7t, c7f⟩ := x_eqE hf
      by_cases c7 : v1 = 109
      · have hf := c7t c7
        refine xk_tabIn (tgt := 198) hx hb c7a c7 dX5_order_25 (by decide) rfl (by decide) ?_
        refine lv_aload_n hx hb dX5_order_198 rfl (lv_at hl 1 rfl) ?_
        refine va_get (D := (dC, dI)) (ci := 5) (v := .ref (a 7)) (C := RX5) (T := TX5) (N := 13) hx hb hts hin5 hown hK hP 0 rfl rfl 12 (by decide) (hts (.fieldLink RX5 33 "BoatRunsModel" "orders" "[I") (by decide +kernel)) (fun _ h9 => h9) rfl dX5_order_199 ?_
        refine xk_iconst hx hb dX5_order_202 ?_
        refine lv_iload_n hx hb dX5_order_203 rfl (lv_at hl 2 rfl) ?_
        refine xk_imul hx hb dX5_order_204 ?_
        refine xk_iconst hx hb dX5_order_205 ?_
        refine xk_iadd hx hb dX5_order_206 ?_
        refine lv_aload_n hx hb dX5_order_207 rfl (lv_at hl 1 rfl) ?_
        refine xk_iconst hx hb dX5_order_208 ?_
        refine xk_iconst hx hb dX5_order_209 ?_
        refine xk_sipush hx hb dX5_order_210 (by decide) ?_
        obtain ⟨⟨v9, x8⟩, ex8, hf⟩ := x_bind hf
        refine xc_wi (As := [.int (iI 3), .int (iI 0), .int (iI 999)]) (rest := [.int (iI ((3 * p0) + 1)), .ref (a 7)]) ⟨hx, hb, hml, hown, hts⟩ (c5_number l dC dI cs a _ (s5_pos (s5_ors x g2) (g5_pos x + 1)) 3 0 999  _ ex8) (cwV 3 hts gX5_order_X5_number rfl rfl rfl cdX5_number ⟨Nat.le_of_ble_eq_true rfl, Nat.le_of_ble_eq_true rfl⟩) hK hP (x_addr hD rfl) hS hA [0, 1, 2, 3, 4, 5, 6, 7] rfl (by decide) rfl 0 rfl rfl rfl hl.1 rfl (Nat.le_of_ble_eq_true rfl) dX5_order_213 ⟨Nat.zero_le _, Nat.zero_le _⟩ (fun H locs hP hS => ?_)
        have hP : va_P (dC, dI) vwCl (w5 cs a x8) H := hP
        obtain ⟨g11, eg11, hf⟩ := x_bind hf
        refine xk_iast (f := g5_ors x8) hx hb hK hP (x_addr hD rfl) hS 7 0 eg11 (by decide) rfl rfl dX5_order_216 (fun H locs hP hS => ?_)
        have hP : va_P (dC, dI) vwCl (w5C cs a (g5_thr x8) (g5_acts x8) (g5_typ x8) (g5_lat x8) (g5_pos x8) (g5_wra x8) (g5_now x8) (g5_put x8) (g5_was x8) (g5_txt x8) (g5_lef x8) (g5_abo x8) g11) H := hP
        refine lv_aload_n hx hb dX5_order_217 rfl (lv_at hl 1 rfl) ?_
        refine xk_bipush hx hb dX5_order_218 (by decide) ?_
        obtain ⟨x12, ex12, hf⟩ := x_bind hf
        refine xc_wv (As := [.int (iI 43)]) (rest := []) ⟨hx, hb, hml, hown, hts⟩ (c5_sign l dC dI cs a _ (s5_ors x8 g11) 43  _ ex12) (cwV 1 hts gX5_order_X5_sign rfl rfl rfl cdX5_sign ⟨Nat.le_of_ble_eq_true rfl, Nat.le_of_ble_eq_true rfl⟩) hK hP (x_addr hD rfl) hS hA [0, 1, 2, 3, 4, 5, 6, 7] rfl (by decide) rfl 0 rfl rfl rfl hl.1 rfl (Nat.le_of_ble_eq_true rfl) dX5_order_220 ⟨Nat.zero_le _, Nat.zero_le _⟩ (fun H locs hP hS => ?_)
        have hP : va_P (dC, dI) vwCl (w5 cs a x12) H := hP
        refine lv_aload_n hx hb dX5_order_223 rfl (lv_at hl 1 rfl) ?_
        refine va_get (D := (dC, dI)) (ci := 5) (v := .ref (a 7)) (C := RX5) (T := TX5) (N := 13) hx hb hts hin5 hown hK hP 0 rfl rfl 12 (by decide) (hts (.fieldLink RX5 33 "BoatRunsModel" "orders" "[I") (by decide +kernel)) (fun _ h9 => h9) rfl dX5_order_224 ?_
        refine xk_iconst hx hb dX5_order_227 ?_
        refine lv_iload_n hx hb dX5_order_228 rfl (lv_at hl 2 rfl) ?_
        refine xk_imul hx hb dX5_order_229 ?_
        refine xk_iconst hx hb dX5_order_230 ?_
        refine xk_iadd hx hb dX5_order_231 ?_
        refine lv_aload_n hx hb dX5_order_232 rfl (lv_at hl 1 rfl) ?_
        refine xk_iconst hx hb dX5_order_233 ?_
        refine xk_iconst hx hb dX5_order_234 ?_
        refine xk_sipush hx hb dX5_order_235 (by decide) ?_
        obtain ⟨⟨v14, x13⟩, ex13, hf⟩ := x_bind hf
        refine xc_wi (As := [.int (iI 3), .int (iI 0), .int (iI 999)]) (rest := [.int (iI ((3 * p0) + 2)), .ref (a 7)]) ⟨hx, hb, hml, hown, hts⟩ (c5_number l dC dI cs a _ x12 3 0 999  _ ex13) (cwV 3 hts gX5_order_X5_number rfl rfl rfl cdX5_number ⟨Nat.le_of_ble_eq_true rfl, Nat.le_of_ble_eq_true rfl⟩) hK hP (x_addr hD rfl) hS hA [0, 1, 2, 3, 4, 5, 6, 7] rfl (by decide) rfl 0 rfl rfl rfl hl.1 rfl (Nat.le_of_ble_eq_true rfl) dX5_order_238 ⟨Nat.zero_le _, Nat.zero_le _⟩ (fun H locs hP hS => ?_)
        have hP : va_P (dC, dI) vwCl (w5 cs a x13) H := hP
        obtain ⟨g16, eg16, hf⟩ := x_bind hf
        refine xk_iast (f := g5_ors x13) hx hb hK hP (x_addr hD rfl) hS 7 0 eg16 (by decide) rfl rfl dX5_order_241 (fun H locs hP hS => ?_)
        have hP : va_P (dC, dI) vwCl (w5C cs a (g5_thr x13) (g5_acts x13) (g5_typ x13) (g5_lat x13) (g5_pos x13) (g5_wra x13) (g5_now x13) (g5_put x13) (g5_was x13) (g5_txt x13) (g5_lef x13) (g5_abo x13) g16) H := hP
        refine lv_goto (tgt := 258) hx hb dX5_order_242 (by decide) ?_
        refine lv_aload_n hx hb dX5_order_258 rfl (lv_at hl 1 rfl) ?_
        refine xk_bipush hx hb dX5_order_259 (by decide) ?_
        obtain ⟨x17, ex17, hf⟩ := x_bind hf
        refine xc_wv (As := [.int (iI 59)]) (rest := []) ⟨hx, hb, hml, hown, hts⟩ (c5_sign l dC dI cs a _ (s5_ors x13 g16) 59  _ ex17) (cwV 1 hts gX5_order_X5_sign rfl rfl rfl cdX5_sign ⟨Nat.le_of_ble_eq_true rfl, Nat.le_of_ble_eq_true rfl⟩) hK hP (x_addr hD rfl) hS hA [0, 1, 2, 3, 4, 5, 6, 7] rfl (by decide) rfl 0 rfl rfl rfl hl.1 rfl (Nat.le_of_ble_eq_true rfl) dX5_order_261 ⟨Nat.zero_le _, Nat.zero_le _⟩ (fun H locs hP hS => ?_)
        have hP : va_P (dC, dI) vwCl (w5 cs a x17) H := hP
        obtain rfl := Option.some.inj hf
        exact xe_wv hx hb hr hlocks hS hP dX5_order_264
      · have hf := c7f c7
        obtain ⟨c18a, c18b, c18t, c18f⟩ := x_eqE hf
        by_cases c18 : v1 = 112
        · have hf := c18t c18
          refine xk_tabIn (tgt := 100) hx hb c18a c18 dX5_order_25 (by decide) rfl (by decide) ?_
          refine lv_aload_n hx hb dX5_order_100 rfl (lv_at hl 1 rfl) ?_
          refine va_get (D := (dC, dI)) (ci := 5) (v := .ref (a 7)) (C := RX5) (T := TX5) (N := 13) hx hb hts hin5 hown hK hP 0 rfl rfl 12 (by decide) (hts (.fieldLink RX5 33 "BoatRunsModel" "orders" "[I") (by decide +kernel)) (fun _ h9 => h9) rfl dX5_order_101 ?_
          refine xk_iconst hx hb dX5_order_104 ?_
          refine lv_iload_n hx hb dX5_order_105 rfl (lv_at hl 2 rfl) ?_
          refine xk_imul hx hb dX5_order_106 ?_
          refine xk_iconst hx hb dX5_order_107 ?_
          refine xk_iadd hx hb dX5_order_108 ?_
          refine lv_aload_n hx hb dX5_order_109 rfl (lv_at hl 1 rfl) ?_
          refine xk_iconst hx hb dX5_order_110 ?_
          refine xk_iconst hx hb dX5_order_111 ?_
          refine xk_sipush hx hb dX5_order_112 (by decide) ?_
          obtain ⟨⟨v20, x19⟩, ex19, hf⟩ := x_bind hf
          refine xc_wi (As := [.int (iI 3), .int (iI 0), .int (iI 999)]) (rest := [.int (iI ((3 * p0) + 1)), .ref (a 7)]) ⟨hx, hb, hml, hown, hts⟩ (c5_number l dC dI cs a _ (s5_pos (s5_ors x g2) (g5_pos x + 1)) 3 0 999  _ ex19) (cwV 3 hts gX5_order_X5_number rfl rfl rfl cdX5_number ⟨Nat.le_of_ble_eq_true rfl, Nat.le_of_ble_eq_true rfl⟩) hK hP (x_addr hD rfl) hS hA [0, 1, 2, 3, 4, 5, 6, 7] rfl (by decide) rfl 0 rfl rfl rfl hl.1 rfl (Nat.le_of_ble_eq_true rfl) dX5_order_115 ⟨Nat.zero_le _, Nat.zero_le _⟩ (fun H locs hP hS => ?_)
          have hP : va_P (dC, dI) vwCl (w5 cs a x19) H := hP
          obtain ⟨g22, eg22, hf⟩ := x_bind hf
          refine xk_iast (f := g5_ors x19) hx hb hK hP (x_addr hD rfl) hS 7 0 eg22 (by decide) rfl rfl dX5_order_118 (fun H locs hP hS => ?_)
          have hP : va_P (dC, dI) vwCl (w5C cs a (g5_thr x19) (g5_acts x19) (g5_typ x19) (g5_lat x19) (g5_pos x19) (g5_wra x19) (g5_now x19) (g5_put x19) (g5_was x19) (g5_txt x19) (g5_lef x19) (g5_abo x19) g22) H := hP
          refine lv_aload_n hx hb dX5_order_119 rfl (lv_at hl 1 rfl) ?_
          refine xk_bipush hx hb dX5_order_120 (by decide) ?_
          obtain ⟨x23, ex23, hf⟩ := x_bind hf
          refine xc_wv (As := [.int (iI 44)]) (rest := []) ⟨hx, hb, hml, hown, hts⟩ (c5_sign l dC dI cs a _ (s5_ors x19 g22) 44  _ ex23) (cwV 1 hts gX5_order_X5_sign rfl rfl rfl cdX5_sign ⟨Nat.le_of_ble_eq_true rfl, Nat.le_of_ble_eq_true rfl⟩) hK hP (x_addr hD rfl) hS hA [0, 1, 2, 3, 4, 5, 6, 7] rfl (by decide) rfl 0 rfl rfl rfl hl.1 rfl (Nat.le_of_ble_eq_true rfl) dX5_order_122 ⟨Nat.zero_le _, Nat.zero_le _⟩ (fun H locs hP hS => ?_)
          have hP : va_P (dC, dI) vwCl (w5 cs a x23) H := hP
          refine lv_aload_n hx hb dX5_order_125 rfl (lv_at hl 1 rfl) ?_
          refine va_get (D := (dC, dI)) (ci := 5) (v := .ref (a 7)) (C := RX5) (T := TX5) (N := 13) hx hb hts hin5 hown hK hP 0 rfl rfl 12 (by decide) (hts (.fieldLink RX5 33 "BoatRunsModel" "orders" "[I") (by decide +kernel)) (fun _ h9 => h9) rfl dX5_order_126 ?_
          refine xk_iconst hx hb dX5_order_129 ?_
          refine lv_iload_n hx hb dX5_order_130 rfl (lv_at hl 2 rfl) ?_
          refine xk_imul hx hb dX5_order_131 ?_
          refine xk_iconst hx hb dX5_order_132 ?_
          refine xk_iadd hx hb dX5_order_133 ?_
          refine lv_aload_n hx hb dX5_order_134 rfl (lv_at hl 1 rfl) ?_
          refine xk_iconst hx hb dX5_order_135 ?_
          refine xk_iconst hx hb dX5_order_136 ?_
          refine xk_bipush hx hb dX5_order_137 (by decide) ?_
          obtain ⟨⟨v25, x24⟩, ex24, hf⟩ := x_bind hf
          refine xc_wi (As := [.int (iI 2), .int (iI 1), .int (iI 50)]) (rest := [.int (iI ((3 * p0) + 2)), .ref (a 7)]) ⟨hx, hb, hml, hown, hts⟩ (c5_number l dC dI cs a _ x23 2 1 50  _ ex24) (cwV 3 hts gX5_order_X5_number rfl rfl rfl cdX5_number ⟨Nat.le_of_ble_eq_true rfl, Nat.le_of_ble_eq_true rfl⟩) hK hP (x_addr hD rfl) hS hA [0, 1, 2, 3, 4, 5, 6, 7] rfl (by decide) rfl 0 rfl rfl rfl hl.1 rfl (Nat.le_of_ble_eq_true rfl) dX5_order_139 ⟨Nat.zero_le _, Nat.zero_le _⟩ (fun H locs hP hS => ?_)
          have hP : va_P (dC, dI) vwCl (w5 cs a x24) H := hP
          obtain ⟨g27, eg27, hf⟩ := x_bind hf
          refine xk_iast (f := g5_ors x24) hx hb hK hP (x_addr hD rfl) hS 7 0 eg27 (by decide) rfl rfl dX5_order_142 (fun H locs hP hS => ?_)
          have hP : va_P (dC, dI) vwCl (w5C cs a (g5_thr x24) (g5_acts x24) (g5_typ x24) (g5_lat x24) (g5_pos x24) (g5_wra x24) (g5_now x24) (g5_put x24) (g5_was x24) (g5_txt x24) (g5_lef x24) (g5_abo x24) g27) H := hP
          refine lv_goto (tgt := 258) hx hb dX5_order_143 (by decide) ?_
          refine lv_aload_n hx hb dX5_order_258 rfl (lv_at hl 1 rfl) ?_
          refine xk_bipush hx hb dX5_order_259 (by decide) ?_
          obtain ⟨x28, ex28, hf⟩ := x_bind hf
          refine xc_wv (As := [.int (iI 59)]) (rest := []) ⟨hx, hb, hml, hown, hts⟩ (c5_sign l dC dI cs a _ (s5_ors x24 g27) 59  _ ex28) (cwV 1 hts gX5_order_X5_sign rfl rfl rfl cdX5_sign ⟨Nat.le_of_ble_eq_true rfl, Nat.le_of_ble_eq_true rfl⟩) hK hP (x_addr hD rfl) hS hA [0, 1, 2, 3, 4, 5, 6, 7] rfl (by decide) rfl 0 rfl rfl rfl hl.1 rfl (Nat.le_of_ble_eq_true rfl) dX5_order_261 ⟨Nat.zero_le _, Nat.zero_le _⟩ (fun H locs hP hS => ?_)
          have hP : va_P (dC, dI) vwCl (w5 cs a x28) H := hP
          obtain rfl := Option.some.inj hf
          exact xe_wv hx hb hr hlocks hS hP dX5_order_264
        · have hf := c18f c18
          obtain ⟨c29a, c29b, c29t, c29f⟩ := x_eqE hf
          by_cases c29 : v1 = 115
          · have hf := c29t c29
            refine xk_tabIn (tgt := 146) hx hb c29a c29 dX5_order_25 (by decide) rfl (by decide) ?_
            refine lv_aload_n hx hb dX5_order_146 rfl (lv_at hl 1 rfl) ?_
            obtain ⟨v30, ev30, hf⟩ := x_bind hf
            refine xc_ri (As := []) (rest := []) ⟨hx, hb, hml, hown, hts⟩ (c5_look l dC dI cs a (s5_pos (s5_ors x g2) (g5_pos x + 1))  _ ev30) (cwV 0 hts gX5_order_X5_look rfl rfl rfl cdX5_look ⟨Nat.le_of_ble_eq_true rfl, Nat.le_of_ble_eq_true rfl⟩) hK hP [0, 1, 2, 3, 4, 5, 6, 7] rfl 0 rfl rfl rfl hl.1 rfl (Nat.le_of_ble_eq_true rfl) dX5_order_147 ⟨Nat.zero_le _, Nat.zero_le _⟩ ?_
            refine xk_bipush hx hb dX5_order_150 (by decide) ?_
            refine xk_bipush hx hb dX5_order_152 (by decide) ?_
            obtain ⟨v31, ev31, hf⟩ := x_bind hf
            refine xc_si (As := [.int (iI v30), .int (iI 49), .int (iI 57)]) (rest := []) ⟨hx, hb, hml, hown, hts⟩ (c5_in l v30 49 57 _ ev31) (va_cwS 3 hts gX5_order_X5_in rfl rfl rfl cdX5_in ⟨Nat.le_of_ble_eq_true rfl, Nat.le_of_ble_eq_true rfl⟩) rfl hl.1 rfl (Nat.le_of_ble_eq_true rfl) dX5_order_154 ⟨Nat.zero_le _, Nat.zero_le _⟩ ?_
            obtain ⟨c32a, c32b, c32t, c32f⟩ := x_eqE hf
            refine xk_if_ne (tgt := 168) hx hb c32a dX5_order_157 (by decide) (fun c32 => ?_) (fun c32 => ?_)
            · have hf := c32t c32
              refine lv_aload_n hx hb dX5_order_160 rfl (lv_at hl 1 rfl) ?_
              refine lv_aload_n hx hb dX5_order_161 rfl (lv_at hl 1 rfl) ?_
              refine va_get (D := (dC, dI)) (ci := 5) (v := .int (iI (g5_pos x + 1))) (C := RX5) (T := TX5) (N := 13) hx hb hts hin5 hown hK hP 0 rfl rfl 10 (by decide) (hts (.fieldLink RX5 183 "BoatRunsModel" "at" "I") (by decide +kernel)) (fun _ h9 => h9) rfl dX5_order_162 ?_
              obtain ⟨x33, ex33, hf⟩ := x_bind hf
              refine xc_wv (As := [.int (iI (g5_pos x + 1))]) (rest := []) ⟨hx, hb, hml, hown, hts⟩ (c5_wrong l dC dI cs a _ (s5_pos (s5_ors x g2) (g5_pos x + 1)) (g5_pos x + 1)  _ ex33) (cwV 1 hts gX5_order_X5_wrong rfl rfl rfl cdX5_wrong ⟨Nat.le_of_ble_eq_true rfl, Nat.le_of_ble_eq_true rfl⟩) hK hP (x_addr hD rfl) hS hA [0, 1, 2, 3, 4, 5, 6, 7] rfl (by decide) rfl 0 rfl rfl rfl hl.1 rfl (Nat.le_of_ble_eq_true rfl) dX5_order_165 ⟨Nat.zero_le _, Nat.zero_le _⟩ (fun H locs hP hS => ?_)
              have hP : va_P (dC, dI) vwCl (w5 cs a x33) H := hP
              refine lv_aload_n hx hb dX5_order_168 rfl (lv_at hl 1 rfl) ?_
              refine va_get (D := (dC, dI)) (ci := 5) (v := .ref (a 7)) (C := RX5) (T := TX5) (N := 13) hx hb hts hin5 hown hK hP 0 rfl rfl 12 (by decide) (hts (.fieldLink RX5 33 "BoatRunsModel" "orders" "[I") (by decide +kernel)) (fun _ h9 => h9) rfl dX5_order_169 ?_
              refine xk_iconst hx hb dX5_order_172 ?_
              refine lv_iload_n hx hb dX5_order_173 rfl (lv_at hl 2 rfl) ?_
              refine xk_imul hx hb dX5_order_174 ?_
              refine xk_iconst hx hb dX5_order_175 ?_
              refine xk_iadd hx hb dX5_order_176 ?_
              refine lv_aload_n hx hb dX5_order_177 rfl (lv_at hl 1 rfl) ?_
              obtain ⟨v34, ev34, hf⟩ := x_bind hf
              refine xc_ri (As := []) (rest := [.int (iI ((3 * p0) + 1)), .ref (a 7)]) ⟨hx, hb, hml, hown, hts⟩ (c5_look l dC dI cs a x33  _ ev34) (cwV 0 hts gX5_order_X5_look rfl rfl rfl cdX5_look ⟨Nat.le_of_ble_eq_true rfl, Nat.le_of_ble_eq_true rfl⟩) hK hP [0, 1, 2, 3, 4, 5, 6, 7] rfl 0 rfl rfl rfl hl.1 rfl (Nat.le_of_ble_eq_true rfl) dX5_order_178 ⟨Nat.zero_le _, Nat.zero_le _⟩ ?_
              refine xk_bipush hx hb dX5_order_181 (by decide) ?_
              refine xk_isub hx hb dX5_order_183 ?_
              obtain ⟨g35, eg35, hf⟩ := x_bind hf
              refine xk_iast (f := g5_ors x33) hx hb hK hP (x_addr hD rfl) hS 7 0 eg35 (by decide) rfl rfl dX5_order_184 (fun H locs hP hS => ?_)
              have hP : va_P (dC, dI) vwCl (w5C cs a (g5_thr x33) (g5_acts x33) (g5_typ x33) (g5_lat x33) (g5_pos x33) (g5_wra x33) (g5_now x33) (g5_put x33) (g5_was x33) (g5_txt x33) (g5_lef x33) (g5_abo x33) g35) H := hP
              refine lv_aload_n hx hb dX5_order_185 rfl (lv_at hl 1 rfl) ?_
              refine lv_dup hx hb dX5_order_186 rfl ?_
              refine va_get (D := (dC, dI)) (ci := 5) (v := .int (iI (g5_pos x33))) (C := RX5) (T := TX5) (N := 13) hx hb hts hin5 hown hK hP 0 rfl rfl 10 (by decide) (hts (.fieldLink RX5 183 "BoatRunsModel" "at" "I") (by decide +kernel)) (fun _ h9 => h9) rfl dX5_order_187 ?_
              refine xk_iconst hx hb dX5_order_190 ?_
              refine xk_iadd hx hb dX5_order_191 ?_
              refine va_put (D := (dC, dI)) (ci := 5) (v := .int (iI (g5_pos x33 + 1))) (ty := .int) (C := RX5) (T := TX5) (N := 13) hx hb hts hin5 tyX5 tyX5_ok nmX5 hown hK hP (x_addr hD rfl) hS 0 rfl rfl 10 (by decide) (hts (.fieldLink RX5 183 "BoatRunsModel" "at" "I") (by decide +kernel)) (fun _ h9 => h9) rfl (by decide +kernel) rfl rfl (Nat.le_of_ble_eq_true rfl) dX5_order_192 (fun H locs hP _ hS => ?_)
              have hP : va_P (dC, dI) vwCl (w5C cs a (g5_thr x33) (g5_acts x33) (g5_typ x33) (g5_lat x33) (g5_pos x33 + 1) (g5_wra x33) (g5_now x33) (g5_put x33) (g5_was x33) (g5_txt x33) (g5_lef x33) (g5_abo x33) g35) H := hP
              refine lv_goto (tgt := 258) hx hb dX5_order_195 (by decide) ?_
              refine lv_aload_n hx hb dX5_order_258 rfl (lv_at hl 1 rfl) ?_
              refine xk_bipush hx hb dX5_order_259 (by decide) ?_
              obtain ⟨x36, ex36, hf⟩ := x_bind hf
              refine xc_wv (As := [.int (iI 59)]) (rest := []) ⟨hx, hb, hml, hown, hts⟩ (c5_sign l dC dI cs a _ (s5_pos (s5_ors x33 g35) (g5_pos x33 + 1)) 59  _ ex36) (cwV 1 hts gX5_order_X5_sign rfl rfl rfl cdX5_sign ⟨Nat.le_of_ble_eq_true rfl, Nat.le_of_ble_eq_true rfl⟩) hK hP (x_addr hD rfl) hS hA [0, 1, 2, 3, 4, 5, 6, 7] rfl (by decide) rfl 0 rfl rfl rfl hl.1 rfl (Nat.le_of_ble_eq_true rfl) dX5_order_261 ⟨Nat.zero_le _, Nat.zero_le _⟩ (fun H locs hP hS => ?_)
              have hP : va_P (dC, dI) vwCl (w5 cs a x36) H := hP
              obtain rfl := Option.some.inj hf
              exact xe_wv hx hb hr hlocks hS hP dX5_order_264
            · have hf := c32f c32
              refine lv_aload_n hx hb dX5_order_168 rfl (lv_at hl 1 rfl) ?_
              refine va_get (D := (dC, dI)) (ci := 5) (v := .ref (a 7)) (C := RX5) (T := TX5) (N := 13) hx hb hts hin5 hown hK hP 0 rfl rfl 12 (by decide) (hts (.fieldLink RX5 33 "BoatRunsModel" "orders" "[I") (by decide +kernel)) (fun _ h9 => h9) rfl dX5_order_169 ?_
              refine xk_iconst hx hb dX5_order_172 ?_
              refine lv_iload_n hx hb dX5_order_173 rfl (lv_at hl 2 rfl) ?_
              refine xk_imul hx hb dX5_order_174 ?_
              refine xk_iconst hx hb dX5_order_175 ?_
              refine xk_iadd hx hb dX5_order_176 ?_
              refine lv_aload_n hx hb dX5_order_177 rfl (lv_at hl 1 rfl) ?_
              obtain ⟨v37, ev37, hf⟩ := x_bind hf
              refine xc_ri (As := []) (rest := [.int (iI ((3 * p0) + 1)), .ref (a 7)]) ⟨hx, hb, hml, hown, hts⟩ (c5_look l dC dI cs a (s5_pos (s5_ors x g2) (g5_pos x + 1))  _ ev37) (cwV 0 hts gX5_order_X5_look rfl rfl rfl cdX5_look ⟨Nat.le_of_ble_eq_true rfl, Nat.le_of_ble_eq_true rfl⟩) hK hP [0, 1, 2, 3, 4, 5, 6, 7] rfl 0 rfl rfl rfl hl.1 rfl (Nat.le_of_ble_eq_true rfl) dX5_order_178 ⟨Nat.zero_le _, Nat.zero_le _⟩ ?_
              refine xk_bipush hx hb dX5_order_181 (by decide) ?_
              refine xk_isub hx hb dX5_order_183 ?_
              obtain ⟨g38, eg38, hf⟩ := x_bind hf
              refine xk_iast (f := g2) hx hb hK hP (x_addr hD rfl) hS 7 0 eg38 (by decide) rfl rfl dX5_order_184 (fun H locs hP hS => ?_)
              have hP : va_P (dC, dI) vwCl (w5C cs a (g5_thr x) (g5_acts x) (g5_typ x) (g5_lat x) (g5_pos x + 1) (g5_wra x) (g5_now x) (g5_put x) (g5_was x) (g5_txt x) (g5_lef x) (g5_abo x) g38) H := hP
              refine lv_aload_n hx hb dX5_order_185 rfl (lv_at hl 1 rfl) ?_
              refine lv_dup hx hb dX5_order_186 rfl ?_
              refine va_get (D := (dC, dI)) (ci := 5) (v := .int (iI (g5_pos x + 1))) (C := RX5) (T := TX5) (N := 13) hx hb hts hin5 hown hK hP 0 rfl rfl 10 (by decide) (hts (.fieldLink RX5 183 "BoatRunsModel" "at" "I") (by decide +kernel)) (fun _ h9 => h9) rfl dX5_order_187 ?_
              refine xk_iconst hx hb dX5_order_190 ?_
              refine xk_iadd hx hb dX5_order_191 ?_
              refine va_put (D := (dC, dI)) (ci := 5) (v := .int (iI (g5_pos x + 1 + 1))) (ty := .int) (C := RX5) (T := TX5) (N := 13) hx hb hts hin5 tyX5 tyX5_ok nmX5 hown hK hP (x_addr hD rfl) hS 0 rfl rfl 10 (by decide) (hts (.fieldLink RX5 183 "BoatRunsModel" "at" "I") (by decide +kernel)) (fun _ h9 => h9) rfl (by decide +kernel) rfl rfl (Nat.le_of_ble_eq_true rfl) dX5_order_192 (fun H locs hP _ hS => ?_)
              have hP : va_P (dC, dI) vwCl (w5C cs a (g5_thr x) (g5_acts x) (g5_typ x) (g5_lat x) (g5_pos x + 1 + 1) (g5_wra x) (g5_now x) (g5_put x) (g5_was x) (g5_txt x) (g5_lef x) (g5_abo x) g38) H := hP
              refine lv_goto (tgt := 258) hx hb dX5_order_195 (by decide) ?_
              refine lv_aload_n hx hb dX5_order_258 rfl (lv_at hl 1 rfl) ?_
              refine xk_bipush hx hb dX5_order_259 (by decide) ?_
              obtain ⟨x39, ex39, hf⟩ := x_bind hf
              refine xc_wv (As := [.int (iI 59)]) (rest := []) ⟨hx, hb, hml, hown, hts⟩ (c5_sign l dC dI cs a _ (s5_pos (s5_ors (s5_pos (s5_ors x g2) (g5_pos x + 1)) g38) (g5_pos x + 1 + 1)) 59  _ ex39) (cwV 1 hts gX5_order_X5_sign rfl rfl rfl cdX5_sign ⟨Nat.le_of_ble_eq_true rfl, Nat.le_of_ble_eq_true rfl⟩) hK hP (x_addr hD rfl) hS hA [0, 1, 2, 3, 4, 5, 6, 7] rfl (by decide) rfl 0 rfl rfl rfl hl.1 rfl (Nat.le_of_ble_eq_true rfl) dX5_order_261 ⟨Nat.zero_le _, Nat.zero_le _⟩ (fun H locs hP hS => ?_)
              have hP : va_P (dC, dI) vwCl (w5 cs a x39) H := hP
              obtain rfl := Option.some.inj hf
              exact xe_wv hx hb hr hlocks hS hP dX5_order_264
          · have hf := c29f c29
            have hdf : W p l e (headSpec wsX5_order ({ frames := 2, cells := 0, slots := 0, locals := 47 } : Room)).room s m ([.ref (a 0), .int (iI p0)] : List Value).toArray below meth c H locs 0 0 (MQ below (xQv (dC, dI) vwCl (w5 cs a x) (w5 cs a res) s.heap.size) ([.ref (a 0), .int (iI p0)] : List Value).toArray s 0 0 (va_A (w5 cs a x) s.heap.size)) (F0 m 248 ls []) := by
              refine lv_aload_n hx hb dX5_order_248 rfl (lv_at hl 1 rfl) ?_
              refine lv_aload_n hx hb dX5_order_249 rfl (lv_at hl 1 rfl) ?_
              refine va_get (D := (dC, dI)) (ci := 5) (v := .int (iI (g5_pos x + 1))) (C := RX5) (T := TX5) (N := 13) hx hb hts hin5 hown hK hP 0 rfl rfl 10 (by decide) (hts (.fieldLink RX5 183 "BoatRunsModel" "at" "I") (by decide +kernel)) (fun _ h9 => h9) rfl dX5_order_250 ?_
              refine xk_iconst hx hb dX5_order_253 ?_
              refine xk_isub hx hb dX5_order_254 ?_
              obtain ⟨x40, ex40, hf⟩ := x_bind hf
              refine xc_wv (As := [.int (iI (g5_pos x + 1 - 1))]) (rest := []) ⟨hx, hb, hml, hown, hts⟩ (c5_wrong l dC dI cs a _ (s5_pos (s5_ors x g2) (g5_pos x + 1)) (g5_pos x + 1 - 1)  _ ex40) (cwV 1 hts gX5_order_X5_wrong rfl rfl rfl cdX5_wrong ⟨Nat.le_of_ble_eq_true rfl, Nat.le_of_ble_eq_true rfl⟩) hK hP (x_addr hD rfl) hS hA [0, 1, 2, 3, 4, 5, 6, 7] rfl (by decide) rfl 0 rfl rfl rfl hl.1 rfl (Nat.le_of_ble_eq_true rfl) dX5_order_255 ⟨Nat.zero_le _, Nat.zero_le _⟩ (fun H locs hP hS => ?_)
              have hP : va_P (dC, dI) vwCl (w5 cs a x40) H := hP
              refine lv_aload_n hx hb dX5_order_258 rfl (lv_at hl 1 rfl) ?_
              refine xk_bipush hx hb dX5_order_259 (by decide) ?_
              obtain ⟨x41, ex41, hf⟩ := x_bind hf
              refine xc_wv (As := [.int (iI 59)]) (rest := []) ⟨hx, hb, hml, hown, hts⟩ (c5_sign l dC dI cs a _ x40 59  _ ex41) (cwV 1 hts gX5_order_X5_sign rfl rfl rfl cdX5_sign ⟨Nat.le_of_ble_eq_true rfl, Nat.le_of_ble_eq_true rfl⟩) hK hP (x_addr hD rfl) hS hA [0, 1, 2, 3, 4, 5, 6, 7] rfl (by decide) rfl 0 rfl rfl rfl hl.1 rfl (Nat.le_of_ble_eq_true rfl) dX5_order_261 ⟨Nat.zero_le _, Nat.zero_le _⟩ (fun H locs hP hS => ?_)
              have hP : va_P (dC, dI) vwCl (w5 cs a x41) H := hP
              obtain rfl := Option.some.inj hf
              exact xe_wv hx hb hr hlocks hS hP dX5_order_264
            rcases (show v1 = 102 ∨ v1 = 103 ∨ v1 = 104 ∨ v1 = 105 ∨ v1 = 106 ∨ v1 = 107 ∨ v1 = 110 ∨ v1 = 111 ∨ v1 = 113 ∨ v1 = 114 ∨ (v1 < 101 ∨ 115 < v1) by omega) with hq | hq | hq | hq | hq | hq | hq | hq | hq | hq | hq
            · exact xk_tabIn (tgt := 248) hx hb c29a hq dX5_order_25 (by decide) rfl (by decide) hdf
            · exact xk_tabIn (tgt := 248) hx hb c29a hq dX5_order_25 (by decide) rfl (by decide) hdf
            · exact xk_tabIn (tgt := 248) hx hb c29a hq dX5_order_25 (by decide) rfl (by decide) hdf
            · exact xk_tabIn (tgt := 248) hx hb c29a hq dX5_order_25 (by decide) rfl (by decide) hdf
            · exact xk_tabIn (tgt := 248) hx hb c29a hq dX5_order_25 (by decide) rfl (by decide) hdf
            · exact xk_tabIn (tgt := 248) hx hb c29a hq dX5_order_25 (by decide) rfl (by decide) hdf
            · exact xk_tabIn (tgt := 248) hx hb c29a hq dX5_order_25 (by decide) rfl (by decide) hdf
            · exact xk_tabIn (tgt := 248) hx hb c29a hq dX5_order_25 (by decide) rfl (by decide) hdf
            · exact xk_tabIn (tgt := 248) hx hb c29a hq dX5_order_25 (by decide) rfl (by decide) hdf
            · exact xk_tabIn (tgt := 248) hx hb c29a hq dX5_order_25 (by decide) rfl (by decide) hdf
            · exact xk_tabOut (tgt := 248) hx hb c29a dX5_order_25 hq (by decide) hdf
theorem cdX5_order : yX5_order.cls = RX5 ∧ yX5_order.cls ≠ "java/lang/invoke/MethodHandle" ∧ yX5_order.cls ≠ "java/lang/invoke/VarHandle" ∧ (parseMethodDescriptor yX5_order.desc).map (fun d => d.parameters.length) = some 1 := by decide +kernel

set_option maxHeartbeats 4000000 in
set_option maxRecDepth 100000 in
theorem c5_storm (l : Launch) (dC : Nat → ClassId) (dI : Nat → Nat → Nat) (cs : Nat → ClassId) (a : Nat → Nat) (sz : Nat) (x : ModS) (p0 : Int) (res : Int × ModS) (hf : f5_storm x p0 = some res) : Met l yX5_storm wsX5_storm ({ frames := 4, cells := 0, slots := 0, locals := 95 } : Room) (va_Pc [.ref (a 0), .int (iI p0)] (xPW (dC, dI) vwCl (w5 cs a x) (xT cs) sz)) (xQi (dC, dI) vwCl (w5 cs a x) (w5 cs a res.2) sz res.1) 0 0 (va_A (w5 cs a x) sz) := by
  refine Met.ofW (cc := cX5_storm) (maxL := 2) (ret := (some .int)) (by decide) rfl ?_
  intro p e s m args below meth c s₁ B hml hv
  obtain ⟨rfl, hsz, hP, hK, hD0⟩ := hv
  have hx := B.exec
  have hb := B.bytes
  have hr := B.returns
  have hts := atoms_spec (ws := wsX5_storm) B.pre
  have hown : s.vm.findClass RX5 = some m.cls := findClass_of_methodNamed B.named
  have hlocks := B.notSynchronized
  have hin5 : ∀ w ∈ wsX50, w ∈ wsX5_storm := by decide +kernel
  subst hsz
  have hD := hD0.self (sz := s.heap.size)
  have hA : ∀ z9 : Nat, s.heap.size ≤ z9 → va_A (w5 cs a x) s.heap.size z9 := fun z9 h => Or.inr h
  have hS : va_S (va_A (w5 cs a x) s.heap.size) s.heap s.heap [] := va_S.rf
  have hl := lv_entry [.ref (a 0), .int (iI p0)] (n := 2) (Nat.le_of_ble_eq_true rfl)
  rw [lg_entry_eq]
  generalize (lg_sl [.ref (a 0), .int (iI p0)] ++ List.replicate (2 - (lg_sl [.ref (a 0), .int (iI p0)]).length) Slot.unset).toArray = ls at hl ⊢
  have hl : lv_has ls 2 [(0, .ref (a 0)), (1, .int (iI p0))] := hl
  unfold f5_storm at hf
  refine lv_aload_n hx hb dX5_storm_0 rfl (lv_at hl 0 rfl) ?_
  refine lv_iload_n hx hb dX5_storm_1 rfl (lv_at hl 1 rfl) ?_
  refine xk_iconst hx hb dX5_storm_2 ?_
  refine xk_bipush hx hb dX5_storm_3 (by decide) ?_
  obtain ⟨v1, ev1, hf⟩ := x_bind hf
  refine xc_si (As := [.int (iI p0), .int (iI 1), .int (iI 9)]) (rest := [.ref (a 0)]) ⟨hx, hb, hml, hown, hts⟩ (c5_in l p0 1 9 _ ev1) (va_cwS 3 hts gX5_storm_X5_in rfl rfl rfl cdX5_in ⟨Nat.le_of_ble_eq_true rfl, Nat.le_of_ble_eq_true rfl⟩) rfl hl.1 rfl (Nat.le_of_ble_eq_true rfl) dX5_storm_5 ⟨Nat.zero_le _, Nat.zero_le _⟩ ?_
  obtain ⟨c2a, c2b, c2t, c2f⟩ := x_eqE hf
  refine xk_if_eq (tgt := 15) hx hb c2a dX5_storm_8 (by decide) (fun c2 => ?_) (fun c2 => ?_)
  · have hf := c2t c2
    refine xk_iconst hx hb dX5_storm_15 ?_
    refine va_put (D := (dC, dI)) (ci := 5) (v := .int (iI 1)) (ty := .int) (C := RX5) (T := TX5) (N := 13) hx hb hts hin5 tyX5 tyX5_ok nmX5 hown hK hP (x_addr hD rfl) hS 0 rfl rfl 0 (by decide) (hts (.fieldLink RX5 1 "BoatRunsModel" "thrown" "I") (by decide +kernel)) (fun _ h9 => h9) rfl (by decide +kernel) rfl rfl (Nat.le_of_ble_eq_true rfl) dX5_storm_16 (fun H locs hP _ hS => ?_)
    have hP : va_P (dC, dI) vwCl (w5C cs a 1 (g5_acts x) (g5_typ x) (g5_lat x) (g5_pos x) (g5_wra x) (g5_now x) (g5_put x) (g5_was x) (g5_txt x) (g5_lef x) (g5_abo x) (g5_ors x)) H := hP
    refine lv_aload_n hx hb dX5_storm_19 rfl (lv_at hl 0 rfl) ?_
    refine va_get (D := (dC, dI)) (ci := 5) (v := .int (iI 1)) (C := RX5) (T := TX5) (N := 13) hx hb hts hin5 hown hK hP 0 rfl rfl 0 (by decide) (hts (.fieldLink RX5 1 "BoatRunsModel" "thrown" "I") (by decide +kernel)) (fun _ h9 => h9) rfl dX5_storm_20 ?_
    refine xk_if_le (tgt := 28) hx hb (by decide) dX5_storm_23 (by decide) (fun c3 => ?_) (fun c3 => ?_)
    · refine xk_iconst hx hb dX5_storm_26 ?_
      obtain rfl := Option.some.inj hf
      exact xe_wi hx hb hr hlocks hS hP dX5_storm_27
    · exact absurd c3 (by decide)
  · have hf := c2f c2
    refine xk_iconst hx hb dX5_storm_11 ?_
    refine lv_goto (tgt := 16) hx hb dX5_storm_12 (by decide) ?_
    refine va_put (D := (dC, dI)) (ci := 5) (v := .int (iI 0)) (ty := .int) (C := RX5) (T := TX5) (N := 13) hx hb hts hin5 tyX5 tyX5_ok nmX5 hown hK hP (x_addr hD rfl) hS 0 rfl rfl 0 (by decide) (hts (.fieldLink RX5 1 "BoatRunsModel" "thrown" "I") (by decide +kernel)) (fun _ h9 => h9) rfl (by decide +kernel) rfl rfl (Nat.le_of_ble_eq_true rfl) dX5_storm_16 (fun H locs hP _ hS => ?_)
    have hP : va_P (dC, dI) vwCl (w5C cs a 0 (g5_acts x) (g5_typ x) (g5_lat x) (g5_pos x) (g5_wra x) (g5_now x) (g5_put x) (g5_was x) (g5_txt x) (g5_lef x) (g5_abo x) (g5_ors x)) H := hP
    refine lv_aload_n hx hb dX5_storm_19 rfl (lv_at hl 0 rfl) ?_
    refine va_get (D := (dC, dI)) (ci := 5) (v := .int (iI 0)) (C := RX5) (T := TX5) (N := 13) hx hb hts hin5 hown hK hP 0 rfl rfl 0 (by decide) (hts (.fieldLink RX5 1 "BoatRunsModel" "thrown" "I") (by decide +kernel)) (fun _ h9 => h9) rfl dX5_storm_20 ?_
    refine xk_if_le (tgt := 28) hx hb (by decide) dX5_storm_23 (by decide) (fun c4 => ?_) (fun c4 => ?_)
    · exact absurd c4 (by decide)
    · refine lv_aload_n hx hb dX5_storm_28 rfl (lv_at hl 0 rfl) ?_
      obtain ⟨x5, ex5, hf⟩ := x_bind hf
      refine xc_wv (As := []) (rest := []) ⟨hx, hb, hml, hown, hts⟩ (c5_save l dC dI cs a _ (s5_thr x 0)  _ ex5) (cwV 0 hts gX5_storm_X5_save rfl rfl rfl cdX5_save ⟨Nat.le_of_ble_eq_true rfl, Nat.le_of_ble_eq_true rfl⟩) hK hP (x_addr hD rfl) hS hA [0, 1, 2, 3, 4, 5, 6, 7] rfl (by decide) rfl 0 rfl rfl rfl hl.1 rfl (Nat.le_of_ble_eq_true rfl) dX5_storm_29 ⟨Nat.zero_le _, Nat.zero_le _⟩ (fun H locs hP hS => ?_)
      have hP : va_P (dC, dI) vwCl (w5 cs a x5) H := hP
      refine lv_aload_n hx hb dX5_storm_32 rfl (lv_at hl 0 rfl) ?_
      refine lv_iload_n hx hb dX5_storm_33 rfl (lv_at hl 1 rfl) ?_
      obtain ⟨⟨v7, x6⟩, ex6, hf⟩ := x_bind hf
      refine xc_wi (As := [.int (iI p0)]) (rest := []) ⟨hx, hb, hml, hown, hts⟩ (c5_stormBy l dC dI cs a _ x5 p0  _ ex6) (cwV 1 hts gX5_storm_X5_stormBy rfl rfl rfl cdX5_stormBy ⟨Nat.le_of_ble_eq_true rfl, Nat.le_of_ble_eq_true rfl⟩) hK hP (x_addr hD rfl) hS hA [0, 1, 2, 3, 4, 5, 6, 7] rfl (by decide) rfl 0 rfl rfl rfl hl.1 rfl (Nat.le_of_ble_eq_true rfl) dX5_storm_34 ⟨Nat.zero_le _, Nat.zero_le _⟩ (fun H locs hP hS => ?_)
      have hP : va_P (dC, dI) vwCl (w5 cs a x6) H := hP
      obtain rfl := Option.some.inj hf
      exact xe_wi hx hb hr hlocks hS hP dX5_storm_37
theorem cdX5_storm : yX5_storm.cls = RX5 ∧ yX5_storm.cls ≠ "java/lang/invoke/MethodHandle" ∧ yX5_storm.cls ≠ "java/lang/invoke/VarHandle" ∧ (parseMethodDescriptor yX5_storm.desc).map (fun d => d.parameters.length) = some 1 := by decide +kernel

set_option maxHeartbeats 4000000 in
set_option maxRecDepth 100000 in
theorem c5_tighten (l : Launch) (dC : Nat → ClassId) (dI : Nat → Nat → Nat) (cs : Nat → ClassId) (a : Nat → Nat) (sz : Nat) (x : ModS) (p0 : Int) (res : Int × ModS) (hf : f5_tighten x p0 = some res) : Met l yX5_tighten wsX5_tighten ({ frames := 2, cells := 0, slots := 0, locals := 43 } : Room) (va_Pc [.ref (a 0), .int (iI p0)] (xPW (dC, dI) vwCl (w5 cs a x) (xT cs) sz)) (xQi (dC, dI) vwCl (w5 cs a x) (w5 cs a res.2) sz res.1) 0 0 (va_A (w5 cs a x) sz) := by
  refine Met.ofW (cc := cX5_tighten) (maxL := 4) (ret := (some .int)) (by decide) rfl ?_
  intro p e s m args below meth c s₁ B hml hv
  obtain ⟨rfl, hsz, hP, hK, hD0⟩ := hv
  have hx := B.exec
  have hb := B.bytes
  have hr := B.returns
  have hts := atoms_spec (ws := wsX5_tighten) B.pre
  have hown : s.vm.findClass RX5 = some m.cls := findClass_of_methodNamed B.named
  have hlocks := B.notSynchronized
  have hin5 : ∀ w ∈ wsX50, w ∈ wsX5_tighten := by decide +kernel
  subst hsz
  have hD := hD0.self (sz := s.heap.size)
  have hA : ∀ z9 : Nat, s.heap.size ≤ z9 → va_A (w5 cs a x) s.heap.size z9 := fun z9 h => Or.inr h
  have hS : va_S (va_A (w5 cs a x) s.heap.size) s.heap s.heap [] := va_S.rf
  have hl := lv_entry [.ref (a 0), .int (iI p0)] (n := 4) (Nat.le_of_ble_eq_true rfl)
  rw [lg_entry_eq]
  generalize (lg_sl [.ref (a 0), .int (iI p0)] ++ List.replicate (4 - (lg_sl [.ref (a 0), .int (iI p0)]).length) Slot.unset).toArray = ls at hl ⊢
  have hl : lv_has ls 4 [(0, .ref (a 0)), (1, .int (iI p0))] := hl
  unfold f5_tighten at hf
  refine lv_aload_n hx hb dX5_tighten_0 rfl (lv_at hl 0 rfl) ?_
  refine lv_iload_n hx hb dX5_tighten_1 rfl (lv_at hl 1 rfl) ?_
  obtain ⟨v1, ev1, hf⟩ := x_bind hf
  refine xc_ri (As := [.int (iI p0)]) (rest := []) ⟨hx, hb, hml, hown, hts⟩ (c5_placeOf l dC dI cs a x p0  _ ev1) (cwV 1 hts gX5_tighten_X5_placeOf rfl rfl rfl cdX5_placeOf ⟨Nat.le_of_ble_eq_true rfl, Nat.le_of_ble_eq_true rfl⟩) hK hP [0, 1, 2, 3, 4, 5, 6, 7] rfl 0 rfl rfl rfl hl.1 rfl (Nat.le_of_ble_eq_true rfl) dX5_tighten_2 ⟨Nat.zero_le _, Nat.zero_le _⟩ ?_
  refine lv_istore_n (lv' := [(2, .int (iI v1)), (0, .ref (a 0)), (1, .int (iI p0))]) hx hb dX5_tighten_5 rfl hl (by decide) rfl (fun ls hl => ?_)
  refine lv_aload_n hx hb dX5_tighten_6 rfl (lv_at hl 1 rfl) ?_
  refine lv_iload_n hx hb dX5_tighten_7 rfl (lv_at hl 0 rfl) ?_
  refine xk_iconst hx hb dX5_tighten_8 ?_
  obtain ⟨c2a, c2b, c2t, c2f⟩ := x_eqE hf
  refine xk_icmp_ne (tgt := 16) hx hb c2a c2b dX5_tighten_9 (by decide) (fun c2 => ?_) (fun c2 => ?_)
  · have hf := c2t c2
    refine xk_iconst hx hb dX5_tighten_12 ?_
    refine lv_goto (tgt := 17) hx hb dX5_tighten_13 (by decide) ?_
    refine va_put (D := (dC, dI)) (ci := 5) (v := .int (iI 1)) (ty := .int) (C := RX5) (T := TX5) (N := 13) hx hb hts hin5 tyX5 tyX5_ok nmX5 hown hK hP (x_addr hD rfl) hS 0 rfl rfl 0 (by decide) (hts (.fieldLink RX5 1 "BoatRunsModel" "thrown" "I") (by decide +kernel)) (fun _ h9 => h9) rfl (by decide +kernel) rfl rfl (Nat.le_of_ble_eq_true rfl) dX5_tighten_17 (fun H locs hP _ hS => ?_)
    have hP : va_P (dC, dI) vwCl (w5C cs a 1 (g5_acts x) (g5_typ x) (g5_lat x) (g5_pos x) (g5_wra x) (g5_now x) (g5_put x) (g5_was x) (g5_txt x) (g5_lef x) (g5_abo x) (g5_ors x)) H := hP
    refine lv_aload_n hx hb dX5_tighten_20 rfl (lv_at hl 1 rfl) ?_
    refine va_get (D := (dC, dI)) (ci := 5) (v := .int (iI 1)) (C := RX5) (T := TX5) (N := 13) hx hb hts hin5 hown hK hP 0 rfl rfl 0 (by decide) (hts (.fieldLink RX5 1 "BoatRunsModel" "thrown" "I") (by decide +kernel)) (fun _ h9 => h9) rfl dX5_tighten_21 ?_
    refine xk_if_le (tgt := 29) hx hb (by decide) dX5_tighten_24 (by decide) (fun c3 => ?_) (fun c3 => ?_)
    · refine xk_iconst hx hb dX5_tighten_27 ?_
      obtain rfl := Option.some.inj hf
      exact xe_wi hx hb hr hlocks hS hP dX5_tighten_28
    · exact absurd c3 (by decide)
  · have hf := c2f c2
    refine xk_iconst hx hb dX5_tighten_16 ?_
    refine va_put (D := (dC, dI)) (ci := 5) (v := .int (iI 0)) (ty := .int) (C := RX5) (T := TX5) (N := 13) hx hb hts hin5 tyX5 tyX5_ok nmX5 hown hK hP (x_addr hD rfl) hS 0 rfl rfl 0 (by decide) (hts (.fieldLink RX5 1 "BoatRunsModel" "thrown" "I") (by decide +kernel)) (fun _ h9 => h9) rfl (by decide +kernel) rfl rfl (Nat.le_of_ble_eq_true rfl) dX5_tighten_17 (fun H locs hP _ hS => ?_)
    have hP : va_P (dC, dI) vwCl (w5C cs a 0 (g5_acts x) (g5_typ x) (g5_lat x) (g5_pos x) (g5_wra x) (g5_now x) (g5_put x) (g5_was x) (g5_txt x) (g5_lef x) (g5_abo x) (g5_ors x)) H := hP
    refine lv_aload_n hx hb dX5_tighten_20 rfl (lv_at hl 1 rfl) ?_
    refine va_get (D := (dC, dI)) (ci := 5) (v := .int (iI 0)) (C := RX5) (T := TX5) (N := 13) hx hb hts hin5 hown hK hP 0 rfl rfl 0 (by decide) (hts (.fieldLink RX5 1 "BoatRunsModel" "thrown" "I") (by decide +kernel)) (fun _ h9 => h9) rfl dX5_tighten_21 ?_
    refine xk_if_le (tgt := 29) hx hb (by decide) dX5_tighten_24 (by decide) (fun c4 => ?_) (fun c4 => ?_)
    · exact absurd c4 (by decide)
    · refine lv_aload_n hx hb dX5_tighten_29 rfl (lv_at hl 1 rfl) ?_
      obtain ⟨x5, ex5, hf⟩ := x_bind hf
      refine xc_wv (As := []) (rest := []) ⟨hx, hb, hml, hown, hts⟩ (c5_save l dC dI cs a _ (s5_thr x 0)  _ ex5) (cwV 0 hts gX5_tighten_X5_save rfl rfl rfl cdX5_save ⟨Nat.le_of_ble_eq_true rfl, Nat.le_of_ble_eq_true rfl⟩) hK hP (x_addr hD rfl) hS hA [0, 1, 2, 3, 4, 5, 6, 7] rfl (by decide) rfl 0 rfl rfl rfl hl.1 rfl (Nat.le_of_ble_eq_true rfl) dX5_tighten_30 ⟨Nat.zero_le _, Nat.zero_le _⟩ (fun H locs hP hS => ?_)
      have hP : va_P (dC, dI) vwCl (w5 cs a x5) H := hP
      refine xk_bipush hx hb dX5_tighten_33 (by decide) ?_
      refine xk_iconst hx hb dX5_tighten_35 ?_
      refine lv_iload_n hx hb dX5_tighten_36 rfl (lv_at hl 0 rfl) ?_
      refine xk_imul hx hb dX5_tighten_37 ?_
      refine xk_iadd hx hb dX5_tighten_38 ?_
      refine xk_iconst hx hb dX5_tighten_39 ?_
      refine xk_iadd hx hb dX5_tighten_40 ?_
      refine lv_istore_n (lv' := [(3, .int (iI ((10 + (2 * v1)) + 1))), (2, .int (iI v1)), (0, .ref (a 0)), (1, .int (iI p0))]) hx hb dX5_tighten_41 rfl hl (by decide) rfl (fun ls hl => ?_)
      refine lv_aload_n hx hb dX5_tighten_42 rfl (lv_at hl 2 rfl) ?_
      refine va_get (D := (dC, dI)) (ci := 5) (v := .ref (a 1)) (C := RX5) (T := TX5) (N := 13) hx hb hts hin5 hown hK hP 0 rfl rfl 1 (by decide) (hts (.fieldLink RX5 13 "BoatRunsModel" "now" "[I") (by decide +kernel)) (fun _ h9 => h9) rfl dX5_tighten_43 ?_
      refine lv_iload_n hx hb dX5_tighten_46 rfl (lv_at hl 0 rfl) ?_
      refine lv_aload_n hx hb dX5_tighten_47 rfl (lv_at hl 2 rfl) ?_
      refine va_get (D := (dC, dI)) (ci := 5) (v := .ref (a 1)) (C := RX5) (T := TX5) (N := 13) hx hb hts hin5 hown hK hP 0 rfl rfl 1 (by decide) (hts (.fieldLink RX5 13 "BoatRunsModel" "now" "[I") (by decide +kernel)) (fun _ h9 => h9) rfl dX5_tighten_48 ?_
      refine lv_iload_n hx hb dX5_tighten_51 rfl (lv_at hl 0 rfl) ?_
      obtain ⟨v6, ev6, hf⟩ := x_bind hf
      refine xk_iald (f := g5_now x5) hx hb hK hP 1 0 ev6 (by decide) rfl rfl dX5_tighten_52 ?_
      refine xk_bipush hx hb dX5_tighten_53 (by decide) ?_
      obtain ⟨c7a, c7b, c7t, c7f⟩ := x_ltE hf
      refine xk_icmp_ge (tgt := 69) hx hb c7a c7b dX5_tighten_55 (by decide) (fun c7 => ?_) (fun c7 => ?_)
      · have hf := c7t c7
        refine lv_aload_n hx hb dX5_tighten_58 rfl (lv_at hl 2 rfl) ?_
        refine va_get (D := (dC, dI)) (ci := 5) (v := .ref (a 1)) (C := RX5) (T := TX5) (N := 13) hx hb hts hin5 hown hK hP 0 rfl rfl 1 (by decide) (hts (.fieldLink RX5 13 "BoatRunsModel" "now" "[I") (by decide +kernel)) (fun _ h9 => h9) rfl dX5_tighten_59 ?_
        refine lv_iload_n hx hb dX5_tighten_62 rfl (lv_at hl 0 rfl) ?_
        obtain ⟨v8, ev8, hf⟩ := x_bind hf
        refine xk_iald (f := g5_now x5) hx hb hK hP 1 0 ev8 (by decide) rfl rfl dX5_tighten_63 ?_
        refine xk_iconst hx hb dX5_tighten_64 ?_
        refine xk_iadd hx hb dX5_tighten_65 ?_
        refine lv_goto (tgt := 71) hx hb dX5_tighten_66 (by decide) ?_
        obtain ⟨g9, eg9, hf⟩ := x_bind hf
        refine xk_iast (f := g5_now x5) hx hb hK hP (x_addr hD rfl) hS 1 0 eg9 (by decide) rfl rfl dX5_tighten_71 (fun H locs hP hS => ?_)
        have hP : va_P (dC, dI) vwCl (w5C cs a (g5_thr x5) (g5_acts x5) (g5_typ x5) (g5_lat x5) (g5_pos x5) (g5_wra x5) g9 (g5_put x5) (g5_was x5) (g5_txt x5) (g5_lef x5) (g5_abo x5) (g5_ors x5)) H := hP
        refine lv_aload_n hx hb dX5_tighten_72 rfl (lv_at hl 2 rfl) ?_
        refine va_get (D := (dC, dI)) (ci := 5) (v := .ref (a 1)) (C := RX5) (T := TX5) (N := 13) hx hb hts hin5 hown hK hP 0 rfl rfl 1 (by decide) (hts (.fieldLink RX5 13 "BoatRunsModel" "now" "[I") (by decide +kernel)) (fun _ h9 => h9) rfl dX5_tighten_73 ?_
        refine lv_iload_n hx hb dX5_tighten_76 rfl (lv_at hl 0 rfl) ?_
        obtain ⟨v10, ev10, hf⟩ := x_bind hf
        refine xk_iald (f := g9) hx hb hK hP 1 0 ev10 (by decide) rfl rfl dX5_tighten_77 ?_
        obtain rfl := Option.some.inj hf
        exact xe_wi hx hb hr hlocks hS hP dX5_tighten_78
      · have hf := c7f c7
        refine xk_bipush hx hb dX5_tighten_69 (by decide) ?_
        obtain ⟨g11, eg11, hf⟩ := x_bind hf
        refine xk_iast (f := g5_now x5) hx hb hK hP (x_addr hD rfl) hS 1 0 eg11 (by decide) rfl rfl dX5_tighten_71 (fun H locs hP hS => ?_)
        have hP : va_P (dC, dI) vwCl (w5C cs a (g5_thr x5) (g5_acts x5) (g5_typ x5) (g5_lat x5) (g5_pos x5) (g5_wra x5) g11 (g5_put x5) (g5_was x5) (g5_txt x5) (g5_lef x5) (g5_abo x5) (g5_ors x5)) H := hP
        refine lv_aload_n hx hb dX5_tighten_72 rfl (lv_at hl 2 rfl) ?_
        refine va_get (D := (dC, dI)) (ci := 5) (v := .ref (a 1)) (C := RX5) (T := TX5) (N := 13) hx hb hts hin5 hown hK hP 0 rfl rfl 1 (by decide) (hts (.fieldLink RX5 13 "BoatRunsModel" "now" "[I") (by decide +kernel)) (fun _ h9 => h9) rfl dX5_tighten_73 ?_
        refine lv_iload_n hx hb dX5_tighten_76 rfl (lv_at hl 0 rfl) ?_
        obtain ⟨v12, ev12, hf⟩ := x_bind hf
        refine xk_iald (f := g11) hx hb hK hP 1 0 ev12 (by decide) rfl rfl dX5_tighten_77 ?_
        obtain rfl := Option.some.inj hf
        exact xe_wi hx hb hr hlocks hS hP dX5_tighten_78
theorem cdX5_tighten : yX5_tighten.cls = RX5 ∧ yX5_tighten.cls ≠ "java/lang/invoke/MethodHandle" ∧ yX5_tighten.cls ≠ "java/lang/invoke/VarHandle" ∧ (parseMethodDescriptor yX5_tighten.desc).map (fun d => d.parameters.length) = some 1 := by decide +kernel

set_option maxHeartbeats 4000000 in
set_option maxRecDepth 100000 in
theorem c5_canLand (l : Launch) (dC : Nat → ClassId) (dI : Nat → Nat → Nat) (cs : Nat → ClassId) (a : Nat → Nat) (x : ModS) (p0 : Int) (res : Int) (hf : f5_canLand x p0 = some res) : Met l yX5_canLand wsX5_canLand ({ frames := 3, cells := 0, slots := 0, locals := 67 } : Room) (va_Pc [.ref (a 0), .int (iI p0)] (xPR (dC, dI) vwCl (w5 cs a x) (xT cs))) (vp_Si (fun r => r = iI res)) 0 0 (fun _ => False) := by
  refine Met.ofW (cc := cX5_canLand) (maxL := 3) (ret := (some .boolean)) (by decide) rfl ?_
  intro p e s m args below meth c s₁ B hml hv
  obtain ⟨rfl, hP, hK⟩ := hv
  have hx := B.exec
  have hb := B.bytes
  have hr := B.returns
  have hts := atoms_spec (ws := wsX5_canLand) B.pre
  have hown : s.vm.findClass RX5 = some m.cls := findClass_of_methodNamed B.named
  have hlocks := B.notSynchronized
  have hl := lv_entry [.ref (a 0), .int (iI p0)] (n := 3) (Nat.le_of_ble_eq_true rfl)
  rw [lg_entry_eq]
  generalize (lg_sl [.ref (a 0), .int (iI p0)] ++ List.replicate (3 - (lg_sl [.ref (a 0), .int (iI p0)]).length) Slot.unset).toArray = ls at hl ⊢
  have hl : lv_has ls 3 [(0, .ref (a 0)), (1, .int (iI p0))] := hl
  unfold f5_canLand at hf
  refine lv_aload_n hx hb dX5_canLand_0 rfl (lv_at hl 0 rfl) ?_
  obtain ⟨v1, ev1, hf⟩ := x_bind hf
  refine xc_ri (As := []) (rest := []) ⟨hx, hb, hml, hown, hts⟩ (c5_lastAshore l dC dI cs a x  _ ev1) (cwV 0 hts gX5_canLand_X5_lastAshore rfl rfl rfl cdX5_lastAshore ⟨Nat.le_of_ble_eq_true rfl, Nat.le_of_ble_eq_true rfl⟩) hK hP [0, 1, 2, 3, 4, 5, 6, 7] rfl 0 rfl rfl rfl hl.1 rfl (Nat.le_of_ble_eq_true rfl) dX5_canLand_1 ⟨Nat.zero_le _, Nat.zero_le _⟩ ?_
  refine lv_istore_n (lv' := [(2, .int (iI v1)), (0, .ref (a 0)), (1, .int (iI p0))]) hx hb dX5_canLand_4 rfl hl (by decide) rfl (fun ls hl => ?_)
  refine lv_iload_n hx hb dX5_canLand_5 rfl (lv_at hl 0 rfl) ?_
  refine xk_iconst hx hb dX5_canLand_6 ?_
  obtain ⟨c2a, c2b, c2t, c2f⟩ := x_eqE hf
  refine xk_icmp_eq (tgt := 23) hx hb c2a c2b dX5_canLand_7 (by decide) (fun c2 => ?_) (fun c2 => ?_)
  · have hf := c2t c2
    refine xk_iconst hx hb dX5_canLand_23 ?_
    refine lv_goto (tgt := 28) hx hb dX5_canLand_24 (by decide) ?_
    obtain rfl := Option.some.inj hf
    exact xe_rz hx hb hr (Or.inr rfl) hlocks dX5_canLand_28 rfl
  · have hf := c2f c2
    refine lv_aload_n hx hb dX5_canLand_10 rfl (lv_at hl 1 rfl) ?_
    refine lv_iload_n hx hb dX5_canLand_11 rfl (lv_at hl 0 rfl) ?_
    refine lv_aload_n hx hb dX5_canLand_12 rfl (lv_at hl 1 rfl) ?_
    refine lv_iload_n hx hb dX5_canLand_13 rfl (lv_at hl 2 rfl) ?_
    obtain ⟨v3, ev3, hf⟩ := x_bind hf
    refine xc_ri (As := [.int (iI p0)]) (rest := [.int (iI v1), .ref (a 0)]) ⟨hx, hb, hml, hown, hts⟩ (c5_firstOf l dC dI cs a x p0  _ ev3) (cwV 1 hts gX5_canLand_X5_firstOf rfl rfl rfl cdX5_firstOf ⟨Nat.le_of_ble_eq_true rfl, Nat.le_of_ble_eq_true rfl⟩) hK hP [0, 1, 2, 3, 4, 5, 6, 7] rfl 0 rfl rfl rfl hl.1 rfl (Nat.le_of_ble_eq_true rfl) dX5_canLand_14 ⟨Nat.zero_le _, Nat.zero_le _⟩ ?_
    obtain ⟨v4, ev4, hf⟩ := x_bind hf
    refine xc_ri (As := [.int (iI v1), .int (iI v3)]) (rest := []) ⟨hx, hb, hml, hown, hts⟩ (c5_isLess l dC dI cs a x v1 v3  _ ev4) (cwV 2 hts gX5_canLand_X5_isLess rfl rfl rfl cdX5_isLess ⟨Nat.le_of_ble_eq_true rfl, Nat.le_of_ble_eq_true rfl⟩) hK hP [0, 1, 2, 3, 4, 5, 6, 7] rfl 0 rfl rfl rfl hl.1 rfl (Nat.le_of_ble_eq_true rfl) dX5_canLand_17 ⟨Nat.zero_le _, Nat.zero_le _⟩ ?_
    obtain ⟨c5a, c5b, c5t, c5f⟩ := x_eqE hf
    refine xk_if_eq (tgt := 27) hx hb c5a dX5_canLand_20 (by decide) (fun c5 => ?_) (fun c5 => ?_)
    · have hf := c5t c5
      refine xk_iconst hx hb dX5_canLand_27 ?_
      obtain rfl := Option.some.inj hf
      exact xe_rz hx hb hr (Or.inl rfl) hlocks dX5_canLand_28 rfl
    · have hf := c5f c5
      refine xk_iconst hx hb dX5_canLand_23 ?_
      refine lv_goto (tgt := 28) hx hb dX5_canLand_24 (by decide) ?_
      obtain rfl := Option.some.inj hf
      exact xe_rz hx hb hr (Or.inr rfl) hlocks dX5_canLand_28 rfl
theorem cdX5_canLand : yX5_canLand.cls = RX5 ∧ yX5_canLand.cls ≠ "java/lang/invoke/MethodHandle" ∧ yX5_canLand.cls ≠ "java/lang/invoke/VarHandle" ∧ (parseMethodDescriptor yX5_canLand.desc).map (fun d => d.parameters.length) = some 1 := by decide +kernel

set_option maxHeartbeats 4000000 in
set_option maxRecDepth 100000 in
theorem c5_land (l : Launch) (dC : Nat → ClassId) (dI : Nat → Nat → Nat) (cs : Nat → ClassId) (a : Nat → Nat) (sz : Nat) (x : ModS) (p0 : Int) (res : Int × ModS) (hf : f5_land x p0 = some res) : Met l yX5_land wsX5_land ({ frames := 4, cells := 0, slots := 0, locals := 89 } : Room) (va_Pc [.ref (a 0), .int (iI p0)] (xPW (dC, dI) vwCl (w5 cs a x) (xT cs) sz)) (xQi (dC, dI) vwCl (w5 cs a x) (w5 cs a res.2) sz res.1) 0 0 (va_A (w5 cs a x) sz) := by
  refine Met.ofW (cc := cX5_land) (maxL := 4) (ret := (some .int)) (by decide) rfl ?_
  intro p e s m args below meth c s₁ B hml hv
  obtain ⟨rfl, hsz, hP, hK, hD0⟩ := hv
  have hx := B.exec
  have hb := B.bytes
  have hr := B.returns
  have hts := atoms_spec (ws := wsX5_land) B.pre
  have hown : s.vm.findClass RX5 = some m.cls := findClass_of_methodNamed B.named
  have hlocks := B.notSynchronized
  have hin5 : ∀ w ∈ wsX50, w ∈ wsX5_land := by decide +kernel
  subst hsz
  have hD := hD0.self (sz := s.heap.size)
  have hA : ∀ z9 : Nat, s.heap.size ≤ z9 → va_A (w5 cs a x) s.heap.size z9 := fun z9 h => Or.inr h
  have hS : va_S (va_A (w5 cs a x) s.heap.size) s.heap s.heap [] := va_S.rf
  have hl := lv_entry [.ref (a 0), .int (iI p0)] (n := 4) (Nat.le_of_ble_eq_true rfl)
  rw [lg_entry_eq]
  generalize (lg_sl [.ref (a 0), .int (iI p0)] ++ List.replicate (4 - (lg_sl [.ref (a 0), .int (iI p0)]).length) Slot.unset).toArray = ls at hl ⊢
  have hl : lv_has ls 4 [(0, .ref (a 0)), (1, .int (iI p0))] := hl
  unfold f5_land at hf
  refine lv_aload_n hx hb dX5_land_0 rfl (lv_at hl 0 rfl) ?_
  refine lv_iload_n hx hb dX5_land_1 rfl (lv_at hl 1 rfl) ?_
  obtain ⟨v1, ev1, hf⟩ := x_bind hf
  refine xc_ri (As := [.int (iI p0)]) (rest := []) ⟨hx, hb, hml, hown, hts⟩ (c5_placeOf l dC dI cs a x p0  _ ev1) (cwV 1 hts gX5_land_X5_placeOf rfl rfl rfl cdX5_placeOf ⟨Nat.le_of_ble_eq_true rfl, Nat.le_of_ble_eq_true rfl⟩) hK hP [0, 1, 2, 3, 4, 5, 6, 7] rfl 0 rfl rfl rfl hl.1 rfl (Nat.le_of_ble_eq_true rfl) dX5_land_2 ⟨Nat.zero_le _, Nat.zero_le _⟩ ?_
  refine lv_istore_n (lv' := [(2, .int (iI v1)), (0, .ref (a 0)), (1, .int (iI p0))]) hx hb dX5_land_5 rfl hl (by decide) rfl (fun ls hl => ?_)
  refine lv_aload_n hx hb dX5_land_6 rfl (lv_at hl 1 rfl) ?_
  refine lv_iload_n hx hb dX5_land_7 rfl (lv_at hl 0 rfl) ?_
  refine xk_iconst hx hb dX5_land_8 ?_
  obtain ⟨c2a, c2b, c2t, c2f⟩ := x_eqE hf
  refine xk_icmp_ne (tgt := 16) hx hb c2a c2b dX5_land_9 (by decide) (fun c2 => ?_) (fun c2 => ?_)
  · have hf := c2t c2
    refine xk_iconst hx hb dX5_land_12 ?_
    refine lv_goto (tgt := 29) hx hb dX5_land_13 (by decide) ?_
    refine va_put (D := (dC, dI)) (ci := 5) (v := .int (iI 1)) (ty := .int) (C := RX5) (T := TX5) (N := 13) hx hb hts hin5 tyX5 tyX5_ok nmX5 hown hK hP (x_addr hD rfl) hS 0 rfl rfl 0 (by decide) (hts (.fieldLink RX5 1 "BoatRunsModel" "thrown" "I") (by decide +kernel)) (fun _ h9 => h9) rfl (by decide +kernel) rfl rfl (Nat.le_of_ble_eq_true rfl) dX5_land_29 (fun H locs hP _ hS => ?_)
    have hP : va_P (dC, dI) vwCl (w5C cs a 1 (g5_acts x) (g5_typ x) (g5_lat x) (g5_pos x) (g5_wra x) (g5_now x) (g5_put x) (g5_was x) (g5_txt x) (g5_lef x) (g5_abo x) (g5_ors x)) H := hP
    refine lv_aload_n hx hb dX5_land_32 rfl (lv_at hl 1 rfl) ?_
    refine va_get (D := (dC, dI)) (ci := 5) (v := .int (iI 1)) (C := RX5) (T := TX5) (N := 13) hx hb hts hin5 hown hK hP 0 rfl rfl 0 (by decide) (hts (.fieldLink RX5 1 "BoatRunsModel" "thrown" "I") (by decide +kernel)) (fun _ h9 => h9) rfl dX5_land_33 ?_
    refine xk_if_le (tgt := 41) hx hb (by decide) dX5_land_36 (by decide) (fun c3 => ?_) (fun c3 => ?_)
    · refine xk_iconst hx hb dX5_land_39 ?_
      obtain rfl := Option.some.inj hf
      exact xe_wi hx hb hr hlocks hS hP dX5_land_40
    · exact absurd c3 (by decide)
  · have hf := c2f c2
    refine lv_aload_n hx hb dX5_land_16 rfl (lv_at hl 1 rfl) ?_
    refine lv_iload_n hx hb dX5_land_17 rfl (lv_at hl 2 rfl) ?_
    obtain ⟨v4, ev4, hf⟩ := x_bind hf
    refine xc_ri (As := [.int (iI p0)]) (rest := [.ref (a 0)]) ⟨hx, hb, hml, hown, hts⟩ (c5_canLand l dC dI cs a x p0  _ ev4) (cwV 1 hts gX5_land_X5_canLand rfl rfl rfl cdX5_canLand ⟨Nat.le_of_ble_eq_true rfl, Nat.le_of_ble_eq_true rfl⟩) hK hP [0, 1, 2, 3, 4, 5, 6, 7] rfl 0 rfl rfl rfl hl.1 rfl (Nat.le_of_ble_eq_true rfl) dX5_land_18 ⟨Nat.zero_le _, Nat.zero_le _⟩ ?_
    obtain ⟨c5a, c5b, c5t, c5f⟩ := x_eqE hf
    refine xk_if_ne (tgt := 28) hx hb c5a dX5_land_21 (by decide) (fun c5 => ?_) (fun c5 => ?_)
    · have hf := c5t c5
      refine xk_iconst hx hb dX5_land_24 ?_
      refine lv_goto (tgt := 29) hx hb dX5_land_25 (by decide) ?_
      refine va_put (D := (dC, dI)) (ci := 5) (v := .int (iI 2)) (ty := .int) (C := RX5) (T := TX5) (N := 13) hx hb hts hin5 tyX5 tyX5_ok nmX5 hown hK hP (x_addr hD rfl) hS 0 rfl rfl 0 (by decide) (hts (.fieldLink RX5 1 "BoatRunsModel" "thrown" "I") (by decide +kernel)) (fun _ h9 => h9) rfl (by decide +kernel) rfl rfl (Nat.le_of_ble_eq_true rfl) dX5_land_29 (fun H locs hP _ hS => ?_)
      have hP : va_P (dC, dI) vwCl (w5C cs a 2 (g5_acts x) (g5_typ x) (g5_lat x) (g5_pos x) (g5_wra x) (g5_now x) (g5_put x) (g5_was x) (g5_txt x) (g5_lef x) (g5_abo x) (g5_ors x)) H := hP
      refine lv_aload_n hx hb dX5_land_32 rfl (lv_at hl 1 rfl) ?_
      refine va_get (D := (dC, dI)) (ci := 5) (v := .int (iI 2)) (C := RX5) (T := TX5) (N := 13) hx hb hts hin5 hown hK hP 0 rfl rfl 0 (by decide) (hts (.fieldLink RX5 1 "BoatRunsModel" "thrown" "I") (by decide +kernel)) (fun _ h9 => h9) rfl dX5_land_33 ?_
      refine xk_if_le (tgt := 41) hx hb (by decide) dX5_land_36 (by decide) (fun c6 => ?_) (fun c6 => ?_)
      · refine xk_iconst hx hb dX5_land_39 ?_
        obtain rfl := Option.some.inj hf
        exact xe_wi hx hb hr hlocks hS hP dX5_land_40
      · exact absurd c6 (by decide)
    · have hf := c5f c5
      refine xk_iconst hx hb dX5_land_28 ?_
      refine va_put (D := (dC, dI)) (ci := 5) (v := .int (iI 0)) (ty := .int) (C := RX5) (T := TX5) (N := 13) hx hb hts hin5 tyX5 tyX5_ok nmX5 hown hK hP (x_addr hD rfl) hS 0 rfl rfl 0 (by decide) (hts (.fieldLink RX5 1 "BoatRunsModel" "thrown" "I") (by decide +kernel)) (fun _ h9 => h9) rfl (by decide +kernel) rfl rfl (Nat.le_of_ble_eq_true rfl) dX5_land_29 (fun H locs hP _ hS => ?_)
      have hP : va_P (dC, dI) vwCl (w5C cs a 0 (g5_acts x) (g5_typ x) (g5_lat x) (g5_pos x) (g5_wra x) (g5_now x) (g5_put x) (g5_was x) (g5_txt x) (g5_lef x) (g5_abo x) (g5_ors x)) H := hP
      refine lv_aload_n hx hb dX5_land_32 rfl (lv_at hl 1 rfl) ?_
      refine va_get (D := (dC, dI)) (ci := 5) (v := .int (iI 0)) (C := RX5) (T := TX5) (N := 13) hx hb hts hin5 hown hK hP 0 rfl rfl 0 (by decide) (hts (.fieldLink RX5 1 "BoatRunsModel" "thrown" "I") (by decide +kernel)) (fun _ h9 => h9) rfl dX5_land_33 ?_
      refine xk_if_le (tgt := 41) hx hb (by decide) dX5_land_36 (by decide) (fun c7 => ?_) (fun c7 => ?_)
      · exact absurd c7 (by decide)
      · refine lv_aload_n hx hb dX5_land_41 rfl (lv_at hl 1 rfl) ?_
        obtain ⟨x8, ex8, hf⟩ := x_bind hf
        refine xc_wv (As := []) (rest := []) ⟨hx, hb, hml, hown, hts⟩ (c5_save l dC dI cs a _ (s5_thr x 0)  _ ex8) (cwV 0 hts gX5_land_X5_save rfl rfl rfl cdX5_save ⟨Nat.le_of_ble_eq_true rfl, Nat.le_of_ble_eq_true rfl⟩) hK hP (x_addr hD rfl) hS hA [0, 1, 2, 3, 4, 5, 6, 7] rfl (by decide) rfl 0 rfl rfl rfl hl.1 rfl (Nat.le_of_ble_eq_true rfl) dX5_land_42 ⟨Nat.zero_le _, Nat.zero_le _⟩ (fun H locs hP hS => ?_)
        have hP : va_P (dC, dI) vwCl (w5 cs a x8) H := hP
        refine xk_iconst hx hb dX5_land_45 ?_
        refine lv_istore_n (lv' := [(3, .int (iI 0)), (2, .int (iI v1)), (0, .ref (a 0)), (1, .int (iI p0))]) hx hb dX5_land_46 rfl hl (by decide) rfl (fun ls hl => ?_)
        have hL47 : ∀ (n10 : Nat) (l3 : Int) (x9 : ModS), f5_land_L47 p0 v1 n10 l3 x9 = some res → ∀ (H : Heap) (locs : List Loc), va_P (dC, dI) vwCl (w5 cs a x9) H → va_S (va_A (w5 cs a x) s.heap.size) s.heap H locs → ∀ (ls : Array Slot), lv_has ls 4 [(0, .ref (a 0)), (1, .int (iI p0)), (2, .int (iI v1)), (3, .int (iI l3))] → W p l e (headSpec wsX5_land ({ frames := 4, cells := 0, slots := 0, locals := 89 } : Room)).room s m ([.ref (a 0), .int (iI p0)] : List Value).toArray below meth c H locs 0 0 (MQ below (xQi (dC, dI) vwCl (w5 cs a x) (w5 cs a res.2) s.heap.size res.1) ([.ref (a 0), .int (iI p0)] : List Value).toArray s 0 0 (va_A (w5 cs a x) s.heap.size)) (F0 m 47 ls []) := by
          intro  n10
          induction n10 with
          | zero => intro l3 x9 hf; have hf : (none : Option (Int × ModS)) = some res := hf; cases hf
          | succ n10 ih47 =>
            intro l3 x9 hf H locs hP hS ls hl
            rw [f5_land_L47] at hf
            refine lv_iload_n hx hb dX5_land_47 rfl (lv_at hl 3 rfl) ?_
            refine lv_aload_n hx hb dX5_land_48 rfl (lv_at hl 0 rfl) ?_
            refine va_get (D := (dC, dI)) (ci := 5) (v := .ref (a 1)) (C := RX5) (T := TX5) (N := 13) hx hb hts hin5 hown hK hP 0 rfl rfl 1 (by decide) (hts (.fieldLink RX5 13 "BoatRunsModel" "now" "[I") (by decide +kernel)) (fun _ h9 => h9) rfl dX5_land_49 ?_
            refine xk_iconst hx hb dX5_land_52 ?_
            obtain ⟨v11, ev11, hf⟩ := x_bind hf
            refine xk_iald (f := g5_now x9) hx hb hK hP 1 0 ev11 (by decide) rfl rfl dX5_land_53 ?_
            obtain ⟨c12a, c12b, c12t, c12f⟩ := x_ltE hf
            refine xk_icmp_ge (tgt := 86) hx hb c12a c12b dX5_land_54 (by decide) (fun c12 => ?_) (fun c12 => ?_)
            · have hf := c12t c12
              refine lv_aload_n hx hb dX5_land_57 rfl (lv_at hl 0 rfl) ?_
              refine lv_iload_n hx hb dX5_land_58 rfl (lv_at hl 3 rfl) ?_
              refine lv_iload_n hx hb dX5_land_59 rfl (lv_at hl 1 rfl) ?_
              obtain ⟨v13, ev13, hf⟩ := x_bind hf
              refine xc_ri (As := [.int (iI l3), .int (iI p0)]) (rest := []) ⟨hx, hb, hml, hown, hts⟩ (c5_isOf l dC dI cs a x9 l3 p0  _ ev13) (cwV 2 hts gX5_land_X5_isOf rfl rfl rfl cdX5_isOf ⟨Nat.le_of_ble_eq_true rfl, Nat.le_of_ble_eq_true rfl⟩) hK hP [0, 1, 2, 3, 4, 5, 6, 7] rfl 0 rfl rfl rfl hl.1 rfl (Nat.le_of_ble_eq_true rfl) dX5_land_60 ⟨Nat.zero_le _, Nat.zero_le _⟩ ?_
              obtain ⟨c14a, c14b, c14t, c14f⟩ := x_eqE hf
              refine xk_if_eq (tgt := 80) hx hb c14a dX5_land_63 (by decide) (fun c14 => ?_) (fun c14 => ?_)
              · have hf := c14t c14
                refine xk_iinc (lv' := [(3, .int (iI (l3 + 1))), (0, .ref (a 0)), (1, .int (iI p0)), (2, .int (iI v1))]) hx hb dX5_land_80 hl (k := 3) rfl (by decide) rfl (fun ls hl => ?_)
                refine lv_goto (tgt := 47) hx hb dX5_land_83 (by decide) ?_
                exact ih47 (l3 + 1) x9 hf _ _ hP hS ls (lv_sub hl [1, 2, 3, 0] rfl)
              · have hf := c14f c14
                refine lv_aload_n hx hb dX5_land_66 rfl (lv_at hl 0 rfl) ?_
                refine lv_iload_n hx hb dX5_land_67 rfl (lv_at hl 3 rfl) ?_
                refine xk_iconst hx hb dX5_land_68 ?_
                refine xk_iconst hx hb dX5_land_69 ?_
                obtain ⟨x15, ex15, hf⟩ := x_bind hf
                refine xc_wv (As := [.int (iI l3), .int (iI 2), .int (iI 2)]) (rest := []) ⟨hx, hb, hml, hown, hts⟩ (c5_be l dC dI cs a _ x9 l3 2 2  _ ex15) (cwV 3 hts gX5_land_X5_be rfl rfl rfl cdX5_be ⟨Nat.le_of_ble_eq_true rfl, Nat.le_of_ble_eq_true rfl⟩) hK hP (x_addr hD rfl) hS hA [0, 1, 2, 3, 4, 5, 6, 7] rfl (by decide) rfl 0 rfl rfl rfl hl.1 rfl (Nat.le_of_ble_eq_true rfl) dX5_land_70 ⟨Nat.zero_le _, Nat.zero_le _⟩ (fun H locs hP hS => ?_)
                have hP : va_P (dC, dI) vwCl (w5 cs a x15) H := hP
                refine lv_aload_n hx hb dX5_land_73 rfl (lv_at hl 0 rfl) ?_
                refine lv_iload_n hx hb dX5_land_74 rfl (lv_at hl 3 rfl) ?_
                refine xk_iconst hx hb dX5_land_75 ?_
                refine xk_iconst hx hb dX5_land_76 ?_
                obtain ⟨x16, ex16, hf⟩ := x_bind hf
                refine xc_wv (As := [.int (iI l3), .int (iI 3), .int (iI (-1))]) (rest := []) ⟨hx, hb, hml, hown, hts⟩ (c5_be l dC dI cs a _ x15 l3 3 (-1)  _ ex16) (cwV 3 hts gX5_land_X5_be rfl rfl rfl cdX5_be ⟨Nat.le_of_ble_eq_true rfl, Nat.le_of_ble_eq_true rfl⟩) hK hP (x_addr hD rfl) hS hA [0, 1, 2, 3, 4, 5, 6, 7] rfl (by decide) rfl 0 rfl rfl rfl hl.1 rfl (Nat.le_of_ble_eq_true rfl) dX5_land_77 ⟨Nat.zero_le _, Nat.zero_le _⟩ (fun H locs hP hS => ?_)
                have hP : va_P (dC, dI) vwCl (w5 cs a x16) H := hP
                refine xk_iinc (lv' := [(3, .int (iI (l3 + 1))), (0, .ref (a 0)), (1, .int (iI p0)), (2, .int (iI v1))]) hx hb dX5_land_80 hl (k := 3) rfl (by decide) rfl (fun ls hl => ?_)
                refine lv_goto (tgt := 47) hx hb dX5_land_83 (by decide) ?_
                exact ih47 (l3 + 1) x16 hf _ _ hP hS ls (lv_sub hl [1, 2, 3, 0] rfl)
            · have hf := c12f c12
              refine lv_aload_n hx hb dX5_land_86 rfl (lv_at hl 0 rfl) ?_
              refine lv_iload_n hx hb dX5_land_87 rfl (lv_at hl 2 rfl) ?_
              obtain ⟨x17, ex17, hf⟩ := x_bind hf
              refine xc_wv (As := [.int (iI v1)]) (rest := []) ⟨hx, hb, hml, hown, hts⟩ (c5_dropRun l dC dI cs a _ x9 v1  _ ex17) (cwV 1 hts gX5_land_X5_dropRun rfl rfl rfl cdX5_dropRun ⟨Nat.le_of_ble_eq_true rfl, Nat.le_of_ble_eq_true rfl⟩) hK hP (x_addr hD rfl) hS hA [0, 1, 2, 3, 4, 5, 6, 7] rfl (by decide) rfl 0 rfl rfl rfl hl.1 rfl (Nat.le_of_ble_eq_true rfl) dX5_land_88 ⟨Nat.zero_le _, Nat.zero_le _⟩ (fun H locs hP hS => ?_)
              have hP : va_P (dC, dI) vwCl (w5 cs a x17) H := hP
              refine lv_aload_n hx hb dX5_land_91 rfl (lv_at hl 0 rfl) ?_
              refine va_get (D := (dC, dI)) (ci := 5) (v := .ref (a 1)) (C := RX5) (T := TX5) (N := 13) hx hb hts hin5 hown hK hP 0 rfl rfl 1 (by decide) (hts (.fieldLink RX5 13 "BoatRunsModel" "now" "[I") (by decide +kernel)) (fun _ h9 => h9) rfl dX5_land_92 ?_
              refine xk_bipush hx hb dX5_land_95 (by decide) ?_
              refine lv_aload_n hx hb dX5_land_97 rfl (lv_at hl 0 rfl) ?_
              refine va_get (D := (dC, dI)) (ci := 5) (v := .ref (a 1)) (C := RX5) (T := TX5) (N := 13) hx hb hts hin5 hown hK hP 0 rfl rfl 1 (by decide) (hts (.fieldLink RX5 13 "BoatRunsModel" "now" "[I") (by decide +kernel)) (fun _ h9 => h9) rfl dX5_land_98 ?_
              refine xk_bipush hx hb dX5_land_101 (by decide) ?_
              obtain ⟨v18, ev18, hf⟩ := x_bind hf
              refine xk_iald (f := g5_now x17) hx hb hK hP 1 0 ev18 (by decide) rfl rfl dX5_land_103 ?_
              refine lv_iload_n hx hb dX5_land_104 rfl (lv_at hl 1 rfl) ?_
              obtain ⟨c19a, c19b, c19t, c19f⟩ := x_eqE hf
              refine xk_icmp_ne (tgt := 112) hx hb c19a c19b dX5_land_105 (by decide) (fun c19 => ?_) (fun c19 => ?_)
              · have hf := c19t c19
                refine xk_iconst hx hb dX5_land_108 ?_
                refine lv_goto (tgt := 119) hx hb dX5_land_109 (by decide) ?_
                obtain ⟨g20, eg20, hf⟩ := x_bind hf
                refine xk_iast (f := g5_now x17) hx hb hK hP (x_addr hD rfl) hS 1 0 eg20 (by decide) rfl rfl dX5_land_119 (fun H locs hP hS => ?_)
                have hP : va_P (dC, dI) vwCl (w5C cs a (g5_thr x17) (g5_acts x17) (g5_typ x17) (g5_lat x17) (g5_pos x17) (g5_wra x17) g20 (g5_put x17) (g5_was x17) (g5_txt x17) (g5_lef x17) (g5_abo x17) (g5_ors x17)) H := hP
                refine lv_aload_n hx hb dX5_land_120 rfl (lv_at hl 0 rfl) ?_
                refine xk_iconst hx hb dX5_land_121 ?_
                obtain ⟨v21, ev21, hf⟩ := x_bind hf
                refine xc_ri (As := [.int (iI 2)]) (rest := []) ⟨hx, hb, hml, hown, hts⟩ (c5_many l dC dI cs a (s5_now x17 g20) 2  _ ev21) (cwV 1 hts gX5_land_X5_many rfl rfl rfl cdX5_many ⟨Nat.le_of_ble_eq_true rfl, Nat.le_of_ble_eq_true rfl⟩) hK hP [0, 1, 2, 3, 4, 5, 6, 7] rfl 0 rfl rfl rfl hl.1 rfl (Nat.le_of_ble_eq_true rfl) dX5_land_122 ⟨Nat.zero_le _, Nat.zero_le _⟩ ?_
                obtain rfl := Option.some.inj hf
                exact xe_wi hx hb hr hlocks hS hP dX5_land_125
              · have hf := c19f c19
                refine lv_aload_n hx hb dX5_land_112 rfl (lv_at hl 0 rfl) ?_
                refine va_get (D := (dC, dI)) (ci := 5) (v := .ref (a 1)) (C := RX5) (T := TX5) (N := 13) hx hb hts hin5 hown hK hP 0 rfl rfl 1 (by decide) (hts (.fieldLink RX5 13 "BoatRunsModel" "now" "[I") (by decide +kernel)) (fun _ h9 => h9) rfl dX5_land_113 ?_
                refine xk_bipush hx hb dX5_land_116 (by decide) ?_
                obtain ⟨v22, ev22, hf⟩ := x_bind hf
                refine xk_iald (f := g5_now x17) hx hb hK hP 1 0 ev22 (by decide) rfl rfl dX5_land_118 ?_
                obtain ⟨g23, eg23, hf⟩ := x_bind hf
                refine xk_iast (f := g5_now x17) hx hb hK hP (x_addr hD rfl) hS 1 0 eg23 (by decide) rfl rfl dX5_land_119 (fun H locs hP hS => ?_)
                have hP : va_P (dC, dI) vwCl (w5C cs a (g5_thr x17) (g5_acts x17) (g5_typ x17) (g5_lat x17) (g5_pos x17) (g5_wra x17) g23 (g5_put x17) (g5_was x17) (g5_txt x17) (g5_lef x17) (g5_abo x17) (g5_ors x17)) H := hP
                refine lv_aload_n hx hb dX5_land_120 rfl (lv_at hl 0 rfl) ?_
                refine xk_iconst hx hb dX5_land_121 ?_
                obtain ⟨v24, ev24, hf⟩ := x_bind hf
                refine xc_ri (As := [.int (iI 2)]) (rest := []) ⟨hx, hb, hml, hown, hts⟩ (c5_many l dC dI cs a (s5_now x17 g23) 2  _ ev24) (cwV 1 hts gX5_land_X5_many rfl rfl rfl cdX5_many ⟨Nat.le_of_ble_eq_true rfl, Nat.le_of_ble_eq_true rfl⟩) hK hP [0, 1, 2, 3, 4, 5, 6, 7] rfl 0 rfl rfl rfl hl.1 rfl (Nat.le_of_ble_eq_true rfl) dX5_land_122 ⟨Nat.zero_le _, Nat.zero_le _⟩ ?_
                obtain rfl := Option.some.inj hf
                exact xe_wi hx hb hr hlocks hS hP dX5_land_125
        exact hL47  xFU 0 x8 hf _ _ hP hS ls (lv_sub hl [2, 3, 1, 0] rfl)
theorem cdX5_land : yX5_land.cls = RX5 ∧ yX5_land.cls ≠ "java/lang/invoke/MethodHandle" ∧ yX5_land.cls ≠ "java/lang/invoke/VarHandle" ∧ (parseMethodDescriptor yX5_land.desc).map (fun d => d.parameters.length) = some 1 := by decide +kernel

set_option maxHeartbeats 4000000 in
set_option maxRecDepth 100000 in
theorem c5_parcelBy (l : Launch) (dC : Nat → ClassId) (dI : Nat → Nat → Nat) (cs : Nat → ClassId) (a : Nat → Nat) (x : ModS) (p0 : Int) (p1 : Int) (res : Int) (hf : f5_parcelBy x p0 p1 = some res) : Met l yX5_parcelBy wsX5_parcelBy ({ frames := 3, cells := 0, slots := 0, locals := 67 } : Room) (va_Pc [.ref (a 0), .int (iI p0), .int (iI p1)] (xPR (dC, dI) vwCl (w5 cs a x) (xT cs))) (vp_Si (fun r => r = iI res)) 0 0 (fun _ => False) := by
  refine Met.ofW (cc := cX5_parcelBy) (maxL := 3) (ret := (some .int)) (by decide) rfl ?_
  intro p e s m args below meth c s₁ B hml hv
  obtain ⟨rfl, hP, hK⟩ := hv
  have hx := B.exec
  have hb := B.bytes
  have hr := B.returns
  have hts := atoms_spec (ws := wsX5_parcelBy) B.pre
  have hown : s.vm.findClass RX5 = some m.cls := findClass_of_methodNamed B.named
  have hlocks := B.notSynchronized
  have hl := lv_entry [.ref (a 0), .int (iI p0), .int (iI p1)] (n := 3) (Nat.le_of_ble_eq_true rfl)
  rw [lg_entry_eq]
  generalize (lg_sl [.ref (a 0), .int (iI p0), .int (iI p1)] ++ List.replicate (3 - (lg_sl [.ref (a 0), .int (iI p0), .int (iI p1)]).length) Slot.unset).toArray = ls at hl ⊢
  have hl : lv_has ls 3 [(0, .ref (a 0)), (1, .int (iI p0)), (2, .int (iI p1))] := hl
  unfold f5_parcelBy at hf
  refine lv_iload_n hx hb dX5_parcelBy_0 rfl (lv_at hl 2 rfl) ?_
  refine xk_iconst hx hb dX5_parcelBy_1 ?_
  obtain ⟨c1a, c1b, c1t, c1f⟩ := x_ltE hf
  refine xk_icmp_ge (tgt := 14) hx hb c1a c1b dX5_parcelBy_2 (by decide) (fun c1 => ?_) (fun c1 => ?_)
  · have hf := c1t c1
    refine lv_aload_n hx hb dX5_parcelBy_5 rfl (lv_at hl 0 rfl) ?_
    refine lv_iload_n hx hb dX5_parcelBy_6 rfl (lv_at hl 1 rfl) ?_
    refine lv_iload_n hx hb dX5_parcelBy_7 rfl (lv_at hl 2 rfl) ?_
    obtain ⟨v2, ev2, hf⟩ := x_bind hf
    refine xc_ri (As := [.int (iI p0), .int (iI p1)]) (rest := []) ⟨hx, hb, hml, hown, hts⟩ (c5_of l dC dI cs a x p0 p1  _ ev2) (cwV 2 hts gX5_parcelBy_X5_of rfl rfl rfl cdX5_of ⟨Nat.le_of_ble_eq_true rfl, Nat.le_of_ble_eq_true rfl⟩) hK hP [0, 1, 2, 3, 4, 5, 6, 7] rfl 0 rfl rfl rfl hl.1 rfl (Nat.le_of_ble_eq_true rfl) dX5_parcelBy_8 ⟨Nat.zero_le _, Nat.zero_le _⟩ ?_
    refine lv_goto (tgt := 60) hx hb dX5_parcelBy_11 (by decide) ?_
    obtain rfl := Option.some.inj hf
    exact xe_ri hx hb hr hlocks dX5_parcelBy_60 rfl
  · have hf := c1f c1
    refine lv_iload_n hx hb dX5_parcelBy_14 rfl (lv_at hl 2 rfl) ?_
    refine xk_iconst hx hb dX5_parcelBy_15 ?_
    obtain ⟨c3a, c3b, c3t, c3f⟩ := x_eqE hf
    refine xk_icmp_ne (tgt := 42) hx hb c3a c3b dX5_parcelBy_16 (by decide) (fun c3 => ?_) (fun c3 => ?_)
    · have hf := c3t c3
      refine lv_aload_n hx hb dX5_parcelBy_19 rfl (lv_at hl 0 rfl) ?_
      refine lv_iload_n hx hb dX5_parcelBy_20 rfl (lv_at hl 1 rfl) ?_
      refine xk_iconst hx hb dX5_parcelBy_21 ?_
      obtain ⟨v4, ev4, hf⟩ := x_bind hf
      refine xc_ri (As := [.int (iI p0), .int (iI 2)]) (rest := []) ⟨hx, hb, hml, hown, hts⟩ (c5_of l dC dI cs a x p0 2  _ ev4) (cwV 2 hts gX5_parcelBy_X5_of rfl rfl rfl cdX5_of ⟨Nat.le_of_ble_eq_true rfl, Nat.le_of_ble_eq_true rfl⟩) hK hP [0, 1, 2, 3, 4, 5, 6, 7] rfl 0 rfl rfl rfl hl.1 rfl (Nat.le_of_ble_eq_true rfl) dX5_parcelBy_22 ⟨Nat.zero_le _, Nat.zero_le _⟩ ?_
      refine xk_iconst hx hb dX5_parcelBy_25 ?_
      obtain ⟨c5a, c5b, c5t, c5f⟩ := x_eqE hf
      refine xk_icmp_ne (tgt := 38) hx hb c5a c5b dX5_parcelBy_26 (by decide) (fun c5 => ?_) (fun c5 => ?_)
      · have hf := c5t c5
        refine lv_aload_n hx hb dX5_parcelBy_29 rfl (lv_at hl 0 rfl) ?_
        refine lv_iload_n hx hb dX5_parcelBy_30 rfl (lv_at hl 1 rfl) ?_
        refine xk_iconst hx hb dX5_parcelBy_31 ?_
        obtain ⟨v6, ev6, hf⟩ := x_bind hf
        refine xc_ri (As := [.int (iI p0), .int (iI 3)]) (rest := []) ⟨hx, hb, hml, hown, hts⟩ (c5_of l dC dI cs a x p0 3  _ ev6) (cwV 2 hts gX5_parcelBy_X5_of rfl rfl rfl cdX5_of ⟨Nat.le_of_ble_eq_true rfl, Nat.le_of_ble_eq_true rfl⟩) hK hP [0, 1, 2, 3, 4, 5, 6, 7] rfl 0 rfl rfl rfl hl.1 rfl (Nat.le_of_ble_eq_true rfl) dX5_parcelBy_32 ⟨Nat.zero_le _, Nat.zero_le _⟩ ?_
        refine lv_goto (tgt := 60) hx hb dX5_parcelBy_35 (by decide) ?_
        obtain rfl := Option.some.inj hf
        exact xe_ri hx hb hr hlocks dX5_parcelBy_60 rfl
      · have hf := c5f c5
        refine xk_iconst hx hb dX5_parcelBy_38 ?_
        refine lv_goto (tgt := 60) hx hb dX5_parcelBy_39 (by decide) ?_
        obtain rfl := Option.some.inj hf
        exact xe_ri hx hb hr hlocks dX5_parcelBy_60 rfl
    · have hf := c3f c3
      refine lv_aload_n hx hb dX5_parcelBy_42 rfl (lv_at hl 0 rfl) ?_
      refine lv_iload_n hx hb dX5_parcelBy_43 rfl (lv_at hl 1 rfl) ?_
      refine xk_iconst hx hb dX5_parcelBy_44 ?_
      obtain ⟨v7, ev7, hf⟩ := x_bind hf
      refine xc_ri (As := [.int (iI p0), .int (iI 2)]) (rest := []) ⟨hx, hb, hml, hown, hts⟩ (c5_of l dC dI cs a x p0 2  _ ev7) (cwV 2 hts gX5_parcelBy_X5_of rfl rfl rfl cdX5_of ⟨Nat.le_of_ble_eq_true rfl, Nat.le_of_ble_eq_true rfl⟩) hK hP [0, 1, 2, 3, 4, 5, 6, 7] rfl 0 rfl rfl rfl hl.1 rfl (Nat.le_of_ble_eq_true rfl) dX5_parcelBy_45 ⟨Nat.zero_le _, Nat.zero_le _⟩ ?_
      obtain ⟨c8a, c8b, c8t, c8f⟩ := x_eqE hf
      refine xk_if_ne (tgt := 55) hx hb c8a dX5_parcelBy_48 (by decide) (fun c8 => ?_) (fun c8 => ?_)
      · have hf := c8t c8
        refine xk_iconst hx hb dX5_parcelBy_51 ?_
        refine lv_goto (tgt := 60) hx hb dX5_parcelBy_52 (by decide) ?_
        obtain rfl := Option.some.inj hf
        exact xe_ri hx hb hr hlocks dX5_parcelBy_60 rfl
      · have hf := c8f c8
        refine lv_aload_n hx hb dX5_parcelBy_55 rfl (lv_at hl 0 rfl) ?_
        refine lv_iload_n hx hb dX5_parcelBy_56 rfl (lv_at hl 1 rfl) ?_
        obtain ⟨v9, ev9, hf⟩ := x_bind hf
        refine xc_ri (As := [.int (iI p0)]) (rest := []) ⟨hx, hb, hml, hown, hts⟩ (c5_placeIn l dC dI cs a x p0  _ ev9) (cwV 1 hts gX5_parcelBy_X5_placeIn rfl rfl rfl cdX5_placeIn ⟨Nat.le_of_ble_eq_true rfl, Nat.le_of_ble_eq_true rfl⟩) hK hP [0, 1, 2, 3, 4, 5, 6, 7] rfl 0 rfl rfl rfl hl.1 rfl (Nat.le_of_ble_eq_true rfl) dX5_parcelBy_57 ⟨Nat.zero_le _, Nat.zero_le _⟩ ?_
        obtain rfl := Option.some.inj hf
        exact xe_ri hx hb hr hlocks dX5_parcelBy_60 rfl
theorem cdX5_parcelBy : yX5_parcelBy.cls = RX5 ∧ yX5_parcelBy.cls ≠ "java/lang/invoke/MethodHandle" ∧ yX5_parcelBy.cls ≠ "java/lang/invoke/VarHandle" ∧ (parseMethodDescriptor yX5_parcelBy.desc).map (fun d => d.parameters.length) = some 2 := by decide +kernel

set_option maxHeartbeats 4000000 in
set_option maxRecDepth 100000 in
theorem c5_parcel (l : Launch) (dC : Nat → ClassId) (dI : Nat → Nat → Nat) (cs : Nat → ClassId) (a : Nat → Nat) (sz : Nat) (x : ModS) (p0 : Int) (p1 : Int) (res : Int × ModS) (hf : f5_parcel x p0 p1 = some res) : Met l yX5_parcel wsX5_parcel ({ frames := 4, cells := 0, slots := 0, locals := 89 } : Room) (va_Pc [.ref (a 0), .int (iI p0), .int (iI p1)] (xPW (dC, dI) vwCl (w5 cs a x) (xT cs) sz)) (xQi (dC, dI) vwCl (w5 cs a x) (w5 cs a res.2) sz res.1) 0 0 (va_A (w5 cs a x) sz) := by
  refine Met.ofW (cc := cX5_parcel) (maxL := 3) (ret := (some .int)) (by decide) rfl ?_
  intro p e s m args below meth c s₁ B hml hv
  obtain ⟨rfl, hsz, hP, hK, hD0⟩ := hv
  have hx := B.exec
  have hb := B.bytes
  have hr := B.returns
  have hts := atoms_spec (ws := wsX5_parcel) B.pre
  have hown : s.vm.findClass RX5 = some m.cls := findClass_of_methodNamed B.named
  have hlocks := B.notSynchronized
  have hin5 : ∀ w ∈ wsX50, w ∈ wsX5_parcel := by decide +kernel
  subst hsz
  have hD := hD0.self (sz := s.heap.size)
  have hA : ∀ z9 : Nat, s.heap.size ≤ z9 → va_A (w5 cs a x) s.heap.size z9 := fun z9 h => Or.inr h
  have hS : va_S (va_A (w5 cs a x) s.heap.size) s.heap s.heap [] := va_S.rf
  have hl := lv_entry [.ref (a 0), .int (iI p0), .int (iI p1)] (n := 3) (Nat.le_of_ble_eq_true rfl)
  rw [lg_entry_eq]
  generalize (lg_sl [.ref (a 0), .int (iI p0), .int (iI p1)] ++ List.replicate (3 - (lg_sl [.ref (a 0), .int (iI p0), .int (iI p1)]).length) Slot.unset).toArray = ls at hl ⊢
  have hl : lv_has ls 3 [(0, .ref (a 0)), (1, .int (iI p0)), (2, .int (iI p1))] := hl
  unfold f5_parcel at hf
  refine lv_aload_n hx hb dX5_parcel_0 rfl (lv_at hl 0 rfl) ?_
  refine lv_iload_n hx hb dX5_parcel_1 rfl (lv_at hl 1 rfl) ?_
  refine xk_iconst hx hb dX5_parcel_2 ?_
  refine lv_aload_n hx hb dX5_parcel_3 rfl (lv_at hl 0 rfl) ?_
  refine va_get (D := (dC, dI)) (ci := 5) (v := .ref (a 1)) (C := RX5) (T := TX5) (N := 13) hx hb hts hin5 hown hK hP 0 rfl rfl 1 (by decide) (hts (.fieldLink RX5 13 "BoatRunsModel" "now" "[I") (by decide +kernel)) (fun _ h9 => h9) rfl dX5_parcel_4 ?_
  refine xk_iconst hx hb dX5_parcel_7 ?_
  obtain ⟨v1, ev1, hf⟩ := x_bind hf
  refine xk_iald (f := g5_now x) hx hb hK hP 1 0 ev1 (by decide) rfl rfl dX5_parcel_8 ?_
  refine xk_iconst hx hb dX5_parcel_9 ?_
  refine xk_isub hx hb dX5_parcel_10 ?_
  obtain ⟨v2, ev2, hf⟩ := x_bind hf
  refine xc_si (As := [.int (iI p0), .int (iI 0), .int (iI (v1 - 1))]) (rest := [.ref (a 0)]) ⟨hx, hb, hml, hown, hts⟩ (c5_in l p0 0 (v1 - 1) _ ev2) (va_cwS 3 hts gX5_parcel_X5_in rfl rfl rfl cdX5_in ⟨Nat.le_of_ble_eq_true rfl, Nat.le_of_ble_eq_true rfl⟩) rfl hl.1 rfl (Nat.le_of_ble_eq_true rfl) dX5_parcel_11 ⟨Nat.zero_le _, Nat.zero_le _⟩ ?_
  obtain ⟨c3a, c3b, c3t, c3f⟩ := x_eqE hf
  refine xk_if_ne (tgt := 21) hx hb c3a dX5_parcel_14 (by decide) (fun c3 => ?_) (fun c3 => ?_)
  · have hf := c3t c3
    refine xk_iconst hx hb dX5_parcel_17 ?_
    refine lv_goto (tgt := 35) hx hb dX5_parcel_18 (by decide) ?_
    refine va_put (D := (dC, dI)) (ci := 5) (v := .int (iI 1)) (ty := .int) (C := RX5) (T := TX5) (N := 13) hx hb hts hin5 tyX5 tyX5_ok nmX5 hown hK hP (x_addr hD rfl) hS 0 rfl rfl 0 (by decide) (hts (.fieldLink RX5 1 "BoatRunsModel" "thrown" "I") (by decide +kernel)) (fun _ h9 => h9) rfl (by decide +kernel) rfl rfl (Nat.le_of_ble_eq_true rfl) dX5_parcel_35 (fun H locs hP _ hS => ?_)
    have hP : va_P (dC, dI) vwCl (w5C cs a 1 (g5_acts x) (g5_typ x) (g5_lat x) (g5_pos x) (g5_wra x) (g5_now x) (g5_put x) (g5_was x) (g5_txt x) (g5_lef x) (g5_abo x) (g5_ors x)) H := hP
    refine lv_aload_n hx hb dX5_parcel_38 rfl (lv_at hl 0 rfl) ?_
    refine va_get (D := (dC, dI)) (ci := 5) (v := .int (iI 1)) (C := RX5) (T := TX5) (N := 13) hx hb hts hin5 hown hK hP 0 rfl rfl 0 (by decide) (hts (.fieldLink RX5 1 "BoatRunsModel" "thrown" "I") (by decide +kernel)) (fun _ h9 => h9) rfl dX5_parcel_39 ?_
    refine xk_if_le (tgt := 49) hx hb (by decide) dX5_parcel_42 (by decide) (fun c4 => ?_) (fun c4 => ?_)
    · refine xk_iconst hx hb dX5_parcel_45 ?_
      refine lv_goto (tgt := 55) hx hb dX5_parcel_46 (by decide) ?_
      obtain rfl := Option.some.inj hf
      exact xe_wi hx hb hr hlocks hS hP dX5_parcel_55
    · exact absurd c4 (by decide)
  · have hf := c3f c3
    refine lv_iload_n hx hb dX5_parcel_21 rfl (lv_at hl 2 rfl) ?_
    refine xk_iconst hx hb dX5_parcel_22 ?_
    refine xk_iconst hx hb dX5_parcel_23 ?_
    obtain ⟨v5, ev5, hf⟩ := x_bind hf
    refine xc_si (As := [.int (iI p1), .int (iI 0), .int (iI 4)]) (rest := [.ref (a 0)]) ⟨hx, hb, hml, hown, hts⟩ (c5_in l p1 0 4 _ ev5) (va_cwS 3 hts gX5_parcel_X5_in rfl rfl rfl cdX5_in ⟨Nat.le_of_ble_eq_true rfl, Nat.le_of_ble_eq_true rfl⟩) rfl hl.1 rfl (Nat.le_of_ble_eq_true rfl) dX5_parcel_24 ⟨Nat.zero_le _, Nat.zero_le _⟩ ?_
    obtain ⟨c6a, c6b, c6t, c6f⟩ := x_eqE hf
    refine xk_if_ne (tgt := 34) hx hb c6a dX5_parcel_27 (by decide) (fun c6 => ?_) (fun c6 => ?_)
    · have hf := c6t c6
      refine xk_iconst hx hb dX5_parcel_30 ?_
      refine lv_goto (tgt := 35) hx hb dX5_parcel_31 (by decide) ?_
      refine va_put (D := (dC, dI)) (ci := 5) (v := .int (iI 2)) (ty := .int) (C := RX5) (T := TX5) (N := 13) hx hb hts hin5 tyX5 tyX5_ok nmX5 hown hK hP (x_addr hD rfl) hS 0 rfl rfl 0 (by decide) (hts (.fieldLink RX5 1 "BoatRunsModel" "thrown" "I") (by decide +kernel)) (fun _ h9 => h9) rfl (by decide +kernel) rfl rfl (Nat.le_of_ble_eq_true rfl) dX5_parcel_35 (fun H locs hP _ hS => ?_)
      have hP : va_P (dC, dI) vwCl (w5C cs a 2 (g5_acts x) (g5_typ x) (g5_lat x) (g5_pos x) (g5_wra x) (g5_now x) (g5_put x) (g5_was x) (g5_txt x) (g5_lef x) (g5_abo x) (g5_ors x)) H := hP
      refine lv_aload_n hx hb dX5_parcel_38 rfl (lv_at hl 0 rfl) ?_
      refine va_get (D := (dC, dI)) (ci := 5) (v := .int (iI 2)) (C := RX5) (T := TX5) (N := 13) hx hb hts hin5 hown hK hP 0 rfl rfl 0 (by decide) (hts (.fieldLink RX5 1 "BoatRunsModel" "thrown" "I") (by decide +kernel)) (fun _ h9 => h9) rfl dX5_parcel_39 ?_
      refine xk_if_le (tgt := 49) hx hb (by decide) dX5_parcel_42 (by decide) (fun c7 => ?_) (fun c7 => ?_)
      · refine xk_iconst hx hb dX5_parcel_45 ?_
        refine lv_goto (tgt := 55) hx hb dX5_parcel_46 (by decide) ?_
        obtain rfl := Option.some.inj hf
        exact xe_wi hx hb hr hlocks hS hP dX5_parcel_55
      · exact absurd c7 (by decide)
    · have hf := c6f c6
      refine xk_iconst hx hb dX5_parcel_34 ?_
      refine va_put (D := (dC, dI)) (ci := 5) (v := .int (iI 0)) (ty := .int) (C := RX5) (T := TX5) (N := 13) hx hb hts hin5 tyX5 tyX5_ok nmX5 hown hK hP (x_addr hD rfl) hS 0 rfl rfl 0 (by decide) (hts (.fieldLink RX5 1 "BoatRunsModel" "thrown" "I") (by decide +kernel)) (fun _ h9 => h9) rfl (by decide +kernel) rfl rfl (Nat.le_of_ble_eq_true rfl) dX5_parcel_35 (fun H locs hP _ hS => ?_)
      have hP : va_P (dC, dI) vwCl (w5C cs a 0 (g5_acts x) (g5_typ x) (g5_lat x) (g5_pos x) (g5_wra x) (g5_now x) (g5_put x) (g5_was x) (g5_txt x) (g5_lef x) (g5_abo x) (g5_ors x)) H := hP
      refine lv_aload_n hx hb dX5_parcel_38 rfl (lv_at hl 0 rfl) ?_
      refine va_get (D := (dC, dI)) (ci := 5) (v := .int (iI 0)) (C := RX5) (T := TX5) (N := 13) hx hb hts hin5 hown hK hP 0 rfl rfl 0 (by decide) (hts (.fieldLink RX5 1 "BoatRunsModel" "thrown" "I") (by decide +kernel)) (fun _ h9 => h9) rfl dX5_parcel_39 ?_
      refine xk_if_le (tgt := 49) hx hb (by decide) dX5_parcel_42 (by decide) (fun c8 => ?_) (fun c8 => ?_)
      · exact absurd c8 (by decide)
      · refine lv_aload_n hx hb dX5_parcel_49 rfl (lv_at hl 0 rfl) ?_
        refine lv_iload_n hx hb dX5_parcel_50 rfl (lv_at hl 1 rfl) ?_
        refine lv_iload_n hx hb dX5_parcel_51 rfl (lv_at hl 2 rfl) ?_
        obtain ⟨v9, ev9, hf⟩ := x_bind hf
        refine xc_ri (As := [.int (iI p0), .int (iI p1)]) (rest := []) ⟨hx, hb, hml, hown, hts⟩ (c5_parcelBy l dC dI cs a (s5_thr x 0) p0 p1  _ ev9) (cwV 2 hts gX5_parcel_X5_parcelBy rfl rfl rfl cdX5_parcelBy ⟨Nat.le_of_ble_eq_true rfl, Nat.le_of_ble_eq_true rfl⟩) hK hP [0, 1, 2, 3, 4, 5, 6, 7] rfl 0 rfl rfl rfl hl.1 rfl (Nat.le_of_ble_eq_true rfl) dX5_parcel_52 ⟨Nat.zero_le _, Nat.zero_le _⟩ ?_
        obtain rfl := Option.some.inj hf
        exact xe_wi hx hb hr hlocks hS hP dX5_parcel_55
theorem cdX5_parcel : yX5_parcel.cls = RX5 ∧ yX5_parcel.cls ≠ "java/lang/invoke/MethodHandle" ∧ yX5_parcel.cls ≠ "java/lang/invoke/VarHandle" ∧ (parseMethodDescriptor yX5_parcel.desc).map (fun d => d.parameters.length) = some 2 := by decide +kernel

set_option maxHeartbeats 4000000 in
set_option maxRecDepth 100000 in
theorem c5_runBy (l : Launch) (dC : Nat → ClassId) (dI : Nat → Nat → Nat) (cs : Nat → ClassId) (a : Nat → Nat) (x : ModS) (p0 : Int) (p1 : Int) (res : Int) (hf : f5_runBy x p0 p1 = some res) : Met l yX5_runBy wsX5_runBy ({ frames := 3, cells := 0, slots := 0, locals := 67 } : Room) (va_Pc [.ref (a 0), .int (iI p0), .int (iI p1)] (xPR (dC, dI) vwCl (w5 cs a x) (xT cs))) (vp_Si (fun r => r = iI res)) 0 0 (fun _ => False) := by
  refine Met.ofW (cc := cX5_runBy) (maxL := 3) (ret := (some .int)) (by decide) rfl ?_
  intro p e s m args below meth c s₁ B hml hv
  obtain ⟨rfl, hP, hK⟩ := hv
  have hx := B.exec
  have hb := B.bytes
  have hr := B.returns
  have hts := atoms_spec (ws := wsX5_runBy) B.pre
  have hown : s.vm.findClass RX5 = some m.cls := findClass_of_methodNamed B.named
  have hlocks := B.notSynchronized
  have hin5 : ∀ w ∈ wsX50, w ∈ wsX5_runBy := by decide +kernel
  have hl := lv_entry [.ref (a 0), .int (iI p0), .int (iI p1)] (n := 3) (Nat.le_of_ble_eq_true rfl)
  rw [lg_entry_eq]
  generalize (lg_sl [.ref (a 0), .int (iI p0), .int (iI p1)] ++ List.replicate (3 - (lg_sl [.ref (a 0), .int (iI p0), .int (iI p1)]).length) Slot.unset).toArray = ls at hl ⊢
  have hl : lv_has ls 3 [(0, .ref (a 0)), (1, .int (iI p0)), (2, .int (iI p1))] := hl
  unfold f5_runBy at hf
  refine lv_iload_n hx hb dX5_runBy_0 rfl (lv_at hl 2 rfl) ?_
  obtain ⟨c1a, c1b, c1t, c1f⟩ := x_eqE hf
  by_cases c1 : p1 = 0
  · have hf := c1t c1
    refine xk_tabIn (tgt := 36) hx hb c1a c1 dX5_runBy_1 (by decide) rfl (by decide) ?_
    refine lv_aload_n hx hb dX5_runBy_36 rfl (lv_at hl 0 rfl) ?_
    refine lv_iload_n hx hb dX5_runBy_37 rfl (lv_at hl 1 rfl) ?_
    obtain ⟨v2, ev2, hf⟩ := x_bind hf
    refine xc_ri (As := [.int (iI p0)]) (rest := []) ⟨hx, hb, hml, hown, hts⟩ (c5_manyOf l dC dI cs a x p0  _ ev2) (cwV 1 hts gX5_runBy_X5_manyOf rfl rfl rfl cdX5_manyOf ⟨Nat.le_of_ble_eq_true rfl, Nat.le_of_ble_eq_true rfl⟩) hK hP [0, 1, 2, 3, 4, 5, 6, 7] rfl 0 rfl rfl rfl hl.1 rfl (Nat.le_of_ble_eq_true rfl) dX5_runBy_38 ⟨Nat.zero_le _, Nat.zero_le _⟩ ?_
    obtain rfl := Option.some.inj hf
    exact xe_ri hx hb hr hlocks dX5_runBy_41 rfl
  · have hf := c1f c1
    obtain ⟨c3a, c3b, c3t, c3f⟩ := x_eqE hf
    by_cases c3 : p1 = 1
    · have hf := c3t c3
      refine xk_tabIn (tgt := 42) hx hb c3a c3 dX5_runBy_1 (by decide) rfl (by decide) ?_
      refine lv_aload_n hx hb dX5_runBy_42 rfl (lv_at hl 0 rfl) ?_
      refine lv_iload_n hx hb dX5_runBy_43 rfl (lv_at hl 1 rfl) ?_
      obtain ⟨v4, ev4, hf⟩ := x_bind hf
      refine xc_ri (As := [.int (iI p0)]) (rest := []) ⟨hx, hb, hml, hown, hts⟩ (c5_weightOf l dC dI cs a x p0  _ ev4) (cwV 1 hts gX5_runBy_X5_weightOf rfl rfl rfl cdX5_weightOf ⟨Nat.le_of_ble_eq_true rfl, Nat.le_of_ble_eq_true rfl⟩) hK hP [0, 1, 2, 3, 4, 5, 6, 7] rfl 0 rfl rfl rfl hl.1 rfl (Nat.le_of_ble_eq_true rfl) dX5_runBy_44 ⟨Nat.zero_le _, Nat.zero_le _⟩ ?_
      obtain rfl := Option.some.inj hf
      exact xe_ri hx hb hr hlocks dX5_runBy_47 rfl
    · have hf := c3f c3
      obtain ⟨c5a, c5b, c5t, c5f⟩ := x_eqE hf
      by_cases c5 : p1 = 2
      · have hf := c5t c5
        refine xk_tabIn (tgt := 48) hx hb c5a c5 dX5_runBy_1 (by decide) rfl (by decide) ?_
        refine lv_aload_n hx hb dX5_runBy_48 rfl (lv_at hl 0 rfl) ?_
        refine va_get (D := (dC, dI)) (ci := 5) (v := .ref (a 1)) (C := RX5) (T := TX5) (N := 13) hx hb hts hin5 hown hK hP 0 rfl rfl 1 (by decide) (hts (.fieldLink RX5 13 "BoatRunsModel" "now" "[I") (by decide +kernel)) (fun _ h9 => h9) rfl dX5_runBy_49 ?_
        refine xk_bipush hx hb dX5_runBy_52 (by decide) ?_
        refine xk_iconst hx hb dX5_runBy_54 ?_
        refine lv_aload_n hx hb dX5_runBy_55 rfl (lv_at hl 0 rfl) ?_
        refine lv_iload_n hx hb dX5_runBy_56 rfl (lv_at hl 1 rfl) ?_
        obtain ⟨v6, ev6, hf⟩ := x_bind hf
        refine xc_ri (As := [.int (iI p0)]) (rest := [.int (iI 2), .int (iI 10), .ref (a 1)]) ⟨hx, hb, hml, hown, hts⟩ (c5_placeOf l dC dI cs a x p0  _ ev6) (cwV 1 hts gX5_runBy_X5_placeOf rfl rfl rfl cdX5_placeOf ⟨Nat.le_of_ble_eq_true rfl, Nat.le_of_ble_eq_true rfl⟩) hK hP [0, 1, 2, 3, 4, 5, 6, 7] rfl 0 rfl rfl rfl hl.1 rfl (Nat.le_of_ble_eq_true rfl) dX5_runBy_57 ⟨Nat.zero_le _, Nat.zero_le _⟩ ?_
        refine xk_imul hx hb dX5_runBy_60 ?_
        refine xk_iadd hx hb dX5_runBy_61 ?_
        refine xk_iconst hx hb dX5_runBy_62 ?_
        refine xk_iadd hx hb dX5_runBy_63 ?_
        obtain ⟨v7, ev7, hf⟩ := x_bind hf
        refine xk_iald (f := g5_now x) hx hb hK hP 1 0 ev7 (by decide) rfl rfl dX5_runBy_64 ?_
        obtain rfl := Option.some.inj hf
        exact xe_ri hx hb hr hlocks dX5_runBy_65 rfl
      · have hf := c5f c5
        obtain ⟨c8a, c8b, c8t, c8f⟩ := x_eqE hf
        by_cases c8 : p1 = 3
        · have hf := c8t c8
          refine xk_tabIn (tgt := 66) hx hb c8a c8 dX5_runBy_1 (by decide) rfl (by decide) ?_
          refine lv_aload_n hx hb dX5_runBy_66 rfl (lv_at hl 0 rfl) ?_
          refine lv_aload_n hx hb dX5_runBy_67 rfl (lv_at hl 0 rfl) ?_
          refine lv_iload_n hx hb dX5_runBy_68 rfl (lv_at hl 1 rfl) ?_
          obtain ⟨v9, ev9, hf⟩ := x_bind hf
          refine xc_ri (As := [.int (iI p0)]) (rest := [.ref (a 0)]) ⟨hx, hb, hml, hown, hts⟩ (c5_firstOf l dC dI cs a x p0  _ ev9) (cwV 1 hts gX5_runBy_X5_firstOf rfl rfl rfl cdX5_firstOf ⟨Nat.le_of_ble_eq_true rfl, Nat.le_of_ble_eq_true rfl⟩) hK hP [0, 1, 2, 3, 4, 5, 6, 7] rfl 0 rfl rfl rfl hl.1 rfl (Nat.le_of_ble_eq_true rfl) dX5_runBy_69 ⟨Nat.zero_le _, Nat.zero_le _⟩ ?_
          refine xk_iconst hx hb dX5_runBy_72 ?_
          obtain ⟨v10, ev10, hf⟩ := x_bind hf
          refine xc_ri (As := [.int (iI v9), .int (iI 0)]) (rest := []) ⟨hx, hb, hml, hown, hts⟩ (c5_of l dC dI cs a x v9 0  _ ev10) (cwV 2 hts gX5_runBy_X5_of rfl rfl rfl cdX5_of ⟨Nat.le_of_ble_eq_true rfl, Nat.le_of_ble_eq_true rfl⟩) hK hP [0, 1, 2, 3, 4, 5, 6, 7] rfl 0 rfl rfl rfl hl.1 rfl (Nat.le_of_ble_eq_true rfl) dX5_runBy_73 ⟨Nat.zero_le _, Nat.zero_le _⟩ ?_
          obtain rfl := Option.some.inj hf
          exact xe_ri hx hb hr hlocks dX5_runBy_76 rfl
        · have hf := c8f c8
          obtain ⟨c11a, c11b, c11t, c11f⟩ := x_eqE hf
          by_cases c11 : p1 = 4
          · have hf := c11t c11
            refine xk_tabIn (tgt := 77) hx hb c11a c11 dX5_runBy_1 (by decide) rfl (by decide) ?_
            refine lv_aload_n hx hb dX5_runBy_77 rfl (lv_at hl 0 rfl) ?_
            refine lv_aload_n hx hb dX5_runBy_78 rfl (lv_at hl 0 rfl) ?_
            refine lv_iload_n hx hb dX5_runBy_79 rfl (lv_at hl 1 rfl) ?_
            obtain ⟨v12, ev12, hf⟩ := x_bind hf
            refine xc_ri (As := [.int (iI p0)]) (rest := [.ref (a 0)]) ⟨hx, hb, hml, hown, hts⟩ (c5_lastOf l dC dI cs a x p0  _ ev12) (cwV 1 hts gX5_runBy_X5_lastOf rfl rfl rfl cdX5_lastOf ⟨Nat.le_of_ble_eq_true rfl, Nat.le_of_ble_eq_true rfl⟩) hK hP [0, 1, 2, 3, 4, 5, 6, 7] rfl 0 rfl rfl rfl hl.1 rfl (Nat.le_of_ble_eq_true rfl) dX5_runBy_80 ⟨Nat.zero_le _, Nat.zero_le _⟩ ?_
            refine xk_iconst hx hb dX5_runBy_83 ?_
            obtain ⟨v13, ev13, hf⟩ := x_bind hf
            refine xc_ri (As := [.int (iI v12), .int (iI 0)]) (rest := []) ⟨hx, hb, hml, hown, hts⟩ (c5_of l dC dI cs a x v12 0  _ ev13) (cwV 2 hts gX5_runBy_X5_of rfl rfl rfl cdX5_of ⟨Nat.le_of_ble_eq_true rfl, Nat.le_of_ble_eq_true rfl⟩) hK hP [0, 1, 2, 3, 4, 5, 6, 7] rfl 0 rfl rfl rfl hl.1 rfl (Nat.le_of_ble_eq_true rfl) dX5_runBy_84 ⟨Nat.zero_le _, Nat.zero_le _⟩ ?_
            obtain rfl := Option.some.inj hf
            exact xe_ri hx hb hr hlocks dX5_runBy_87 rfl
          · have hf := c11f c11
            refine xk_tabOut (tgt := 88) hx hb c11a dX5_runBy_1 (by omega) (by decide) ?_
            refine lv_aload_n hx hb dX5_runBy_88 rfl (lv_at hl 0 rfl) ?_
            refine va_get (D := (dC, dI)) (ci := 5) (v := .ref (a 1)) (C := RX5) (T := TX5) (N := 13) hx hb hts hin5 hown hK hP 0 rfl rfl 1 (by decide) (hts (.fieldLink RX5 13 "BoatRunsModel" "now" "[I") (by decide +kernel)) (fun _ h9 => h9) rfl dX5_runBy_89 ?_
            refine xk_bipush hx hb dX5_runBy_92 (by decide) ?_
            obtain ⟨v14, ev14, hf⟩ := x_bind hf
            refine xk_iald (f := g5_now x) hx hb hK hP 1 0 ev14 (by decide) rfl rfl dX5_runBy_94 ?_
            refine lv_iload_n hx hb dX5_runBy_95 rfl (lv_at hl 1 rfl) ?_
            obtain ⟨c15a, c15b, c15t, c15f⟩ := x_eqE hf
            refine xk_icmp_ne (tgt := 103) hx hb c15a c15b dX5_runBy_96 (by decide) (fun c15 => ?_) (fun c15 => ?_)
            · have hf := c15t c15
              refine xk_iconst hx hb dX5_runBy_99 ?_
              refine lv_goto (tgt := 104) hx hb dX5_runBy_100 (by decide) ?_
              obtain rfl := Option.some.inj hf
              exact xe_ri hx hb hr hlocks dX5_runBy_104 rfl
            · have hf := c15f c15
              refine xk_iconst hx hb dX5_runBy_103 ?_
              obtain rfl := Option.some.inj hf
              exact xe_ri hx hb hr hlocks dX5_runBy_104 rfl
theorem cdX5_runBy : yX5_runBy.cls = RX5 ∧ yX5_runBy.cls ≠ "java/lang/invoke/MethodHandle" ∧ yX5_runBy.cls ≠ "java/lang/invoke/VarHandle" ∧ (parseMethodDescriptor yX5_runBy.desc).map (fun d => d.parameters.length) = some 2 := by decide +kernel

set_option maxHeartbeats 4000000 in
set_option maxRecDepth 100000 in
theorem c5_run (l : Launch) (dC : Nat → ClassId) (dI : Nat → Nat → Nat) (cs : Nat → ClassId) (a : Nat → Nat) (sz : Nat) (x : ModS) (p0 : Int) (p1 : Int) (res : Int × ModS) (hf : f5_run x p0 p1 = some res) : Met l yX5_run wsX5_run ({ frames := 4, cells := 0, slots := 0, locals := 89 } : Room) (va_Pc [.ref (a 0), .int (iI p0), .int (iI p1)] (xPW (dC, dI) vwCl (w5 cs a x) (xT cs) sz)) (xQi (dC, dI) vwCl (w5 cs a x) (w5 cs a res.2) sz res.1) 0 0 (va_A (w5 cs a x) sz) := by
  refine Met.ofW (cc := cX5_run) (maxL := 3) (ret := (some .int)) (by decide) rfl ?_
  intro p e s m args below meth c s₁ B hml hv
  obtain ⟨rfl, hsz, hP, hK, hD0⟩ := hv
  have hx := B.exec
  have hb := B.bytes
  have hr := B.returns
  have hts := atoms_spec (ws := wsX5_run) B.pre
  have hown : s.vm.findClass RX5 = some m.cls := findClass_of_methodNamed B.named
  have hlocks := B.notSynchronized
  have hin5 : ∀ w ∈ wsX50, w ∈ wsX5_run := by decide +kernel
  subst hsz
  have hD := hD0.self (sz := s.heap.size)
  have hA : ∀ z9 : Nat, s.heap.size ≤ z9 → va_A (w5 cs a x) s.heap.size z9 := fun z9 h => Or.inr h
  have hS : va_S (va_A (w5 cs a x) s.heap.size) s.heap s.heap [] := va_S.rf
  have hl := lv_entry [.ref (a 0), .int (iI p0), .int (iI p1)] (n := 3) (Nat.le_of_ble_eq_true rfl)
  rw [lg_entry_eq]
  generalize (lg_sl [.ref (a 0), .int (iI p0), .int (iI p1)] ++ List.replicate (3 - (lg_sl [.ref (a 0), .int (iI p0), .int (iI p1)]).length) Slot.unset).toArray = ls at hl ⊢
  have hl : lv_has ls 3 [(0, .ref (a 0)), (1, .int (iI p0)), (2, .int (iI p1))] := hl
  unfold f5_run at hf
  refine lv_aload_n hx hb dX5_run_0 rfl (lv_at hl 0 rfl) ?_
  refine lv_aload_n hx hb dX5_run_1 rfl (lv_at hl 0 rfl) ?_
  refine lv_iload_n hx hb dX5_run_2 rfl (lv_at hl 1 rfl) ?_
  obtain ⟨v1, ev1, hf⟩ := x_bind hf
  refine xc_ri (As := [.int (iI p0)]) (rest := [.ref (a 0)]) ⟨hx, hb, hml, hown, hts⟩ (c5_placeOf l dC dI cs a x p0  _ ev1) (cwV 1 hts gX5_run_X5_placeOf rfl rfl rfl cdX5_placeOf ⟨Nat.le_of_ble_eq_true rfl, Nat.le_of_ble_eq_true rfl⟩) hK hP [0, 1, 2, 3, 4, 5, 6, 7] rfl 0 rfl rfl rfl hl.1 rfl (Nat.le_of_ble_eq_true rfl) dX5_run_3 ⟨Nat.zero_le _, Nat.zero_le _⟩ ?_
  refine xk_iconst hx hb dX5_run_6 ?_
  obtain ⟨c2a, c2b, c2t, c2f⟩ := x_eqE hf
  refine xk_icmp_ne (tgt := 14) hx hb c2a c2b dX5_run_7 (by decide) (fun c2 => ?_) (fun c2 => ?_)
  · have hf := c2t c2
    refine xk_iconst hx hb dX5_run_10 ?_
    refine lv_goto (tgt := 28) hx hb dX5_run_11 (by decide) ?_
    refine va_put (D := (dC, dI)) (ci := 5) (v := .int (iI 1)) (ty := .int) (C := RX5) (T := TX5) (N := 13) hx hb hts hin5 tyX5 tyX5_ok nmX5 hown hK hP (x_addr hD rfl) hS 0 rfl rfl 0 (by decide) (hts (.fieldLink RX5 1 "BoatRunsModel" "thrown" "I") (by decide +kernel)) (fun _ h9 => h9) rfl (by decide +kernel) rfl rfl (Nat.le_of_ble_eq_true rfl) dX5_run_28 (fun H locs hP _ hS => ?_)
    have hP : va_P (dC, dI) vwCl (w5C cs a 1 (g5_acts x) (g5_typ x) (g5_lat x) (g5_pos x) (g5_wra x) (g5_now x) (g5_put x) (g5_was x) (g5_txt x) (g5_lef x) (g5_abo x) (g5_ors x)) H := hP
    refine lv_aload_n hx hb dX5_run_31 rfl (lv_at hl 0 rfl) ?_
    refine va_get (D := (dC, dI)) (ci := 5) (v := .int (iI 1)) (C := RX5) (T := TX5) (N := 13) hx hb hts hin5 hown hK hP 0 rfl rfl 0 (by decide) (hts (.fieldLink RX5 1 "BoatRunsModel" "thrown" "I") (by decide +kernel)) (fun _ h9 => h9) rfl dX5_run_32 ?_
    refine xk_if_le (tgt := 42) hx hb (by decide) dX5_run_35 (by decide) (fun c3 => ?_) (fun c3 => ?_)
    · refine xk_iconst hx hb dX5_run_38 ?_
      refine lv_goto (tgt := 48) hx hb dX5_run_39 (by decide) ?_
      obtain rfl := Option.some.inj hf
      exact xe_wi hx hb hr hlocks hS hP dX5_run_48
    · exact absurd c3 (by decide)
  · have hf := c2f c2
    refine lv_iload_n hx hb dX5_run_14 rfl (lv_at hl 2 rfl) ?_
    refine xk_iconst hx hb dX5_run_15 ?_
    refine xk_iconst hx hb dX5_run_16 ?_
    obtain ⟨v4, ev4, hf⟩ := x_bind hf
    refine xc_si (As := [.int (iI p1), .int (iI 0), .int (iI 5)]) (rest := [.ref (a 0)]) ⟨hx, hb, hml, hown, hts⟩ (c5_in l p1 0 5 _ ev4) (va_cwS 3 hts gX5_run_X5_in rfl rfl rfl cdX5_in ⟨Nat.le_of_ble_eq_true rfl, Nat.le_of_ble_eq_true rfl⟩) rfl hl.1 rfl (Nat.le_of_ble_eq_true rfl) dX5_run_17 ⟨Nat.zero_le _, Nat.zero_le _⟩ ?_
    obtain ⟨c5a, c5b, c5t, c5f⟩ := x_eqE hf
    refine xk_if_ne (tgt := 27) hx hb c5a dX5_run_20 (by decide) (fun c5 => ?_) (fun c5 => ?_)
    · have hf := c5t c5
      refine xk_iconst hx hb dX5_run_23 ?_
      refine lv_goto (tgt := 28) hx hb dX5_run_24 (by decide) ?_
      refine va_put (D := (dC, dI)) (ci := 5) (v := .int (iI 2)) (ty := .int) (C := RX5) (T := TX5) (N := 13) hx hb hts hin5 tyX5 tyX5_ok nmX5 hown hK hP (x_addr hD rfl) hS 0 rfl rfl 0 (by decide) (hts (.fieldLink RX5 1 "BoatRunsModel" "thrown" "I") (by decide +kernel)) (fun _ h9 => h9) rfl (by decide +kernel) rfl rfl (Nat.le_of_ble_eq_true rfl) dX5_run_28 (fun H locs hP _ hS => ?_)
      have hP : va_P (dC, dI) vwCl (w5C cs a 2 (g5_acts x) (g5_typ x) (g5_lat x) (g5_pos x) (g5_wra x) (g5_now x) (g5_put x) (g5_was x) (g5_txt x) (g5_lef x) (g5_abo x) (g5_ors x)) H := hP
      refine lv_aload_n hx hb dX5_run_31 rfl (lv_at hl 0 rfl) ?_
      refine va_get (D := (dC, dI)) (ci := 5) (v := .int (iI 2)) (C := RX5) (T := TX5) (N := 13) hx hb hts hin5 hown hK hP 0 rfl rfl 0 (by decide) (hts (.fieldLink RX5 1 "BoatRunsModel" "thrown" "I") (by decide +kernel)) (fun _ h9 => h9) rfl dX5_run_32 ?_
      refine xk_if_le (tgt := 42) hx hb (by decide) dX5_run_35 (by decide) (fun c6 => ?_) (fun c6 => ?_)
      · refine xk_iconst hx hb dX5_run_38 ?_
        refine lv_goto (tgt := 48) hx hb dX5_run_39 (by decide) ?_
        obtain rfl := Option.some.inj hf
        exact xe_wi hx hb hr hlocks hS hP dX5_run_48
      · exact absurd c6 (by decide)
    · have hf := c5f c5
      refine xk_iconst hx hb dX5_run_27 ?_
      refine va_put (D := (dC, dI)) (ci := 5) (v := .int (iI 0)) (ty := .int) (C := RX5) (T := TX5) (N := 13) hx hb hts hin5 tyX5 tyX5_ok nmX5 hown hK hP (x_addr hD rfl) hS 0 rfl rfl 0 (by decide) (hts (.fieldLink RX5 1 "BoatRunsModel" "thrown" "I") (by decide +kernel)) (fun _ h9 => h9) rfl (by decide +kernel) rfl rfl (Nat.le_of_ble_eq_true rfl) dX5_run_28 (fun H locs hP _ hS => ?_)
      have hP : va_P (dC, dI) vwCl (w5C cs a 0 (g5_acts x) (g5_typ x) (g5_lat x) (g5_pos x) (g5_wra x) (g5_now x) (g5_put x) (g5_was x) (g5_txt x) (g5_lef x) (g5_abo x) (g5_ors x)) H := hP
      refine lv_aload_n hx hb dX5_run_31 rfl (lv_at hl 0 rfl) ?_
      refine va_get (D := (dC, dI)) (ci := 5) (v := .int (iI 0)) (C := RX5) (T := TX5) (N := 13) hx hb hts hin5 hown hK hP 0 rfl rfl 0 (by decide) (hts (.fieldLink RX5 1 "BoatRunsModel" "thrown" "I") (by decide +kernel)) (fun _ h9 => h9) rfl dX5_run_32 ?_
      refine xk_if_le (tgt := 42) hx hb (by decide) dX5_run_35 (by decide) (fun c7 => ?_) (fun c7 => ?_)
      · exact absurd c7 (by decide)
      · refine lv_aload_n hx hb dX5_run_42 rfl (lv_at hl 0 rfl) ?_
        refine lv_iload_n hx hb dX5_run_43 rfl (lv_at hl 1 rfl) ?_
        refine lv_iload_n hx hb dX5_run_44 rfl (lv_at hl 2 rfl) ?_
        obtain ⟨v8, ev8, hf⟩ := x_bind hf
        refine xc_ri (As := [.int (iI p0), .int (iI p1)]) (rest := []) ⟨hx, hb, hml, hown, hts⟩ (c5_runBy l dC dI cs a (s5_thr x 0) p0 p1  _ ev8) (cwV 2 hts gX5_run_X5_runBy rfl rfl rfl cdX5_runBy ⟨Nat.le_of_ble_eq_true rfl, Nat.le_of_ble_eq_true rfl⟩) hK hP [0, 1, 2, 3, 4, 5, 6, 7] rfl 0 rfl rfl rfl hl.1 rfl (Nat.le_of_ble_eq_true rfl) dX5_run_45 ⟨Nat.zero_le _, Nat.zero_le _⟩ ?_
        obtain rfl := Option.some.inj hf
        exact xe_wi hx hb hr hlocks hS hP dX5_run_48
theorem cdX5_run : yX5_run.cls = RX5 ∧ yX5_run.cls ≠ "java/lang/invoke/MethodHandle" ∧ yX5_run.cls ≠ "java/lang/invoke/VarHandle" ∧ (parseMethodDescriptor yX5_run.desc).map (fun d => d.parameters.length) = some 2 := by decide +kernel

set_option maxHeartbeats 4000000 in
set_option maxRecDepth 100000 in
theorem c5_inRun (l : Launch) (dC : Nat → ClassId) (dI : Nat → Nat → Nat) (cs : Nat → ClassId) (a : Nat → Nat) (sz : Nat) (x : ModS) (p0 : Int) (p1 : Int) (res : Int × ModS) (hf : f5_inRun x p0 p1 = some res) : Met l yX5_inRun wsX5_inRun ({ frames := 3, cells := 0, slots := 0, locals := 67 } : Room) (va_Pc [.ref (a 0), .int (iI p0), .int (iI p1)] (xPW (dC, dI) vwCl (w5 cs a x) (xT cs) sz)) (xQi (dC, dI) vwCl (w5 cs a x) (w5 cs a res.2) sz res.1) 0 0 (va_A (w5 cs a x) sz) := by
  refine Met.ofW (cc := cX5_inRun) (maxL := 4) (ret := (some .int)) (by decide) rfl ?_
  intro p e s m args below meth c s₁ B hml hv
  obtain ⟨rfl, hsz, hP, hK, hD0⟩ := hv
  have hx := B.exec
  have hb := B.bytes
  have hr := B.returns
  have hts := atoms_spec (ws := wsX5_inRun) B.pre
  have hown : s.vm.findClass RX5 = some m.cls := findClass_of_methodNamed B.named
  have hlocks := B.notSynchronized
  have hin5 : ∀ w ∈ wsX50, w ∈ wsX5_inRun := by decide +kernel
  subst hsz
  have hD := hD0.self (sz := s.heap.size)
  have hA : ∀ z9 : Nat, s.heap.size ≤ z9 → va_A (w5 cs a x) s.heap.size z9 := fun z9 h => Or.inr h
  have hS : va_S (va_A (w5 cs a x) s.heap.size) s.heap s.heap [] := va_S.rf
  have hl := lv_entry [.ref (a 0), .int (iI p0), .int (iI p1)] (n := 4) (Nat.le_of_ble_eq_true rfl)
  rw [lg_entry_eq]
  generalize (lg_sl [.ref (a 0), .int (iI p0), .int (iI p1)] ++ List.replicate (4 - (lg_sl [.ref (a 0), .int (iI p0), .int (iI p1)]).length) Slot.unset).toArray = ls at hl ⊢
  have hl : lv_has ls 4 [(0, .ref (a 0)), (1, .int (iI p0)), (2, .int (iI p1))] := hl
  unfold f5_inRun at hf
  refine lv_aload_n hx hb dX5_inRun_0 rfl (lv_at hl 0 rfl) ?_
  refine lv_aload_n hx hb dX5_inRun_1 rfl (lv_at hl 0 rfl) ?_
  refine lv_iload_n hx hb dX5_inRun_2 rfl (lv_at hl 1 rfl) ?_
  obtain ⟨v1, ev1, hf⟩ := x_bind hf
  refine xc_ri (As := [.int (iI p0)]) (rest := [.ref (a 0)]) ⟨hx, hb, hml, hown, hts⟩ (c5_placeOf l dC dI cs a x p0  _ ev1) (cwV 1 hts gX5_inRun_X5_placeOf rfl rfl rfl cdX5_placeOf ⟨Nat.le_of_ble_eq_true rfl, Nat.le_of_ble_eq_true rfl⟩) hK hP [0, 1, 2, 3, 4, 5, 6, 7] rfl 0 rfl rfl rfl hl.1 rfl (Nat.le_of_ble_eq_true rfl) dX5_inRun_3 ⟨Nat.zero_le _, Nat.zero_le _⟩ ?_
  refine xk_iconst hx hb dX5_inRun_6 ?_
  obtain ⟨c2a, c2b, c2t, c2f⟩ := x_eqE hf
  refine xk_icmp_ne (tgt := 14) hx hb c2a c2b dX5_inRun_7 (by decide) (fun c2 => ?_) (fun c2 => ?_)
  · have hf := c2t c2
    refine xk_iconst hx hb dX5_inRun_10 ?_
    refine lv_goto (tgt := 34) hx hb dX5_inRun_11 (by decide) ?_
    refine va_put (D := (dC, dI)) (ci := 5) (v := .int (iI 1)) (ty := .int) (C := RX5) (T := TX5) (N := 13) hx hb hts hin5 tyX5 tyX5_ok nmX5 hown hK hP (x_addr hD rfl) hS 0 rfl rfl 0 (by decide) (hts (.fieldLink RX5 1 "BoatRunsModel" "thrown" "I") (by decide +kernel)) (fun _ h9 => h9) rfl (by decide +kernel) rfl rfl (Nat.le_of_ble_eq_true rfl) dX5_inRun_34 (fun H locs hP _ hS => ?_)
    have hP : va_P (dC, dI) vwCl (w5C cs a 1 (g5_acts x) (g5_typ x) (g5_lat x) (g5_pos x) (g5_wra x) (g5_now x) (g5_put x) (g5_was x) (g5_txt x) (g5_lef x) (g5_abo x) (g5_ors x)) H := hP
    refine xk_iconst hx hb dX5_inRun_37 ?_
    refine lv_istore_n (lv' := [(3, .int (iI 0)), (0, .ref (a 0)), (1, .int (iI p0)), (2, .int (iI p1))]) hx hb dX5_inRun_38 rfl hl (by decide) rfl (fun ls hl => ?_)
    have hL39 : ∀ (k1 : Int) (k2 : Int) (n141 : Nat) (l3 : Int) (x140 : ModS), f5_inRun_L39 k1 k2 n141 l3 x140 = some res → ∀ (H : Heap) (locs : List Loc), va_P (dC, dI) vwCl (w5 cs a x140) H → va_S (va_A (w5 cs a x) s.heap.size) s.heap H locs → ∀ (ls : Array Slot), lv_has ls 4 [(0, .ref (a 0)), (1, .int (iI k1)), (2, .int (iI k2)), (3, .int (iI l3))] → W p l e (headSpec wsX5_inRun ({ frames := 3, cells := 0, slots := 0, locals := 67 } : Room)).room s m ([.ref (a 0), .int (iI p0), .int (iI p1)] : List Value).toArray below meth c H locs 0 0 (MQ below (xQi (dC, dI) vwCl (w5 cs a x) (w5 cs a res.2) s.heap.size res.1) ([.ref (a 0), .int (iI p0), .int (iI p1)] : List Value).toArray s 0 0 (va_A (w5 cs a x) s.heap.size)) (F0 m 39 ls []) := by
      intro k1 k2 n141
      induction n141 with
      | zero => intro l3 x140 hf; have hf : (none : Option (Int × ModS)) = some res := hf; cases hf
      | succ n141 ih39 =>
        intro l3 x140 hf H locs hP hS ls hl
        rw [f5_inRun_L39] at hf
        refine lv_iload_n hx hb dX5_inRun_39 rfl (lv_at hl 3 rfl) ?_
        refine lv_aload_n hx hb dX5_inRun_40 rfl (lv_at hl 0 rfl) ?_
        refine va_get (D := (dC, dI)) (ci := 5) (v := .ref (a 1)) (C := RX5) (T := TX5) (N := 13) hx hb hts hin5 hown hK hP 0 rfl rfl 1 (by decide) (hts (.fieldLink RX5 13 "BoatRunsModel" "now" "[I") (by decide +kernel)) (fun _ h9 => h9) rfl dX5_inRun_41 ?_
        refine xk_iconst hx hb dX5_inRun_44 ?_
        obtain ⟨v142, ev142, hf⟩ := x_bind hf
        refine xk_iald (f := g5_now x140) hx hb hK hP 1 0 ev142 (by decide) rfl rfl dX5_inRun_45 ?_
        obtain ⟨c143a, c143b, c143t, c143f⟩ := x_ltE hf
        refine xk_icmp_ge (tgt := 82) hx hb c143a c143b dX5_inRun_46 (by decide) (fun c143 => ?_) (fun c143 => ?_)
        · have hf := c143t c143
          refine lv_aload_n hx hb dX5_inRun_49 rfl (lv_at hl 0 rfl) ?_
          refine va_get (D := (dC, dI)) (ci := 5) (v := .int (iI (g5_thr x140))) (C := RX5) (T := TX5) (N := 13) hx hb hts hin5 hown hK hP 0 rfl rfl 0 (by decide) (hts (.fieldLink RX5 1 "BoatRunsModel" "thrown" "I") (by decide +kernel)) (fun _ h9 => h9) rfl dX5_inRun_50 ?_
          obtain ⟨c144a, c144b, c144t, c144f⟩ := x_eqE hf
          refine xk_if_ne (tgt := 82) hx hb c144a dX5_inRun_53 (by decide) (fun c144 => ?_) (fun c144 => ?_)
          · have hf := c144t c144
            refine lv_aload_n hx hb dX5_inRun_56 rfl (lv_at hl 0 rfl) ?_
            refine lv_iload_n hx hb dX5_inRun_57 rfl (lv_at hl 3 rfl) ?_
            refine lv_iload_n hx hb dX5_inRun_58 rfl (lv_at hl 1 rfl) ?_
            obtain ⟨v145, ev145, hf⟩ := x_bind hf
            refine xc_ri (As := [.int (iI l3), .int (iI k1)]) (rest := []) ⟨hx, hb, hml, hown, hts⟩ (c5_isOf l dC dI cs a x140 l3 k1  _ ev145) (cwV 2 hts gX5_inRun_X5_isOf rfl rfl rfl cdX5_isOf ⟨Nat.le_of_ble_eq_true rfl, Nat.le_of_ble_eq_true rfl⟩) hK hP [0, 1, 2, 3, 4, 5, 6, 7] rfl 0 rfl rfl rfl hl.1 rfl (Nat.le_of_ble_eq_true rfl) dX5_inRun_59 ⟨Nat.zero_le _, Nat.zero_le _⟩ ?_
            obtain ⟨c146a, c146b, c146t, c146f⟩ := x_eqE hf
            refine xk_if_eq (tgt := 76) hx hb c146a dX5_inRun_62 (by decide) (fun c146 => ?_) (fun c146 => ?_)
            · have hf := c146t c146
              refine xk_iinc (lv' := [(3, .int (iI (l3 + 1))), (0, .ref (a 0)), (1, .int (iI k1)), (2, .int (iI k2))]) hx hb dX5_inRun_76 hl (k := 3) rfl (by decide) rfl (fun ls hl => ?_)
              refine lv_goto (tgt := 39) hx hb dX5_inRun_79 (by decide) ?_
              exact ih39 (l3 + 1) x140 hf _ _ hP hS ls (lv_sub hl [1, 2, 3, 0] rfl)
            · have hf := c146f c146
              refine lv_aload_n hx hb dX5_inRun_65 rfl (lv_at hl 0 rfl) ?_
              refine lv_iload_n hx hb dX5_inRun_66 rfl (lv_at hl 3 rfl) ?_
              obtain ⟨v147, ev147, hf⟩ := x_bind hf
              refine xc_ri (As := [.int (iI l3)]) (rest := []) ⟨hx, hb, hml, hown, hts⟩ (c5_placeIn l dC dI cs a x140 l3  _ ev147) (cwV 1 hts gX5_inRun_X5_placeIn rfl rfl rfl cdX5_placeIn ⟨Nat.le_of_ble_eq_true rfl, Nat.le_of_ble_eq_true rfl⟩) hK hP [0, 1, 2, 3, 4, 5, 6, 7] rfl 0 rfl rfl rfl hl.1 rfl (Nat.le_of_ble_eq_true rfl) dX5_inRun_67 ⟨Nat.zero_le _, Nat.zero_le _⟩ ?_
              refine lv_iload_n hx hb dX5_inRun_70 rfl (lv_at hl 2 rfl) ?_
              obtain ⟨c148a, c148b, c148t, c148f⟩ := x_eqE hf
              refine xk_icmp_ne (tgt := 76) hx hb c148a c148b dX5_inRun_71 (by decide) (fun c148 => ?_) (fun c148 => ?_)
              · have hf := c148t c148
                refine lv_iload_n hx hb dX5_inRun_74 rfl (lv_at hl 3 rfl) ?_
                obtain rfl := Option.some.inj hf
                exact xe_wi hx hb hr hlocks hS hP dX5_inRun_75
              · have hf := c148f c148
                refine xk_iinc (lv' := [(3, .int (iI (l3 + 1))), (0, .ref (a 0)), (1, .int (iI k1)), (2, .int (iI k2))]) hx hb dX5_inRun_76 hl (k := 3) rfl (by decide) rfl (fun ls hl => ?_)
                refine lv_goto (tgt := 39) hx hb dX5_inRun_79 (by decide) ?_
                exact ih39 (l3 + 1) x140 hf _ _ hP hS ls (lv_sub hl [1, 2, 3, 0] rfl)
          · have hf := c144f c144
            refine xk_iconst hx hb dX5_inRun_82 ?_
            obtain rfl := Option.some.inj hf
            exact xe_wi hx hb hr hlocks hS hP dX5_inRun_83
        · have hf := c143f c143
          refine xk_iconst hx hb dX5_inRun_82 ?_
          obtain rfl := Option.some.inj hf
          exact xe_wi hx hb hr hlocks hS hP dX5_inRun_83
    exact hL39 p0 p1 xFU 0 (s5_thr x 1) hf _ _ hP hS ls (lv_sub hl [1, 2, 3, 0] rfl)
  · have hf := c2f c2
    refine lv_iload_n hx hb dX5_inRun_14 rfl (lv_at hl 2 rfl) ?_
    refine xk_iconst hx hb dX5_inRun_15 ?_
    refine lv_aload_n hx hb dX5_inRun_16 rfl (lv_at hl 0 rfl) ?_
    refine lv_iload_n hx hb dX5_inRun_17 rfl (lv_at hl 1 rfl) ?_
    obtain ⟨v3, ev3, hf⟩ := x_bind hf
    refine xc_ri (As := [.int (iI p0)]) (rest := [.int (iI 0), .int (iI p1), .ref (a 0)]) ⟨hx, hb, hml, hown, hts⟩ (c5_manyOf l dC dI cs a x p0  _ ev3) (cwV 1 hts gX5_inRun_X5_manyOf rfl rfl rfl cdX5_manyOf ⟨Nat.le_of_ble_eq_true rfl, Nat.le_of_ble_eq_true rfl⟩) hK hP [0, 1, 2, 3, 4, 5, 6, 7] rfl 0 rfl rfl rfl hl.1 rfl (Nat.le_of_ble_eq_true rfl) dX5_inRun_18 ⟨Nat.zero_le _, Nat.zero_le _⟩ ?_
    refine xk_iconst hx hb dX5_inRun_21 ?_
    refine xk_isub hx hb dX5_inRun_22 ?_
    obtain ⟨v4, ev4, hf⟩ := x_bind hf
    refine xc_si (As := [.int (iI p1), .int (iI 0), .int (iI (v3 - 1))]) (rest := [.ref (a 0)]) ⟨hx, hb, hml, hown, hts⟩ (c5_in l p1 0 (v3 - 1) _ ev4) (va_cwS 3 hts gX5_inRun_X5_in rfl rfl rfl cdX5_in ⟨Nat.le_of_ble_eq_true rfl, Nat.le_of_ble_eq_true rfl⟩) rfl hl.1 rfl (Nat.le_of_ble_eq_true rfl) dX5_inRun_23 ⟨Nat.zero_le _, Nat.zero_le _⟩ ?_
    obtain ⟨c5a, c5b, c5t, c5f⟩ := x_eqE hf
    refine xk_if_ne (tgt := 33) hx hb c5a dX5_inRun_26 (by decide) (fun c5 => ?_) (fun c5 => ?_)
    · have hf := c5t c5
      refine xk_iconst hx hb dX5_inRun_29 ?_
      refine lv_goto (tgt := 34) hx hb dX5_inRun_30 (by decide) ?_
      refine va_put (D := (dC, dI)) (ci := 5) (v := .int (iI 2)) (ty := .int) (C := RX5) (T := TX5) (N := 13) hx hb hts hin5 tyX5 tyX5_ok nmX5 hown hK hP (x_addr hD rfl) hS 0 rfl rfl 0 (by decide) (hts (.fieldLink RX5 1 "BoatRunsModel" "thrown" "I") (by decide +kernel)) (fun _ h9 => h9) rfl (by decide +kernel) rfl rfl (Nat.le_of_ble_eq_true rfl) dX5_inRun_34 (fun H locs hP _ hS => ?_)
      have hP : va_P (dC, dI) vwCl (w5C cs a 2 (g5_acts x) (g5_typ x) (g5_lat x) (g5_pos x) (g5_wra x) (g5_now x) (g5_put x) (g5_was x) (g5_txt x) (g5_lef x) (g5_abo x) (g5_ors x)) H := hP
      refine xk_iconst hx hb dX5_inRun_37 ?_
      refine lv_istore_n (lv' := [(3, .int (iI 0)), (0, .ref (a 0)), (1, .int (iI p0)), (2, .int (iI p1))]) hx hb dX5_inRun_38 rfl hl (by decide) rfl (fun ls hl => ?_)
      have hL39 : ∀ (k1 : Int) (k2 : Int) (n141 : Nat) (l3 : Int) (x140 : ModS), f5_inRun_L39 k1 k2 n141 l3 x140 = some res → ∀ (H : Heap) (locs : List Loc), va_P (dC, dI) vwCl (w5 cs a x140) H → va_S (va_A (w5 cs a x) s.heap.size) s.heap H locs → ∀ (ls : Array Slot), lv_has ls 4 [(0, .ref (a 0)), (1, .int (iI k1)), (2, .int (iI k2)), (3, .int (iI l3))] → W p l e (headSpec wsX5_inRun ({ frames := 3, cells := 0, slots := 0, locals := 67 } : Room)).room s m ([.ref (a 0), .int (iI p0), .int (iI p1)] : List Value).toArray below meth c H locs 0 0 (MQ below (xQi (dC, dI) vwCl (w5 cs a x) (w5 cs a res.2) s.heap.size res.1) ([.ref (a 0), .int (iI p0), .int (iI p1)] : List Value).toArray s 0 0 (va_A (w5 cs a x) s.heap.size)) (F0 m 39 ls []) := by
        intro k1 k2 n141
        induction n141 with
        | zero => intro l3 x140 hf; have hf : (none : Option (Int × ModS)) = some res := hf; cases hf
        | succ n141 ih39 =>
          intro l3 x140 hf H locs hP hS ls hl
          rw [f5_inRun_L39] at hf
          refine lv_iload_n hx hb dX5_inRun_39 rfl (lv_at hl 3 rfl) ?_
          refine lv_aload_n hx hb dX5_inRun_40 rfl (lv_at hl 0 rfl) ?_
          refine va_get (D := (dC, dI)) (ci := 5) (v := .ref (a 1)) (C := RX5) (T := TX5) (N := 13) hx hb hts hin5 hown hK hP 0 rfl rfl 1 (by decide) (hts (.fieldLink RX5 13 "BoatRunsModel" "now" "[I") (by decide +kernel)) (fun _ h9 => h9) rfl dX5_inRun_41 ?_
          refine xk_iconst hx hb dX5_inRun_44 ?_
          obtain ⟨v142, ev142, hf⟩ := x_bind hf
          refine xk_iald (f := g5_now x140) hx hb hK hP 1 0 ev142 (by decide) rfl rfl dX5_inRun_45 ?_
          obtain ⟨c143a, c143b, c143t, c143f⟩ := x_ltE hf
          refine xk_icmp_ge (tgt := 82) hx hb c143a c143b dX5_inRun_46 (by decide) (fun c143 => ?_) (fun c143 => ?_)
          · have hf := c143t c143
            refine lv_aload_n hx hb dX5_inRun_49 rfl (lv_at hl 0 rfl) ?_
            refine va_get (D := (dC, dI)) (ci := 5) (v := .int (iI (g5_thr x140))) (C := RX5) (T := TX5) (N := 13) hx hb hts hin5 hown hK hP 0 rfl rfl 0 (by decide) (hts (.fieldLink RX5 1 "BoatRunsModel" "thrown" "I") (by decide +kernel)) (fun _ h9 => h9) rfl dX5_inRun_50 ?_
            obtain ⟨c144a, c144b, c144t, c144f⟩ := x_eqE hf
            refine xk_if_ne (tgt := 82) hx hb c144a dX5_inRun_53 (by decide) (fun c144 => ?_) (fun c144 => ?_)
            · have hf := c144t c144
              refine lv_aload_n hx hb dX5_inRun_56 rfl (lv_at hl 0 rfl) ?_
              refine lv_iload_n hx hb dX5_inRun_57 rfl (lv_at hl 3 rfl) ?_
              refine lv_iload_n hx hb dX5_inRun_58 rfl (lv_at hl 1 rfl) ?_
              obtain ⟨v145, ev145, hf⟩ := x_bind hf
              refine xc_ri (As := [.int (iI l3), .int (iI k1)]) (rest := []) ⟨hx, hb, hml, hown, hts⟩ (c5_isOf l dC dI cs a x140 l3 k1  _ ev145) (cwV 2 hts gX5_inRun_X5_isOf rfl rfl rfl cdX5_isOf ⟨Nat.le_of_ble_eq_true rfl, Nat.le_of_ble_eq_true rfl⟩) hK hP [0, 1, 2, 3, 4, 5, 6, 7] rfl 0 rfl rfl rfl hl.1 rfl (Nat.le_of_ble_eq_true rfl) dX5_inRun_59 ⟨Nat.zero_le _, Nat.zero_le _⟩ ?_
              obtain ⟨c146a, c146b, c146t, c146f⟩ := x_eqE hf
              refine xk_if_eq (tgt := 76) hx hb c146a dX5_inRun_62 (by decide) (fun c146 => ?_) (fun c146 => ?_)
              · have hf := c146t c146
                refine xk_iinc (lv' := [(3, .int (iI (l3 + 1))), (0, .ref (a 0)), (1, .int (iI k1)), (2, .int (iI k2))]) hx hb dX5_inRun_76 hl (k := 3) rfl (by decide) rfl (fun ls hl => ?_)
                refine lv_goto (tgt := 39) hx hb dX5_inRun_79 (by decide) ?_
                exact ih39 (l3 + 1) x140 hf _ _ hP hS ls (lv_sub hl [1, 2, 3, 0] rfl)
              · have hf := c146f c146
                refine lv_aload_n hx hb dX5_inRun_65 rfl (lv_at hl 0 rfl) ?_
                refine lv_iload_n hx hb dX5_inRun_66 rfl (lv_at hl 3 rfl) ?_
                obtain ⟨v147, ev147, hf⟩ := x_bind hf
                refine xc_ri (As := [.int (iI l3)]) (rest := []) ⟨hx, hb, hml, hown, hts⟩ (c5_placeIn l dC dI cs a x140 l3  _ ev147) (cwV 1 hts gX5_inRun_X5_placeIn rfl rfl rfl cdX5_placeIn ⟨Nat.le_of_ble_eq_true rfl, Nat.le_of_ble_eq_true rfl⟩) hK hP [0, 1, 2, 3, 4, 5, 6, 7] rfl 0 rfl rfl rfl hl.1 rfl (Nat.le_of_ble_eq_true rfl) dX5_inRun_67 ⟨Nat.zero_le _, Nat.zero_le _⟩ ?_
                refine lv_iload_n hx hb dX5_inRun_70 rfl (lv_at hl 2 rfl) ?_
                obtain ⟨c148a, c148b, c148t, c148f⟩ := x_eqE hf
                refine xk_icmp_ne (tgt := 76) hx hb c148a c148b dX5_inRun_71 (by decide) (fun c148 => ?_) (fun c148 => ?_)
                · have hf := c148t c148
                  refine lv_iload_n hx hb dX5_inRun_74 rfl (lv_at hl 3 rfl) ?_
                  obtain rfl := Option.some.inj hf
                  exact xe_wi hx hb hr hlocks hS hP dX5_inRun_75
                · have hf := c148f c148
                  refine xk_iinc (lv' := [(3, .int (iI (l3 + 1))), (0, .ref (a 0)), (1, .int (iI k1)), (2, .int (iI k2))]) hx hb dX5_inRun_76 hl (k := 3) rfl (by decide) rfl (fun ls hl => ?_)
                  refine lv_goto (tgt := 39) hx hb dX5_inRun_79 (by decide) ?_
                  exact ih39 (l3 + 1) x140 hf _ _ hP hS ls (lv_sub hl [1, 2, 3, 0] rfl)
            · have hf := c144f c144
              refine xk_iconst hx hb dX5_inRun_82 ?_
              obtain rfl := Option.some.inj hf
              exact xe_wi hx hb hr hlocks hS hP dX5_inRun_83
          · have hf := c143f c143
            refine xk_iconst hx hb dX5_inRun_82 ?_
            obtain rfl := Option.some.inj hf
            exact xe_wi hx hb hr hlocks hS hP dX5_inRun_83
      exact hL39 p0 p1 xFU 0 (s5_thr x 2) hf _ _ hP hS ls (lv_sub hl [1, 2, 3, 0] rfl)
    · have hf := c5f c5
      refine xk_iconst hx hb dX5_inRun_33 ?_
      refine va_put (D := (dC, dI)) (ci := 5) (v := .int (iI 0)) (ty := .int) (C := RX5) (T := TX5) (N := 13) hx hb hts hin5 tyX5 tyX5_ok nmX5 hown hK hP (x_addr hD rfl) hS 0 rfl rfl 0 (by decide) (hts (.fieldLink RX5 1 "BoatRunsModel" "thrown" "I") (by decide +kernel)) (fun _ h9 => h9) rfl (by decide +kernel) rfl rfl (Nat.le_of_ble_eq_true rfl) dX5_inRun_34 (fun H locs hP _ hS => ?_)
      have hP : va_P (dC, dI) vwCl (w5C cs a 0 (g5_acts x) (g5_typ x) (g5_lat x) (g5_pos x) (g5_wra x) (g5_now x) (g5_put x) (g5_was x) (g5_txt x) (g5_lef x) (g5_abo x) (g5_ors x)) H := hP
      refine xk_iconst hx hb dX5_inRun_37 ?_
      refine lv_istore_n (lv' := [(3, .int (iI 0)), (0, .ref (a 0)), (1, .int (iI p0)), (2, .int (iI p1))]) hx hb dX5_inRun_38 rfl hl (by decide) rfl (fun ls hl => ?_)
      have hL39 : ∀ (k1 : Int) (k2 : Int) (n141 : Nat) (l3 : Int) (x140 : ModS), f5_inRun_L39 k1 k2 n141 l3 x140 = some res → ∀ (H : Heap) (locs : List Loc), va_P (dC, dI) vwCl (w5 cs a x140) H → va_S (va_A (w5 cs a x) s.heap.size) s.heap H locs → ∀ (ls : Array Slot), lv_has ls 4 [(0, .ref (a 0)), (1, .int (iI k1)), (2, .int (iI k2)), (3, .int (iI l3))] → W p l e (headSpec wsX5_inRun ({ frames := 3, cells := 0, slots := 0, locals := 67 } : Room)).room s m ([.ref (a 0), .int (iI p0), .int (iI p1)] : List Value).toArray below meth c H locs 0 0 (MQ below (xQi (dC, dI) vwCl (w5 cs a x) (w5 cs a res.2) s.heap.size res.1) ([.ref (a 0), .int (iI p0), .int (iI p1)] : List Value).toArray s 0 0 (va_A (w5 cs a x) s.heap.size)) (F0 m 39 ls []) := by
        intro k1 k2 n141
        induction n141 with
        | zero => intro l3 x140 hf; have hf : (none : Option (Int × ModS)) = some res := hf; cases hf
        | succ n141 ih39 =>
          intro l3 x140 hf H locs hP hS ls hl
          rw [f5_inRun_L39] at hf
          refine lv_iload_n hx hb dX5_inRun_39 rfl (lv_at hl 3 rfl) ?_
          refine lv_aload_n hx hb dX5_inRun_40 rfl (lv_at hl 0 rfl) ?_
          refine va_get (D := (dC, dI)) (ci := 5) (v := .ref (a 1)) (C := RX5) (T := TX5) (N := 13) hx hb hts hin5 hown hK hP 0 rfl rfl 1 (by decide) (hts (.fieldLink RX5 13 "BoatRunsModel" "now" "[I") (by decide +kernel)) (fun _ h9 => h9) rfl dX5_inRun_41 ?_
          refine xk_iconst hx hb dX5_inRun_44 ?_
          obtain ⟨v142, ev142, hf⟩ := x_bind hf
          refine xk_iald (f := g5_now x140) hx hb hK hP 1 0 ev142 (by decide) rfl rfl dX5_inRun_45 ?_
          obtain ⟨c143a, c143b, c143t, c143f⟩ := x_ltE hf
          refine xk_icmp_ge (tgt := 82) hx hb c143a c143b dX5_inRun_46 (by decide) (fun c143 => ?_) (fun c143 => ?_)
          · have hf := c143t c143
            refine lv_aload_n hx hb dX5_inRun_49 rfl (lv_at hl 0 rfl) ?_
            refine va_get (D := (dC, dI)) (ci := 5) (v := .int (iI (g5_thr x140))) (C := RX5) (T := TX5) (N := 13) hx hb hts hin5 hown hK hP 0 rfl rfl 0 (by decide) (hts (.fieldLink RX5 1 "BoatRunsModel" "thrown" "I") (by decide +kernel)) (fun _ h9 => h9) rfl dX5_inRun_50 ?_
            obtain ⟨c144a, c144b, c144t, c144f⟩ := x_eqE hf
            refine xk_if_ne (tgt := 82) hx hb c144a dX5_inRun_53 (by decide) (fun c144 => ?_) (fun c144 => ?_)
            · have hf := c144t c144
              refine lv_aload_n hx hb dX5_inRun_56 rfl (lv_at hl 0 rfl) ?_
              refine lv_iload_n hx hb dX5_inRun_57 rfl (lv_at hl 3 rfl) ?_
              refine lv_iload_n hx hb dX5_inRun_58 rfl (lv_at hl 1 rfl) ?_
              obtain ⟨v145, ev145, hf⟩ := x_bind hf
              refine xc_ri (As := [.int (iI l3), .int (iI k1)]) (rest := []) ⟨hx, hb, hml, hown, hts⟩ (c5_isOf l dC dI cs a x140 l3 k1  _ ev145) (cwV 2 hts gX5_inRun_X5_isOf rfl rfl rfl cdX5_isOf ⟨Nat.le_of_ble_eq_true rfl, Nat.le_of_ble_eq_true rfl⟩) hK hP [0, 1, 2, 3, 4, 5, 6, 7] rfl 0 rfl rfl rfl hl.1 rfl (Nat.le_of_ble_eq_true rfl) dX5_inRun_59 ⟨Nat.zero_le _, Nat.zero_le _⟩ ?_
              obtain ⟨c146a, c146b, c146t, c146f⟩ := x_eqE hf
              refine xk_if_eq (tgt := 76) hx hb c146a dX5_inRun_62 (by decide) (fun c146 => ?_) (fun c146 => ?_)
              · have hf := c146t c146
                refine xk_iinc (lv' := [(3, .int (iI (l3 + 1))), (0, .ref (a 0)), (1, .int (iI k1)), (2, .int (iI k2))]) hx hb dX5_inRun_76 hl (k := 3) rfl (by decide) rfl (fun ls hl => ?_)
                refine lv_goto (tgt := 39) hx hb dX5_inRun_79 (by decide) ?_
                exact ih39 (l3 + 1) x140 hf _ _ hP hS ls (lv_sub hl [1, 2, 3, 0] rfl)
              · have hf := c146f c146
                refine lv_aload_n hx hb dX5_inRun_65 rfl (lv_at hl 0 rfl) ?_
                refine lv_iload_n hx hb dX5_inRun_66 rfl (lv_at hl 3 rfl) ?_
                obtain ⟨v147, ev147, hf⟩ := x_bind hf
                refine xc_ri (As := [.int (iI l3)]) (rest := []) ⟨hx, hb, hml, hown, hts⟩ (c5_placeIn l dC dI cs a x140 l3  _ ev147) (cwV 1 hts gX5_inRun_X5_placeIn rfl rfl rfl cdX5_placeIn ⟨Nat.le_of_ble_eq_true rfl, Nat.le_of_ble_eq_true rfl⟩) hK hP [0, 1, 2, 3, 4, 5, 6, 7] rfl 0 rfl rfl rfl hl.1 rfl (Nat.le_of_ble_eq_true rfl) dX5_inRun_67 ⟨Nat.zero_le _, Nat.zero_le _⟩ ?_
                refine lv_iload_n hx hb dX5_inRun_70 rfl (lv_at hl 2 rfl) ?_
                obtain ⟨c148a, c148b, c148t, c148f⟩ := x_eqE hf
                refine xk_icmp_ne (tgt := 76) hx hb c148a c148b dX5_inRun_71 (by decide) (fun c148 => ?_) (fun c148 => ?_)
                · have hf := c148t c148
                  refine lv_iload_n hx hb dX5_inRun_74 rfl (lv_at hl 3 rfl) ?_
                  obtain rfl := Option.some.inj hf
                  exact xe_wi hx hb hr hlocks hS hP dX5_inRun_75
                · have hf := c148f c148
                  refine xk_iinc (lv' := [(3, .int (iI (l3 + 1))), (0, .ref (a 0)), (1, .int (iI k1)), (2, .int (iI k2))]) hx hb dX5_inRun_76 hl (k := 3) rfl (by decide) rfl (fun ls hl => ?_)
                  refine lv_goto (tgt := 39) hx hb dX5_inRun_79 (by decide) ?_
                  exact ih39 (l3 + 1) x140 hf _ _ hP hS ls (lv_sub hl [1, 2, 3, 0] rfl)
            · have hf := c144f c144
              refine xk_iconst hx hb dX5_inRun_82 ?_
              obtain rfl := Option.some.inj hf
              exact xe_wi hx hb hr hlocks hS hP dX5_inRun_83
          · have hf := c143f c143
            refine xk_iconst hx hb dX5_inRun_82 ?_
            obtain rfl := Option.some.inj hf
            exact xe_wi hx hb hr hlocks hS hP dX5_inRun_83
      exact hL39 p0 p1 xFU 0 (s5_thr x 0) hf _ _ hP hS ls (lv_sub hl [1, 2, 3, 0] rfl)
theorem cdX5_inRun : yX5_inRun.cls = RX5 ∧ yX5_inRun.cls ≠ "java/lang/invoke/MethodHandle" ∧ yX5_inRun.cls ≠ "java/lang/invoke/VarHandle" ∧ (parseMethodDescriptor yX5_inRun.desc).map (fun d => d.parameters.length) = some 2 := by decide +kernel

set_option maxHeartbeats 4000000 in
set_option maxRecDepth 100000 in
theorem c5_ashore (l : Launch) (dC : Nat → ClassId) (dI : Nat → Nat → Nat) (cs : Nat → ClassId) (a : Nat → Nat) (sz : Nat) (x : ModS) (p0 : Int) (res : Int × ModS) (hf : f5_ashore x p0 = some res) : Met l yX5_ashore wsX5_ashore ({ frames := 3, cells := 0, slots := 0, locals := 67 } : Room) (va_Pc [.ref (a 0), .int (iI p0)] (xPW (dC, dI) vwCl (w5 cs a x) (xT cs) sz)) (xQi (dC, dI) vwCl (w5 cs a x) (w5 cs a res.2) sz res.1) 0 0 (va_A (w5 cs a x) sz) := by
  refine Met.ofW (cc := cX5_ashore) (maxL := 3) (ret := (some .int)) (by decide) rfl ?_
  intro p e s m args below meth c s₁ B hml hv
  obtain ⟨rfl, hsz, hP, hK, hD0⟩ := hv
  have hx := B.exec
  have hb := B.bytes
  have hr := B.returns
  have hts := atoms_spec (ws := wsX5_ashore) B.pre
  have hown : s.vm.findClass RX5 = some m.cls := findClass_of_methodNamed B.named
  have hlocks := B.notSynchronized
  have hin5 : ∀ w ∈ wsX50, w ∈ wsX5_ashore := by decide +kernel
  subst hsz
  have hD := hD0.self (sz := s.heap.size)
  have hA : ∀ z9 : Nat, s.heap.size ≤ z9 → va_A (w5 cs a x) s.heap.size z9 := fun z9 h => Or.inr h
  have hS : va_S (va_A (w5 cs a x) s.heap.size) s.heap s.heap [] := va_S.rf
  have hl := lv_entry [.ref (a 0), .int (iI p0)] (n := 3) (Nat.le_of_ble_eq_true rfl)
  rw [lg_entry_eq]
  generalize (lg_sl [.ref (a 0), .int (iI p0)] ++ List.replicate (3 - (lg_sl [.ref (a 0), .int (iI p0)]).length) Slot.unset).toArray = ls at hl ⊢
  have hl : lv_has ls 3 [(0, .ref (a 0)), (1, .int (iI p0))] := hl
  unfold f5_ashore at hf
  refine lv_aload_n hx hb dX5_ashore_0 rfl (lv_at hl 0 rfl) ?_
  refine lv_iload_n hx hb dX5_ashore_1 rfl (lv_at hl 1 rfl) ?_
  refine xk_iconst hx hb dX5_ashore_2 ?_
  refine lv_aload_n hx hb dX5_ashore_3 rfl (lv_at hl 0 rfl) ?_
  refine xk_iconst hx hb dX5_ashore_4 ?_
  obtain ⟨v1, ev1, hf⟩ := x_bind hf
  refine xc_ri (As := [.int (iI 2)]) (rest := [.int (iI 0), .int (iI p0), .ref (a 0)]) ⟨hx, hb, hml, hown, hts⟩ (c5_many l dC dI cs a x 2  _ ev1) (cwV 1 hts gX5_ashore_X5_many rfl rfl rfl cdX5_many ⟨Nat.le_of_ble_eq_true rfl, Nat.le_of_ble_eq_true rfl⟩) hK hP [0, 1, 2, 3, 4, 5, 6, 7] rfl 0 rfl rfl rfl hl.1 rfl (Nat.le_of_ble_eq_true rfl) dX5_ashore_5 ⟨Nat.zero_le _, Nat.zero_le _⟩ ?_
  refine xk_iconst hx hb dX5_ashore_8 ?_
  refine xk_isub hx hb dX5_ashore_9 ?_
  obtain ⟨v2, ev2, hf⟩ := x_bind hf
  refine xc_si (As := [.int (iI p0), .int (iI 0), .int (iI (v1 - 1))]) (rest := [.ref (a 0)]) ⟨hx, hb, hml, hown, hts⟩ (c5_in l p0 0 (v1 - 1) _ ev2) (va_cwS 3 hts gX5_ashore_X5_in rfl rfl rfl cdX5_in ⟨Nat.le_of_ble_eq_true rfl, Nat.le_of_ble_eq_true rfl⟩) rfl hl.1 rfl (Nat.le_of_ble_eq_true rfl) dX5_ashore_10 ⟨Nat.zero_le _, Nat.zero_le _⟩ ?_
  obtain ⟨c3a, c3b, c3t, c3f⟩ := x_eqE hf
  refine xk_if_eq (tgt := 20) hx hb c3a dX5_ashore_13 (by decide) (fun c3 => ?_) (fun c3 => ?_)
  · have hf := c3t c3
    refine xk_iconst hx hb dX5_ashore_20 ?_
    refine va_put (D := (dC, dI)) (ci := 5) (v := .int (iI 1)) (ty := .int) (C := RX5) (T := TX5) (N := 13) hx hb hts hin5 tyX5 tyX5_ok nmX5 hown hK hP (x_addr hD rfl) hS 0 rfl rfl 0 (by decide) (hts (.fieldLink RX5 1 "BoatRunsModel" "thrown" "I") (by decide +kernel)) (fun _ h9 => h9) rfl (by decide +kernel) rfl rfl (Nat.le_of_ble_eq_true rfl) dX5_ashore_21 (fun H locs hP _ hS => ?_)
    have hP : va_P (dC, dI) vwCl (w5C cs a 1 (g5_acts x) (g5_typ x) (g5_lat x) (g5_pos x) (g5_wra x) (g5_now x) (g5_put x) (g5_was x) (g5_txt x) (g5_lef x) (g5_abo x) (g5_ors x)) H := hP
    refine xk_iconst hx hb dX5_ashore_24 ?_
    refine lv_istore_n (lv' := [(2, .int (iI 0)), (0, .ref (a 0)), (1, .int (iI p0))]) hx hb dX5_ashore_25 rfl hl (by decide) rfl (fun ls hl => ?_)
    have hL26 : ∀ (k1 : Int) (n128 : Nat) (l2 : Int) (x127 : ModS), f5_ashore_L26 k1 n128 l2 x127 = some res → ∀ (H : Heap) (locs : List Loc), va_P (dC, dI) vwCl (w5 cs a x127) H → va_S (va_A (w5 cs a x) s.heap.size) s.heap H locs → ∀ (ls : Array Slot), lv_has ls 3 [(0, .ref (a 0)), (1, .int (iI k1)), (2, .int (iI l2))] → W p l e (headSpec wsX5_ashore ({ frames := 3, cells := 0, slots := 0, locals := 67 } : Room)).room s m ([.ref (a 0), .int (iI p0)] : List Value).toArray below meth c H locs 0 0 (MQ below (xQi (dC, dI) vwCl (w5 cs a x) (w5 cs a res.2) s.heap.size res.1) ([.ref (a 0), .int (iI p0)] : List Value).toArray s 0 0 (va_A (w5 cs a x) s.heap.size)) (F0 m 26 ls []) := by
      intro k1 n128
      induction n128 with
      | zero => intro l2 x127 hf; have hf : (none : Option (Int × ModS)) = some res := hf; cases hf
      | succ n128 ih26 =>
        intro l2 x127 hf H locs hP hS ls hl
        rw [f5_ashore_L26] at hf
        refine lv_iload_n hx hb dX5_ashore_26 rfl (lv_at hl 2 rfl) ?_
        refine lv_aload_n hx hb dX5_ashore_27 rfl (lv_at hl 0 rfl) ?_
        refine va_get (D := (dC, dI)) (ci := 5) (v := .ref (a 1)) (C := RX5) (T := TX5) (N := 13) hx hb hts hin5 hown hK hP 0 rfl rfl 1 (by decide) (hts (.fieldLink RX5 13 "BoatRunsModel" "now" "[I") (by decide +kernel)) (fun _ h9 => h9) rfl dX5_ashore_28 ?_
        refine xk_iconst hx hb dX5_ashore_31 ?_
        obtain ⟨v129, ev129, hf⟩ := x_bind hf
        refine xk_iald (f := g5_now x127) hx hb hK hP 1 0 ev129 (by decide) rfl rfl dX5_ashore_32 ?_
        obtain ⟨c130a, c130b, c130t, c130f⟩ := x_ltE hf
        refine xk_icmp_ge (tgt := 70) hx hb c130a c130b dX5_ashore_33 (by decide) (fun c130 => ?_) (fun c130 => ?_)
        · have hf := c130t c130
          refine lv_aload_n hx hb dX5_ashore_36 rfl (lv_at hl 0 rfl) ?_
          refine va_get (D := (dC, dI)) (ci := 5) (v := .int (iI (g5_thr x127))) (C := RX5) (T := TX5) (N := 13) hx hb hts hin5 hown hK hP 0 rfl rfl 0 (by decide) (hts (.fieldLink RX5 1 "BoatRunsModel" "thrown" "I") (by decide +kernel)) (fun _ h9 => h9) rfl dX5_ashore_37 ?_
          obtain ⟨c131a, c131b, c131t, c131f⟩ := x_eqE hf
          refine xk_if_ne (tgt := 70) hx hb c131a dX5_ashore_40 (by decide) (fun c131 => ?_) (fun c131 => ?_)
          · have hf := c131t c131
            refine lv_aload_n hx hb dX5_ashore_43 rfl (lv_at hl 0 rfl) ?_
            refine lv_iload_n hx hb dX5_ashore_44 rfl (lv_at hl 2 rfl) ?_
            refine xk_iconst hx hb dX5_ashore_45 ?_
            obtain ⟨v132, ev132, hf⟩ := x_bind hf
            refine xc_ri (As := [.int (iI l2), .int (iI 2)]) (rest := []) ⟨hx, hb, hml, hown, hts⟩ (c5_of l dC dI cs a x127 l2 2  _ ev132) (cwV 2 hts gX5_ashore_X5_of rfl rfl rfl cdX5_of ⟨Nat.le_of_ble_eq_true rfl, Nat.le_of_ble_eq_true rfl⟩) hK hP [0, 1, 2, 3, 4, 5, 6, 7] rfl 0 rfl rfl rfl hl.1 rfl (Nat.le_of_ble_eq_true rfl) dX5_ashore_46 ⟨Nat.zero_le _, Nat.zero_le _⟩ ?_
            refine xk_iconst hx hb dX5_ashore_49 ?_
            obtain ⟨c133a, c133b, c133t, c133f⟩ := x_eqE hf
            refine xk_icmp_ne (tgt := 64) hx hb c133a c133b dX5_ashore_50 (by decide) (fun c133 => ?_) (fun c133 => ?_)
            · have hf := c133t c133
              refine lv_aload_n hx hb dX5_ashore_53 rfl (lv_at hl 0 rfl) ?_
              refine lv_iload_n hx hb dX5_ashore_54 rfl (lv_at hl 2 rfl) ?_
              obtain ⟨v134, ev134, hf⟩ := x_bind hf
              refine xc_ri (As := [.int (iI l2)]) (rest := []) ⟨hx, hb, hml, hown, hts⟩ (c5_placeIn l dC dI cs a x127 l2  _ ev134) (cwV 1 hts gX5_ashore_X5_placeIn rfl rfl rfl cdX5_placeIn ⟨Nat.le_of_ble_eq_true rfl, Nat.le_of_ble_eq_true rfl⟩) hK hP [0, 1, 2, 3, 4, 5, 6, 7] rfl 0 rfl rfl rfl hl.1 rfl (Nat.le_of_ble_eq_true rfl) dX5_ashore_55 ⟨Nat.zero_le _, Nat.zero_le _⟩ ?_
              refine lv_iload_n hx hb dX5_ashore_58 rfl (lv_at hl 1 rfl) ?_
              obtain ⟨c135a, c135b, c135t, c135f⟩ := x_eqE hf
              refine xk_icmp_ne (tgt := 64) hx hb c135a c135b dX5_ashore_59 (by decide) (fun c135 => ?_) (fun c135 => ?_)
              · have hf := c135t c135
                refine lv_iload_n hx hb dX5_ashore_62 rfl (lv_at hl 2 rfl) ?_
                obtain rfl := Option.some.inj hf
                exact xe_wi hx hb hr hlocks hS hP dX5_ashore_63
              · have hf := c135f c135
                refine xk_iinc (lv' := [(2, .int (iI (l2 + 1))), (0, .ref (a 0)), (1, .int (iI k1))]) hx hb dX5_ashore_64 hl (k := 2) rfl (by decide) rfl (fun ls hl => ?_)
                refine lv_goto (tgt := 26) hx hb dX5_ashore_67 (by decide) ?_
                exact ih26 (l2 + 1) x127 hf _ _ hP hS ls (lv_sub hl [1, 2, 0] rfl)
            · have hf := c133f c133
              refine xk_iinc (lv' := [(2, .int (iI (l2 + 1))), (0, .ref (a 0)), (1, .int (iI k1))]) hx hb dX5_ashore_64 hl (k := 2) rfl (by decide) rfl (fun ls hl => ?_)
              refine lv_goto (tgt := 26) hx hb dX5_ashore_67 (by decide) ?_
              exact ih26 (l2 + 1) x127 hf _ _ hP hS ls (lv_sub hl [1, 2, 0] rfl)
          · have hf := c131f c131
            refine xk_iconst hx hb dX5_ashore_70 ?_
            obtain rfl := Option.some.inj hf
            exact xe_wi hx hb hr hlocks hS hP dX5_ashore_71
        · have hf := c130f c130
          refine xk_iconst hx hb dX5_ashore_70 ?_
          obtain rfl := Option.some.inj hf
          exact xe_wi hx hb hr hlocks hS hP dX5_ashore_71
    exact hL26 p0 xFU 0 (s5_thr x 1) hf _ _ hP hS ls (lv_sub hl [1, 2, 0] rfl)
  · have hf := c3f c3
    refine xk_iconst hx hb dX5_ashore_16 ?_
    refine lv_goto (tgt := 21) hx hb dX5_ashore_17 (by decide) ?_
    refine va_put (D := (dC, dI)) (ci := 5) (v := .int (iI 0)) (ty := .int) (C := RX5) (T := TX5) (N := 13) hx hb hts hin5 tyX5 tyX5_ok nmX5 hown hK hP (x_addr hD rfl) hS 0 rfl rfl 0 (by decide) (hts (.fieldLink RX5 1 "BoatRunsModel" "thrown" "I") (by decide +kernel)) (fun _ h9 => h9) rfl (by decide +kernel) rfl rfl (Nat.le_of_ble_eq_true rfl) dX5_ashore_21 (fun H locs hP _ hS => ?_)
    have hP : va_P (dC, dI) vwCl (w5C cs a 0 (g5_acts x) (g5_typ x) (g5_lat x) (g5_pos x) (g5_wra x) (g5_now x) (g5_put x) (g5_was x) (g5_txt x) (g5_lef x) (g5_abo x) (g5_ors x)) H := hP
    refine xk_iconst hx hb dX5_ashore_24 ?_
    refine lv_istore_n (lv' := [(2, .int (iI 0)), (0, .ref (a 0)), (1, .int (iI p0))]) hx hb dX5_ashore_25 rfl hl (by decide) rfl (fun ls hl => ?_)
    have hL26 : ∀ (k1 : Int) (n128 : Nat) (l2 : Int) (x127 : ModS), f5_ashore_L26 k1 n128 l2 x127 = some res → ∀ (H : Heap) (locs : List Loc), va_P (dC, dI) vwCl (w5 cs a x127) H → va_S (va_A (w5 cs a x) s.heap.size) s.heap H locs → ∀ (ls : Array Slot), lv_has ls 3 [(0, .ref (a 0)), (1, .int (iI k1)), (2, .int (iI l2))] → W p l e (headSpec wsX5_ashore ({ frames := 3, cells := 0, slots := 0, locals := 67 } : Room)).room s m ([.ref (a 0), .int (iI p0)] : List Value).toArray below meth c H locs 0 0 (MQ below (xQi (dC, dI) vwCl (w5 cs a x) (w5 cs a res.2) s.heap.size res.1) ([.ref (a 0), .int (iI p0)] : List Value).toArray s 0 0 (va_A (w5 cs a x) s.heap.size)) (F0 m 26 ls []) := by
      intro k1 n128
      induction n128 with
      | zero => intro l2 x127 hf; have hf : (none : Option (Int × ModS)) = some res := hf; cases hf
      | succ n128 ih26 =>
        intro l2 x127 hf H locs hP hS ls hl
        rw [f5_ashore_L26] at hf
        refine lv_iload_n hx hb dX5_ashore_26 rfl (lv_at hl 2 rfl) ?_
        refine lv_aload_n hx hb dX5_ashore_27 rfl (lv_at hl 0 rfl) ?_
        refine va_get (D := (dC, dI)) (ci := 5) (v := .ref (a 1)) (C := RX5) (T := TX5) (N := 13) hx hb hts hin5 hown hK hP 0 rfl rfl 1 (by decide) (hts (.fieldLink RX5 13 "BoatRunsModel" "now" "[I") (by decide +kernel)) (fun _ h9 => h9) rfl dX5_ashore_28 ?_
        refine xk_iconst hx hb dX5_ashore_31 ?_
        obtain ⟨v129, ev129, hf⟩ := x_bind hf
        refine xk_iald (f := g5_now x127) hx hb hK hP 1 0 ev129 (by decide) rfl rfl dX5_ashore_32 ?_
        obtain ⟨c130a, c130b, c130t, c130f⟩ := x_ltE hf
        refine xk_icmp_ge (tgt := 70) hx hb c130a c130b dX5_ashore_33 (by decide) (fun c130 => ?_) (fun c130 => ?_)
        · have hf := c130t c130
          refine lv_aload_n hx hb dX5_ashore_36 rfl (lv_at hl 0 rfl) ?_
          refine va_get (D := (dC, dI)) (ci := 5) (v := .int (iI (g5_thr x127))) (C := RX5) (T := TX5) (N := 13) hx hb hts hin5 hown hK hP 0 rfl rfl 0 (by decide) (hts (.fieldLink RX5 1 "BoatRunsModel" "thrown" "I") (by decide +kernel)) (fun _ h9 => h9) rfl dX5_ashore_37 ?_
          obtain ⟨c131a, c131b, c131t, c131f⟩ := x_eqE hf
          refine xk_if_ne (tgt := 70) hx hb c131a dX5_ashore_40 (by decide) (fun c131 => ?_) (fun c131 => ?_)
          · have hf := c131t c131
            refine lv_aload_n hx hb dX5_ashore_43 rfl (lv_at hl 0 rfl) ?_
            refine lv_iload_n hx hb dX5_ashore_44 rfl (lv_at hl 2 rfl) ?_
            refine xk_iconst hx hb dX5_ashore_45 ?_
            obtain ⟨v132, ev132, hf⟩ := x_bind hf
            refine xc_ri (As := [.int (iI l2), .int (iI 2)]) (rest := []) ⟨hx, hb, hml, hown, hts⟩ (c5_of l dC dI cs a x127 l2 2  _ ev132) (cwV 2 hts gX5_ashore_X5_of rfl rfl rfl cdX5_of ⟨Nat.le_of_ble_eq_true rfl, Nat.le_of_ble_eq_true rfl⟩) hK hP [0, 1, 2, 3, 4, 5, 6, 7] rfl 0 rfl rfl rfl hl.1 rfl (Nat.le_of_ble_eq_true rfl) dX5_ashore_46 ⟨Nat.zero_le _, Nat.zero_le _⟩ ?_
            refine xk_iconst hx hb dX5_ashore_49 ?_
            obtain ⟨c133a, c133b, c133t, c133f⟩ := x_eqE hf
            refine xk_icmp_ne (tgt := 64) hx hb c133a c133b dX5_ashore_50 (by decide) (fun c133 => ?_) (fun c133 => ?_)
            · have hf := c133t c133
              refine lv_aload_n hx hb dX5_ashore_53 rfl (lv_at hl 0 rfl) ?_
              refine lv_iload_n hx hb dX5_ashore_54 rfl (lv_at hl 2 rfl) ?_
              obtain ⟨v134, ev134, hf⟩ := x_bind hf
              refine xc_ri (As := [.int (iI l2)]) (rest := []) ⟨hx, hb, hml, hown, hts⟩ (c5_placeIn l dC dI cs a x127 l2  _ ev134) (cwV 1 hts gX5_ashore_X5_placeIn rfl rfl rfl cdX5_placeIn ⟨Nat.le_of_ble_eq_true rfl, Nat.le_of_ble_eq_true rfl⟩) hK hP [0, 1, 2, 3, 4, 5, 6, 7] rfl 0 rfl rfl rfl hl.1 rfl (Nat.le_of_ble_eq_true rfl) dX5_ashore_55 ⟨Nat.zero_le _, Nat.zero_le _⟩ ?_
              refine lv_iload_n hx hb dX5_ashore_58 rfl (lv_at hl 1 rfl) ?_
              obtain ⟨c135a, c135b, c135t, c135f⟩ := x_eqE hf
              refine xk_icmp_ne (tgt := 64) hx hb c135a c135b dX5_ashore_59 (by decide) (fun c135 => ?_) (fun c135 => ?_)
              · have hf := c135t c135
                refine lv_iload_n hx hb dX5_ashore_62 rfl (lv_at hl 2 rfl) ?_
                obtain rfl := Option.some.inj hf
                exact xe_wi hx hb hr hlocks hS hP dX5_ashore_63
              · have hf := c135f c135
                refine xk_iinc (lv' := [(2, .int (iI (l2 + 1))), (0, .ref (a 0)), (1, .int (iI k1))]) hx hb dX5_ashore_64 hl (k := 2) rfl (by decide) rfl (fun ls hl => ?_)
                refine lv_goto (tgt := 26) hx hb dX5_ashore_67 (by decide) ?_
                exact ih26 (l2 + 1) x127 hf _ _ hP hS ls (lv_sub hl [1, 2, 0] rfl)
            · have hf := c133f c133
              refine xk_iinc (lv' := [(2, .int (iI (l2 + 1))), (0, .ref (a 0)), (1, .int (iI k1))]) hx hb dX5_ashore_64 hl (k := 2) rfl (by decide) rfl (fun ls hl => ?_)
              refine lv_goto (tgt := 26) hx hb dX5_ashore_67 (by decide) ?_
              exact ih26 (l2 + 1) x127 hf _ _ hP hS ls (lv_sub hl [1, 2, 0] rfl)
          · have hf := c131f c131
            refine xk_iconst hx hb dX5_ashore_70 ?_
            obtain rfl := Option.some.inj hf
            exact xe_wi hx hb hr hlocks hS hP dX5_ashore_71
        · have hf := c130f c130
          refine xk_iconst hx hb dX5_ashore_70 ?_
          obtain rfl := Option.some.inj hf
          exact xe_wi hx hb hr hlocks hS hP dX5_ashore_71
    exact hL26 p0 xFU 0 (s5_thr x 0) hf _ _ hP hS ls (lv_sub hl [1, 2, 0] rfl)
theorem cdX5_ashore : yX5_ashore.cls = RX5 ∧ yX5_ashore.cls ≠ "java/lang/invoke/MethodHandle" ∧ yX5_ashore.cls ≠ "java/lang/invoke/VarHandle" ∧ (parseMethodDescriptor yX5_ashore.desc).map (fun d => d.parameters.length) = some 1 := by decide +kernel

set_option maxHeartbeats 4000000 in
set_option maxRecDepth 100000 in
theorem c5_runAt (l : Launch) (dC : Nat → ClassId) (dI : Nat → Nat → Nat) (cs : Nat → ClassId) (a : Nat → Nat) (sz : Nat) (x : ModS) (p0 : Int) (res : Int × ModS) (hf : f5_runAt x p0 = some res) : Met l yX5_runAt wsX5_runAt ({ frames := 1, cells := 0, slots := 0, locals := 22 } : Room) (va_Pc [.ref (a 0), .int (iI p0)] (xPW (dC, dI) vwCl (w5 cs a x) (xT cs) sz)) (xQi (dC, dI) vwCl (w5 cs a x) (w5 cs a res.2) sz res.1) 0 0 (va_A (w5 cs a x) sz) := by
  refine Met.ofW (cc := cX5_runAt) (maxL := 2) (ret := (some .int)) (by decide) rfl ?_
  intro p e s m args below meth c s₁ B hml hv
  obtain ⟨rfl, hsz, hP, hK, hD0⟩ := hv
  have hx := B.exec
  have hb := B.bytes
  have hr := B.returns
  have hts := atoms_spec (ws := wsX5_runAt) B.pre
  have hown : s.vm.findClass RX5 = some m.cls := findClass_of_methodNamed B.named
  have hlocks := B.notSynchronized
  have hin5 : ∀ w ∈ wsX50, w ∈ wsX5_runAt := by decide +kernel
  subst hsz
  have hD := hD0.self (sz := s.heap.size)
  have hA : ∀ z9 : Nat, s.heap.size ≤ z9 → va_A (w5 cs a x) s.heap.size z9 := fun z9 h => Or.inr h
  have hS : va_S (va_A (w5 cs a x) s.heap.size) s.heap s.heap [] := va_S.rf
  have hl := lv_entry [.ref (a 0), .int (iI p0)] (n := 2) (Nat.le_of_ble_eq_true rfl)
  rw [lg_entry_eq]
  generalize (lg_sl [.ref (a 0), .int (iI p0)] ++ List.replicate (2 - (lg_sl [.ref (a 0), .int (iI p0)]).length) Slot.unset).toArray = ls at hl ⊢
  have hl : lv_has ls 2 [(0, .ref (a 0)), (1, .int (iI p0))] := hl
  unfold f5_runAt at hf
  refine lv_aload_n hx hb dX5_runAt_0 rfl (lv_at hl 0 rfl) ?_
  refine lv_iload_n hx hb dX5_runAt_1 rfl (lv_at hl 1 rfl) ?_
  refine xk_iconst hx hb dX5_runAt_2 ?_
  refine lv_aload_n hx hb dX5_runAt_3 rfl (lv_at hl 0 rfl) ?_
  refine va_get (D := (dC, dI)) (ci := 5) (v := .ref (a 1)) (C := RX5) (T := TX5) (N := 13) hx hb hts hin5 hown hK hP 0 rfl rfl 1 (by decide) (hts (.fieldLink RX5 13 "BoatRunsModel" "now" "[I") (by decide +kernel)) (fun _ h9 => h9) rfl dX5_runAt_4 ?_
  refine xk_bipush hx hb dX5_runAt_7 (by decide) ?_
  obtain ⟨v1, ev1, hf⟩ := x_bind hf
  refine xk_iald (f := g5_now x) hx hb hK hP 1 0 ev1 (by decide) rfl rfl dX5_runAt_9 ?_
  refine xk_iconst hx hb dX5_runAt_10 ?_
  refine xk_isub hx hb dX5_runAt_11 ?_
  obtain ⟨v2, ev2, hf⟩ := x_bind hf
  refine xc_si (As := [.int (iI p0), .int (iI 0), .int (iI (v1 - 1))]) (rest := [.ref (a 0)]) ⟨hx, hb, hml, hown, hts⟩ (c5_in l p0 0 (v1 - 1) _ ev2) (va_cwS 3 hts gX5_runAt_X5_in rfl rfl rfl cdX5_in ⟨Nat.le_of_ble_eq_true rfl, Nat.le_of_ble_eq_true rfl⟩) rfl hl.1 rfl (Nat.le_of_ble_eq_true rfl) dX5_runAt_12 ⟨Nat.zero_le _, Nat.zero_le _⟩ ?_
  obtain ⟨c3a, c3b, c3t, c3f⟩ := x_eqE hf
  refine xk_if_eq (tgt := 22) hx hb c3a dX5_runAt_15 (by decide) (fun c3 => ?_) (fun c3 => ?_)
  · have hf := c3t c3
    refine xk_iconst hx hb dX5_runAt_22 ?_
    refine va_put (D := (dC, dI)) (ci := 5) (v := .int (iI 1)) (ty := .int) (C := RX5) (T := TX5) (N := 13) hx hb hts hin5 tyX5 tyX5_ok nmX5 hown hK hP (x_addr hD rfl) hS 0 rfl rfl 0 (by decide) (hts (.fieldLink RX5 1 "BoatRunsModel" "thrown" "I") (by decide +kernel)) (fun _ h9 => h9) rfl (by decide +kernel) rfl rfl (Nat.le_of_ble_eq_true rfl) dX5_runAt_23 (fun H locs hP _ hS => ?_)
    have hP : va_P (dC, dI) vwCl (w5C cs a 1 (g5_acts x) (g5_typ x) (g5_lat x) (g5_pos x) (g5_wra x) (g5_now x) (g5_put x) (g5_was x) (g5_txt x) (g5_lef x) (g5_abo x) (g5_ors x)) H := hP
    refine lv_aload_n hx hb dX5_runAt_26 rfl (lv_at hl 0 rfl) ?_
    refine va_get (D := (dC, dI)) (ci := 5) (v := .int (iI 1)) (C := RX5) (T := TX5) (N := 13) hx hb hts hin5 hown hK hP 0 rfl rfl 0 (by decide) (hts (.fieldLink RX5 1 "BoatRunsModel" "thrown" "I") (by decide +kernel)) (fun _ h9 => h9) rfl dX5_runAt_27 ?_
    refine xk_if_le (tgt := 37) hx hb (by decide) dX5_runAt_30 (by decide) (fun c4 => ?_) (fun c4 => ?_)
    · refine xk_iconst hx hb dX5_runAt_33 ?_
      refine lv_goto (tgt := 42) hx hb dX5_runAt_34 (by decide) ?_
      obtain rfl := Option.some.inj hf
      exact xe_wi hx hb hr hlocks hS hP dX5_runAt_42
    · exact absurd c4 (by decide)
  · have hf := c3f c3
    refine xk_iconst hx hb dX5_runAt_18 ?_
    refine lv_goto (tgt := 23) hx hb dX5_runAt_19 (by decide) ?_
    refine va_put (D := (dC, dI)) (ci := 5) (v := .int (iI 0)) (ty := .int) (C := RX5) (T := TX5) (N := 13) hx hb hts hin5 tyX5 tyX5_ok nmX5 hown hK hP (x_addr hD rfl) hS 0 rfl rfl 0 (by decide) (hts (.fieldLink RX5 1 "BoatRunsModel" "thrown" "I") (by decide +kernel)) (fun _ h9 => h9) rfl (by decide +kernel) rfl rfl (Nat.le_of_ble_eq_true rfl) dX5_runAt_23 (fun H locs hP _ hS => ?_)
    have hP : va_P (dC, dI) vwCl (w5C cs a 0 (g5_acts x) (g5_typ x) (g5_lat x) (g5_pos x) (g5_wra x) (g5_now x) (g5_put x) (g5_was x) (g5_txt x) (g5_lef x) (g5_abo x) (g5_ors x)) H := hP
    refine lv_aload_n hx hb dX5_runAt_26 rfl (lv_at hl 0 rfl) ?_
    refine va_get (D := (dC, dI)) (ci := 5) (v := .int (iI 0)) (C := RX5) (T := TX5) (N := 13) hx hb hts hin5 hown hK hP 0 rfl rfl 0 (by decide) (hts (.fieldLink RX5 1 "BoatRunsModel" "thrown" "I") (by decide +kernel)) (fun _ h9 => h9) rfl dX5_runAt_27 ?_
    refine xk_if_le (tgt := 37) hx hb (by decide) dX5_runAt_30 (by decide) (fun c5 => ?_) (fun c5 => ?_)
    · exact absurd c5 (by decide)
    · refine lv_aload_n hx hb dX5_runAt_37 rfl (lv_at hl 0 rfl) ?_
      refine lv_iload_n hx hb dX5_runAt_38 rfl (lv_at hl 1 rfl) ?_
      obtain ⟨v6, ev6, hf⟩ := x_bind hf
      refine xc_ri (As := [.int (iI p0)]) (rest := []) ⟨hx, hb, hml, hown, hts⟩ (c5_numberAt l dC dI cs a (s5_thr x 0) p0  _ ev6) (cwV 1 hts gX5_runAt_X5_numberAt rfl rfl rfl cdX5_numberAt ⟨Nat.le_of_ble_eq_true rfl, Nat.le_of_ble_eq_true rfl⟩) hK hP [0, 1, 2, 3, 4, 5, 6, 7] rfl 0 rfl rfl rfl hl.1 rfl (Nat.le_of_ble_eq_true rfl) dX5_runAt_39 ⟨Nat.zero_le _, Nat.zero_le _⟩ ?_
      obtain rfl := Option.some.inj hf
      exact xe_wi hx hb hr hlocks hS hP dX5_runAt_42
theorem cdX5_runAt : yX5_runAt.cls = RX5 ∧ yX5_runAt.cls ≠ "java/lang/invoke/MethodHandle" ∧ yX5_runAt.cls ≠ "java/lang/invoke/VarHandle" ∧ (parseMethodDescriptor yX5_runAt.desc).map (fun d => d.parameters.length) = some 1 := by decide +kernel

set_option maxHeartbeats 4000000 in
set_option maxRecDepth 100000 in
theorem c5_valueBy (l : Launch) (dC : Nat → ClassId) (dI : Nat → Nat → Nat) (cs : Nat → ClassId) (a : Nat → Nat) (x : ModS) (p0 : Int) (res : Int) (hf : f5_valueBy x p0 = some res) : Met l yX5_valueBy wsX5_valueBy ({ frames := 2, cells := 0, slots := 0, locals := 45 } : Room) (va_Pc [.ref (a 0), .int (iI p0)] (xPR (dC, dI) vwCl (w5 cs a x) (xT cs))) (vp_Si (fun r => r = iI res)) 0 0 (fun _ => False) := by
  refine Met.ofW (cc := cX5_valueBy) (maxL := 2) (ret := (some .int)) (by decide) rfl ?_
  intro p e s m args below meth c s₁ B hml hv
  obtain ⟨rfl, hP, hK⟩ := hv
  have hx := B.exec
  have hb := B.bytes
  have hr := B.returns
  have hts := atoms_spec (ws := wsX5_valueBy) B.pre
  have hown : s.vm.findClass RX5 = some m.cls := findClass_of_methodNamed B.named
  have hlocks := B.notSynchronized
  have hin5 : ∀ w ∈ wsX50, w ∈ wsX5_valueBy := by decide +kernel
  have hl := lv_entry [.ref (a 0), .int (iI p0)] (n := 2) (Nat.le_of_ble_eq_true rfl)
  rw [lg_entry_eq]
  generalize (lg_sl [.ref (a 0), .int (iI p0)] ++ List.replicate (2 - (lg_sl [.ref (a 0), .int (iI p0)]).length) Slot.unset).toArray = ls at hl ⊢
  have hl : lv_has ls 2 [(0, .ref (a 0)), (1, .int (iI p0))] := hl
  unfold f5_valueBy at hf
  refine lv_iload_n hx hb dX5_valueBy_0 rfl (lv_at hl 1 rfl) ?_
  obtain ⟨c1a, c1b, c1t, c1f⟩ := x_eqE hf
  by_cases c1 : p0 = 0
  · have hf := c1t c1
    refine xk_tabIn (tgt := 60) hx hb c1a c1 dX5_valueBy_1 (by decide) rfl (by decide) ?_
    refine lv_aload_n hx hb dX5_valueBy_60 rfl (lv_at hl 0 rfl) ?_
    refine va_get (D := (dC, dI)) (ci := 5) (v := .ref (a 1)) (C := RX5) (T := TX5) (N := 13) hx hb hts hin5 hown hK hP 0 rfl rfl 1 (by decide) (hts (.fieldLink RX5 13 "BoatRunsModel" "now" "[I") (by decide +kernel)) (fun _ h9 => h9) rfl dX5_valueBy_61 ?_
    refine xk_iconst hx hb dX5_valueBy_64 ?_
    obtain ⟨v2, ev2, hf⟩ := x_bind hf
    refine xk_iald (f := g5_now x) hx hb hK hP 1 0 ev2 (by decide) rfl rfl dX5_valueBy_65 ?_
    obtain rfl := Option.some.inj hf
    exact xe_ri hx hb hr hlocks dX5_valueBy_66 rfl
  · have hf := c1f c1
    obtain ⟨c3a, c3b, c3t, c3f⟩ := x_eqE hf
    by_cases c3 : p0 = 1
    · have hf := c3t c3
      refine xk_tabIn (tgt := 67) hx hb c3a c3 dX5_valueBy_1 (by decide) rfl (by decide) ?_
      refine lv_aload_n hx hb dX5_valueBy_67 rfl (lv_at hl 0 rfl) ?_
      refine xk_iconst hx hb dX5_valueBy_68 ?_
      obtain ⟨v4, ev4, hf⟩ := x_bind hf
      refine xc_ri (As := [.int (iI 0)]) (rest := []) ⟨hx, hb, hml, hown, hts⟩ (c5_many l dC dI cs a x 0  _ ev4) (cwV 1 hts gX5_valueBy_X5_many rfl rfl rfl cdX5_many ⟨Nat.le_of_ble_eq_true rfl, Nat.le_of_ble_eq_true rfl⟩) hK hP [0, 1, 2, 3, 4, 5, 6, 7] rfl 0 rfl rfl rfl hl.1 rfl (Nat.le_of_ble_eq_true rfl) dX5_valueBy_69 ⟨Nat.zero_le _, Nat.zero_le _⟩ ?_
      obtain rfl := Option.some.inj hf
      exact xe_ri hx hb hr hlocks dX5_valueBy_72 rfl
    · have hf := c3f c3
      obtain ⟨c5a, c5b, c5t, c5f⟩ := x_eqE hf
      by_cases c5 : p0 = 2
      · have hf := c5t c5
        refine xk_tabIn (tgt := 73) hx hb c5a c5 dX5_valueBy_1 (by decide) rfl (by decide) ?_
        refine lv_aload_n hx hb dX5_valueBy_73 rfl (lv_at hl 0 rfl) ?_
        refine va_get (D := (dC, dI)) (ci := 5) (v := .ref (a 1)) (C := RX5) (T := TX5) (N := 13) hx hb hts hin5 hown hK hP 0 rfl rfl 1 (by decide) (hts (.fieldLink RX5 13 "BoatRunsModel" "now" "[I") (by decide +kernel)) (fun _ h9 => h9) rfl dX5_valueBy_74 ?_
        refine xk_iconst hx hb dX5_valueBy_77 ?_
        obtain ⟨v6, ev6, hf⟩ := x_bind hf
        refine xk_iald (f := g5_now x) hx hb hK hP 1 0 ev6 (by decide) rfl rfl dX5_valueBy_78 ?_
        obtain rfl := Option.some.inj hf
        exact xe_ri hx hb hr hlocks dX5_valueBy_79 rfl
      · have hf := c5f c5
        obtain ⟨c7a, c7b, c7t, c7f⟩ := x_eqE hf
        by_cases c7 : p0 = 3
        · have hf := c7t c7
          refine xk_tabIn (tgt := 80) hx hb c7a c7 dX5_valueBy_1 (by decide) rfl (by decide) ?_
          refine lv_aload_n hx hb dX5_valueBy_80 rfl (lv_at hl 0 rfl) ?_
          refine va_get (D := (dC, dI)) (ci := 5) (v := .ref (a 1)) (C := RX5) (T := TX5) (N := 13) hx hb hts hin5 hown hK hP 0 rfl rfl 1 (by decide) (hts (.fieldLink RX5 13 "BoatRunsModel" "now" "[I") (by decide +kernel)) (fun _ h9 => h9) rfl dX5_valueBy_81 ?_
          refine xk_bipush hx hb dX5_valueBy_84 (by decide) ?_
          obtain ⟨v8, ev8, hf⟩ := x_bind hf
          refine xk_iald (f := g5_now x) hx hb hK hP 1 0 ev8 (by decide) rfl rfl dX5_valueBy_86 ?_
          obtain rfl := Option.some.inj hf
          exact xe_ri hx hb hr hlocks dX5_valueBy_87 rfl
        · have hf := c7f c7
          obtain ⟨c9a, c9b, c9t, c9f⟩ := x_eqE hf
          by_cases c9 : p0 = 4
          · have hf := c9t c9
            refine xk_tabIn (tgt := 88) hx hb c9a c9 dX5_valueBy_1 (by decide) rfl (by decide) ?_
            refine lv_aload_n hx hb dX5_valueBy_88 rfl (lv_at hl 0 rfl) ?_
            refine xk_iconst hx hb dX5_valueBy_89 ?_
            obtain ⟨v10, ev10, hf⟩ := x_bind hf
            refine xc_ri (As := [.int (iI 1)]) (rest := []) ⟨hx, hb, hml, hown, hts⟩ (c5_many l dC dI cs a x 1  _ ev10) (cwV 1 hts gX5_valueBy_X5_many rfl rfl rfl cdX5_many ⟨Nat.le_of_ble_eq_true rfl, Nat.le_of_ble_eq_true rfl⟩) hK hP [0, 1, 2, 3, 4, 5, 6, 7] rfl 0 rfl rfl rfl hl.1 rfl (Nat.le_of_ble_eq_true rfl) dX5_valueBy_90 ⟨Nat.zero_le _, Nat.zero_le _⟩ ?_
            obtain rfl := Option.some.inj hf
            exact xe_ri hx hb hr hlocks dX5_valueBy_93 rfl
          · have hf := c9f c9
            obtain ⟨c11a, c11b, c11t, c11f⟩ := x_eqE hf
            by_cases c11 : p0 = 5
            · have hf := c11t c11
              refine xk_tabIn (tgt := 94) hx hb c11a c11 dX5_valueBy_1 (by decide) rfl (by decide) ?_
              refine lv_aload_n hx hb dX5_valueBy_94 rfl (lv_at hl 0 rfl) ?_
              refine xk_iconst hx hb dX5_valueBy_95 ?_
              obtain ⟨v12, ev12, hf⟩ := x_bind hf
              refine xc_ri (As := [.int (iI 2)]) (rest := []) ⟨hx, hb, hml, hown, hts⟩ (c5_many l dC dI cs a x 2  _ ev12) (cwV 1 hts gX5_valueBy_X5_many rfl rfl rfl cdX5_many ⟨Nat.le_of_ble_eq_true rfl, Nat.le_of_ble_eq_true rfl⟩) hK hP [0, 1, 2, 3, 4, 5, 6, 7] rfl 0 rfl rfl rfl hl.1 rfl (Nat.le_of_ble_eq_true rfl) dX5_valueBy_96 ⟨Nat.zero_le _, Nat.zero_le _⟩ ?_
              obtain rfl := Option.some.inj hf
              exact xe_ri hx hb hr hlocks dX5_valueBy_99 rfl
            · have hf := c11f c11
              obtain ⟨c13a, c13b, c13t, c13f⟩ := x_eqE hf
              by_cases c13 : p0 = 6
              · have hf := c13t c13
                refine xk_tabIn (tgt := 100) hx hb c13a c13 dX5_valueBy_1 (by decide) rfl (by decide) ?_
                refine lv_aload_n hx hb dX5_valueBy_100 rfl (lv_at hl 0 rfl) ?_
                refine va_get (D := (dC, dI)) (ci := 5) (v := .ref (a 1)) (C := RX5) (T := TX5) (N := 13) hx hb hts hin5 hown hK hP 0 rfl rfl 1 (by decide) (hts (.fieldLink RX5 13 "BoatRunsModel" "now" "[I") (by decide +kernel)) (fun _ h9 => h9) rfl dX5_valueBy_101 ?_
                refine xk_iconst hx hb dX5_valueBy_104 ?_
                obtain ⟨v14, ev14, hf⟩ := x_bind hf
                refine xk_iald (f := g5_now x) hx hb hK hP 1 0 ev14 (by decide) rfl rfl dX5_valueBy_105 ?_
                obtain rfl := Option.some.inj hf
                exact xe_ri hx hb hr hlocks dX5_valueBy_106 rfl
              · have hf := c13f c13
                obtain ⟨c15a, c15b, c15t, c15f⟩ := x_eqE hf
                by_cases c15 : p0 = 7
                · have hf := c15t c15
                  refine xk_tabIn (tgt := 107) hx hb c15a c15 dX5_valueBy_1 (by decide) rfl (by decide) ?_
                  refine lv_aload_n hx hb dX5_valueBy_107 rfl (lv_at hl 0 rfl) ?_
                  refine va_get (D := (dC, dI)) (ci := 5) (v := .ref (a 1)) (C := RX5) (T := TX5) (N := 13) hx hb hts hin5 hown hK hP 0 rfl rfl 1 (by decide) (hts (.fieldLink RX5 13 "BoatRunsModel" "now" "[I") (by decide +kernel)) (fun _ h9 => h9) rfl dX5_valueBy_108 ?_
                  refine xk_iconst hx hb dX5_valueBy_111 ?_
                  obtain ⟨v16, ev16, hf⟩ := x_bind hf
                  refine xk_iald (f := g5_now x) hx hb hK hP 1 0 ev16 (by decide) rfl rfl dX5_valueBy_112 ?_
                  obtain rfl := Option.some.inj hf
                  exact xe_ri hx hb hr hlocks dX5_valueBy_113 rfl
                · have hf := c15f c15
                  obtain ⟨c17a, c17b, c17t, c17f⟩ := x_eqE hf
                  by_cases c17 : p0 = 8
                  · have hf := c17t c17
                    refine xk_tabIn (tgt := 114) hx hb c17a c17 dX5_valueBy_1 (by decide) rfl (by decide) ?_
                    refine lv_aload_n hx hb dX5_valueBy_114 rfl (lv_at hl 0 rfl) ?_
                    refine va_get (D := (dC, dI)) (ci := 5) (v := .ref (a 1)) (C := RX5) (T := TX5) (N := 13) hx hb hts hin5 hown hK hP 0 rfl rfl 1 (by decide) (hts (.fieldLink RX5 13 "BoatRunsModel" "now" "[I") (by decide +kernel)) (fun _ h9 => h9) rfl dX5_valueBy_115 ?_
                    refine xk_iconst hx hb dX5_valueBy_118 ?_
                    obtain ⟨v18, ev18, hf⟩ := x_bind hf
                    refine xk_iald (f := g5_now x) hx hb hK hP 1 0 ev18 (by decide) rfl rfl dX5_valueBy_119 ?_
                    obtain rfl := Option.some.inj hf
                    exact xe_ri hx hb hr hlocks dX5_valueBy_120 rfl
                  · have hf := c17f c17
                    obtain ⟨c19a, c19b, c19t, c19f⟩ := x_eqE hf
                    by_cases c19 : p0 = 9
                    · have hf := c19t c19
                      refine xk_tabIn (tgt := 121) hx hb c19a c19 dX5_valueBy_1 (by decide) rfl (by decide) ?_
                      refine lv_aload_n hx hb dX5_valueBy_121 rfl (lv_at hl 0 rfl) ?_
                      refine va_get (D := (dC, dI)) (ci := 5) (v := .ref (a 1)) (C := RX5) (T := TX5) (N := 13) hx hb hts hin5 hown hK hP 0 rfl rfl 1 (by decide) (hts (.fieldLink RX5 13 "BoatRunsModel" "now" "[I") (by decide +kernel)) (fun _ h9 => h9) rfl dX5_valueBy_122 ?_
                      refine xk_iconst hx hb dX5_valueBy_125 ?_
                      obtain ⟨v20, ev20, hf⟩ := x_bind hf
                      refine xk_iald (f := g5_now x) hx hb hK hP 1 0 ev20 (by decide) rfl rfl dX5_valueBy_126 ?_
                      obtain rfl := Option.some.inj hf
                      exact xe_ri hx hb hr hlocks dX5_valueBy_127 rfl
                    · have hf := c19f c19
                      obtain ⟨c21a, c21b, c21t, c21f⟩ := x_eqE hf
                      by_cases c21 : p0 = 10
                      · have hf := c21t c21
                        refine xk_tabIn (tgt := 128) hx hb c21a c21 dX5_valueBy_1 (by decide) rfl (by decide) ?_
                        refine lv_aload_n hx hb dX5_valueBy_128 rfl (lv_at hl 0 rfl) ?_
                        refine va_get (D := (dC, dI)) (ci := 5) (v := .ref (a 1)) (C := RX5) (T := TX5) (N := 13) hx hb hts hin5 hown hK hP 0 rfl rfl 1 (by decide) (hts (.fieldLink RX5 13 "BoatRunsModel" "now" "[I") (by decide +kernel)) (fun _ h9 => h9) rfl dX5_valueBy_129 ?_
                        refine xk_bipush hx hb dX5_valueBy_132 (by decide) ?_
                        obtain ⟨v22, ev22, hf⟩ := x_bind hf
                        refine xk_iald (f := g5_now x) hx hb hK hP 1 0 ev22 (by decide) rfl rfl dX5_valueBy_134 ?_
                        obtain rfl := Option.some.inj hf
                        exact xe_ri hx hb hr hlocks dX5_valueBy_135 rfl
                      · have hf := c21f c21
                        refine xk_tabOut (tgt := 136) hx hb c21a dX5_valueBy_1 (by omega) (by decide) ?_
                        refine lv_aload_n hx hb dX5_valueBy_136 rfl (lv_at hl 0 rfl) ?_
                        refine va_get (D := (dC, dI)) (ci := 5) (v := .ref (a 1)) (C := RX5) (T := TX5) (N := 13) hx hb hts hin5 hown hK hP 0 rfl rfl 1 (by decide) (hts (.fieldLink RX5 13 "BoatRunsModel" "now" "[I") (by decide +kernel)) (fun _ h9 => h9) rfl dX5_valueBy_137 ?_
                        refine xk_bipush hx hb dX5_valueBy_140 (by decide) ?_
                        obtain ⟨v23, ev23, hf⟩ := x_bind hf
                        refine xk_iald (f := g5_now x) hx hb hK hP 1 0 ev23 (by decide) rfl rfl dX5_valueBy_142 ?_
                        obtain rfl := Option.some.inj hf
                        exact xe_ri hx hb hr hlocks dX5_valueBy_143 rfl
theorem cdX5_valueBy : yX5_valueBy.cls = RX5 ∧ yX5_valueBy.cls ≠ "java/lang/invoke/MethodHandle" ∧ yX5_valueBy.cls ≠ "java/lang/invoke/VarHandle" ∧ (parseMethodDescriptor yX5_valueBy.desc).map (fun d => d.parameters.length) = some 1 := by decide +kernel

set_option maxHeartbeats 4000000 in
set_option maxRecDepth 100000 in
theorem c5_value (l : Launch) (dC : Nat → ClassId) (dI : Nat → Nat → Nat) (cs : Nat → ClassId) (a : Nat → Nat) (sz : Nat) (x : ModS) (p0 : Int) (res : Int × ModS) (hf : f5_value x p0 = some res) : Met l yX5_value wsX5_value ({ frames := 3, cells := 0, slots := 0, locals := 66 } : Room) (va_Pc [.ref (a 0), .int (iI p0)] (xPW (dC, dI) vwCl (w5 cs a x) (xT cs) sz)) (xQi (dC, dI) vwCl (w5 cs a x) (w5 cs a res.2) sz res.1) 0 0 (va_A (w5 cs a x) sz) := by
  refine Met.ofW (cc := cX5_value) (maxL := 2) (ret := (some .int)) (by decide) rfl ?_
  intro p e s m args below meth c s₁ B hml hv
  obtain ⟨rfl, hsz, hP, hK, hD0⟩ := hv
  have hx := B.exec
  have hb := B.bytes
  have hr := B.returns
  have hts := atoms_spec (ws := wsX5_value) B.pre
  have hown : s.vm.findClass RX5 = some m.cls := findClass_of_methodNamed B.named
  have hlocks := B.notSynchronized
  have hin5 : ∀ w ∈ wsX50, w ∈ wsX5_value := by decide +kernel
  subst hsz
  have hD := hD0.self (sz := s.heap.size)
  have hA : ∀ z9 : Nat, s.heap.size ≤ z9 → va_A (w5 cs a x) s.heap.size z9 := fun z9 h => Or.inr h
  have hS : va_S (va_A (w5 cs a x) s.heap.size) s.heap s.heap [] := va_S.rf
  have hl := lv_entry [.ref (a 0), .int (iI p0)] (n := 2) (Nat.le_of_ble_eq_true rfl)
  rw [lg_entry_eq]
  generalize (lg_sl [.ref (a 0), .int (iI p0)] ++ List.replicate (2 - (lg_sl [.ref (a 0), .int (iI p0)]).length) Slot.unset).toArray = ls at hl ⊢
  have hl : lv_has ls 2 [(0, .ref (a 0)), (1, .int (iI p0))] := hl
  unfold f5_value at hf
  refine lv_aload_n hx hb dX5_value_0 rfl (lv_at hl 0 rfl) ?_
  refine lv_iload_n hx hb dX5_value_1 rfl (lv_at hl 1 rfl) ?_
  refine xk_iconst hx hb dX5_value_2 ?_
  refine xk_bipush hx hb dX5_value_3 (by decide) ?_
  obtain ⟨v1, ev1, hf⟩ := x_bind hf
  refine xc_si (As := [.int (iI p0), .int (iI 0), .int (iI 11)]) (rest := [.ref (a 0)]) ⟨hx, hb, hml, hown, hts⟩ (c5_in l p0 0 11 _ ev1) (va_cwS 3 hts gX5_value_X5_in rfl rfl rfl cdX5_in ⟨Nat.le_of_ble_eq_true rfl, Nat.le_of_ble_eq_true rfl⟩) rfl hl.1 rfl (Nat.le_of_ble_eq_true rfl) dX5_value_5 ⟨Nat.zero_le _, Nat.zero_le _⟩ ?_
  obtain ⟨c2a, c2b, c2t, c2f⟩ := x_eqE hf
  refine xk_if_eq (tgt := 15) hx hb c2a dX5_value_8 (by decide) (fun c2 => ?_) (fun c2 => ?_)
  · have hf := c2t c2
    refine xk_iconst hx hb dX5_value_15 ?_
    refine va_put (D := (dC, dI)) (ci := 5) (v := .int (iI 1)) (ty := .int) (C := RX5) (T := TX5) (N := 13) hx hb hts hin5 tyX5 tyX5_ok nmX5 hown hK hP (x_addr hD rfl) hS 0 rfl rfl 0 (by decide) (hts (.fieldLink RX5 1 "BoatRunsModel" "thrown" "I") (by decide +kernel)) (fun _ h9 => h9) rfl (by decide +kernel) rfl rfl (Nat.le_of_ble_eq_true rfl) dX5_value_16 (fun H locs hP _ hS => ?_)
    have hP : va_P (dC, dI) vwCl (w5C cs a 1 (g5_acts x) (g5_typ x) (g5_lat x) (g5_pos x) (g5_wra x) (g5_now x) (g5_put x) (g5_was x) (g5_txt x) (g5_lef x) (g5_abo x) (g5_ors x)) H := hP
    refine lv_aload_n hx hb dX5_value_19 rfl (lv_at hl 0 rfl) ?_
    refine va_get (D := (dC, dI)) (ci := 5) (v := .int (iI 1)) (C := RX5) (T := TX5) (N := 13) hx hb hts hin5 hown hK hP 0 rfl rfl 0 (by decide) (hts (.fieldLink RX5 1 "BoatRunsModel" "thrown" "I") (by decide +kernel)) (fun _ h9 => h9) rfl dX5_value_20 ?_
    refine xk_if_le (tgt := 30) hx hb (by decide) dX5_value_23 (by decide) (fun c3 => ?_) (fun c3 => ?_)
    · refine xk_iconst hx hb dX5_value_26 ?_
      refine lv_goto (tgt := 35) hx hb dX5_value_27 (by decide) ?_
      obtain rfl := Option.some.inj hf
      exact xe_wi hx hb hr hlocks hS hP dX5_value_35
    · exact absurd c3 (by decide)
  · have hf := c2f c2
    refine xk_iconst hx hb dX5_value_11 ?_
    refine lv_goto (tgt := 16) hx hb dX5_value_12 (by decide) ?_
    refine va_put (D := (dC, dI)) (ci := 5) (v := .int (iI 0)) (ty := .int) (C := RX5) (T := TX5) (N := 13) hx hb hts hin5 tyX5 tyX5_ok nmX5 hown hK hP (x_addr hD rfl) hS 0 rfl rfl 0 (by decide) (hts (.fieldLink RX5 1 "BoatRunsModel" "thrown" "I") (by decide +kernel)) (fun _ h9 => h9) rfl (by decide +kernel) rfl rfl (Nat.le_of_ble_eq_true rfl) dX5_value_16 (fun H locs hP _ hS => ?_)
    have hP : va_P (dC, dI) vwCl (w5C cs a 0 (g5_acts x) (g5_typ x) (g5_lat x) (g5_pos x) (g5_wra x) (g5_now x) (g5_put x) (g5_was x) (g5_txt x) (g5_lef x) (g5_abo x) (g5_ors x)) H := hP
    refine lv_aload_n hx hb dX5_value_19 rfl (lv_at hl 0 rfl) ?_
    refine va_get (D := (dC, dI)) (ci := 5) (v := .int (iI 0)) (C := RX5) (T := TX5) (N := 13) hx hb hts hin5 hown hK hP 0 rfl rfl 0 (by decide) (hts (.fieldLink RX5 1 "BoatRunsModel" "thrown" "I") (by decide +kernel)) (fun _ h9 => h9) rfl dX5_value_20 ?_
    refine xk_if_le (tgt := 30) hx hb (by decide) dX5_value_23 (by decide) (fun c4 => ?_) (fun c4 => ?_)
    · exact absurd c4 (by decide)
    · refine lv_aload_n hx hb dX5_value_30 rfl (lv_at hl 0 rfl) ?_
      refine lv_iload_n hx hb dX5_value_31 rfl (lv_at hl 1 rfl) ?_
      obtain ⟨v5, ev5, hf⟩ := x_bind hf
      refine xc_ri (As := [.int (iI p0)]) (rest := []) ⟨hx, hb, hml, hown, hts⟩ (c5_valueBy l dC dI cs a (s5_thr x 0) p0  _ ev5) (cwV 1 hts gX5_value_X5_valueBy rfl rfl rfl cdX5_valueBy ⟨Nat.le_of_ble_eq_true rfl, Nat.le_of_ble_eq_true rfl⟩) hK hP [0, 1, 2, 3, 4, 5, 6, 7] rfl 0 rfl rfl rfl hl.1 rfl (Nat.le_of_ble_eq_true rfl) dX5_value_32 ⟨Nat.zero_le _, Nat.zero_le _⟩ ?_
      obtain rfl := Option.some.inj hf
      exact xe_wi hx hb hr hlocks hS hP dX5_value_35
theorem cdX5_value : yX5_value.cls = RX5 ∧ yX5_value.cls ≠ "java/lang/invoke/MethodHandle" ∧ yX5_value.cls ≠ "java/lang/invoke/VarHandle" ∧ (parseMethodDescriptor yX5_value.desc).map (fun d => d.parameters.length) = some 1 := by decide +kernel

set_option maxHeartbeats 4000000 in
set_option maxRecDepth 100000 in
theorem c5_thrownNext (l : Launch) (dC : Nat → ClassId) (dI : Nat → Nat → Nat) (cs : Nat → ClassId) (a : Nat → Nat) (x : ModS) (res : Int) (hf : f5_thrownNext x = some res) : Met l yX5_thrownNext wsX5_thrownNext ({ frames := 4, cells := 0, slots := 0, locals := 88 } : Room) (va_Pc [.ref (a 0)] (xPR (dC, dI) vwCl (w5 cs a x) (xT cs))) (vp_Si (fun r => r = iI res)) 0 0 (fun _ => False) := by
  refine Met.ofW (cc := cX5_thrownNext) (maxL := 2) (ret := (some .int)) (by decide) rfl ?_
  intro p e s m args below meth c s₁ B hml hv
  obtain ⟨rfl, hP, hK⟩ := hv
  have hx := B.exec
  have hb := B.bytes
  have hr := B.returns
  have hts := atoms_spec (ws := wsX5_thrownNext) B.pre
  have hown : s.vm.findClass RX5 = some m.cls := findClass_of_methodNamed B.named
  have hlocks := B.notSynchronized
  have hl := lv_entry [.ref (a 0)] (n := 2) (Nat.le_of_ble_eq_true rfl)
  rw [lg_entry_eq]
  generalize (lg_sl [.ref (a 0)] ++ List.replicate (2 - (lg_sl [.ref (a 0)]).length) Slot.unset).toArray = ls at hl ⊢
  have hl : lv_has ls 2 [(0, .ref (a 0))] := hl
  unfold f5_thrownNext at hf
  refine lv_aload_n hx hb dX5_thrownNext_0 rfl (lv_at hl 0 rfl) ?_
  obtain ⟨v1, ev1, hf⟩ := x_bind hf
  refine xc_ri (As := []) (rest := []) ⟨hx, hb, hml, hown, hts⟩ (c5_fitting l dC dI cs a x  _ ev1) (cwV 0 hts gX5_thrownNext_X5_fitting rfl rfl rfl cdX5_fitting ⟨Nat.le_of_ble_eq_true rfl, Nat.le_of_ble_eq_true rfl⟩) hK hP [0, 1, 2, 3, 4, 5, 6, 7] rfl 0 rfl rfl rfl hl.1 rfl (Nat.le_of_ble_eq_true rfl) dX5_thrownNext_1 ⟨Nat.zero_le _, Nat.zero_le _⟩ ?_
  refine lv_istore_n (lv' := [(1, .int (iI v1)), (0, .ref (a 0))]) hx hb dX5_thrownNext_4 rfl hl (by decide) rfl (fun ls hl => ?_)
  refine lv_iload_n hx hb dX5_thrownNext_5 rfl (lv_at hl 0 rfl) ?_
  refine xk_iconst hx hb dX5_thrownNext_6 ?_
  obtain ⟨c2a, c2b, c2t, c2f⟩ := x_eqE hf
  refine xk_icmp_ne (tgt := 18) hx hb c2a c2b dX5_thrownNext_7 (by decide) (fun c2 => ?_) (fun c2 => ?_)
  · have hf := c2t c2
    refine lv_aload_n hx hb dX5_thrownNext_10 rfl (lv_at hl 1 rfl) ?_
    refine xk_iconst hx hb dX5_thrownNext_11 ?_
    obtain ⟨v3, ev3, hf⟩ := x_bind hf
    refine xc_ri (As := [.int (iI (-1))]) (rest := []) ⟨hx, hb, hml, hown, hts⟩ (c5_leastInBoat l dC dI cs a x (-1)  _ ev3) (cwV 1 hts gX5_thrownNext_X5_leastInBoat rfl rfl rfl cdX5_leastInBoat ⟨Nat.le_of_ble_eq_true rfl, Nat.le_of_ble_eq_true rfl⟩) hK hP [0, 1, 2, 3, 4, 5, 6, 7] rfl 0 rfl rfl rfl hl.1 rfl (Nat.le_of_ble_eq_true rfl) dX5_thrownNext_12 ⟨Nat.zero_le _, Nat.zero_le _⟩ ?_
    refine lv_goto (tgt := 19) hx hb dX5_thrownNext_15 (by decide) ?_
    obtain rfl := Option.some.inj hf
    exact xe_ri hx hb hr hlocks dX5_thrownNext_19 rfl
  · have hf := c2f c2
    refine lv_iload_n hx hb dX5_thrownNext_18 rfl (lv_at hl 0 rfl) ?_
    obtain rfl := Option.some.inj hf
    exact xe_ri hx hb hr hlocks dX5_thrownNext_19 rfl
theorem cdX5_thrownNext : yX5_thrownNext.cls = RX5 ∧ yX5_thrownNext.cls ≠ "java/lang/invoke/MethodHandle" ∧ yX5_thrownNext.cls ≠ "java/lang/invoke/VarHandle" ∧ (parseMethodDescriptor yX5_thrownNext.desc).map (fun d => d.parameters.length) = some 0 := by decide +kernel

set_option maxHeartbeats 4000000 in
set_option maxRecDepth 100000 in
theorem c5_nextThrown (l : Launch) (dC : Nat → ClassId) (dI : Nat → Nat → Nat) (cs : Nat → ClassId) (a : Nat → Nat) (sz : Nat) (x : ModS) (res : Int × ModS) (hf : f5_nextThrown x = some res) : Met l yX5_nextThrown wsX5_nextThrown ({ frames := 5, cells := 0, slots := 0, locals := 109 } : Room) (va_Pc [.ref (a 0)] (xPW (dC, dI) vwCl (w5 cs a x) (xT cs) sz)) (xQi (dC, dI) vwCl (w5 cs a x) (w5 cs a res.2) sz res.1) 0 0 (va_A (w5 cs a x) sz) := by
  refine Met.ofW (cc := cX5_nextThrown) (maxL := 1) (ret := (some .int)) (by decide) rfl ?_
  intro p e s m args below meth c s₁ B hml hv
  obtain ⟨rfl, hsz, hP, hK, hD0⟩ := hv
  have hx := B.exec
  have hb := B.bytes
  have hr := B.returns
  have hts := atoms_spec (ws := wsX5_nextThrown) B.pre
  have hown : s.vm.findClass RX5 = some m.cls := findClass_of_methodNamed B.named
  have hlocks := B.notSynchronized
  have hin5 : ∀ w ∈ wsX50, w ∈ wsX5_nextThrown := by decide +kernel
  subst hsz
  have hD := hD0.self (sz := s.heap.size)
  have hA : ∀ z9 : Nat, s.heap.size ≤ z9 → va_A (w5 cs a x) s.heap.size z9 := fun z9 h => Or.inr h
  have hS : va_S (va_A (w5 cs a x) s.heap.size) s.heap s.heap [] := va_S.rf
  have hl := lv_entry [.ref (a 0)] (n := 1) (Nat.le_of_ble_eq_true rfl)
  rw [lg_entry_eq]
  generalize (lg_sl [.ref (a 0)] ++ List.replicate (1 - (lg_sl [.ref (a 0)]).length) Slot.unset).toArray = ls at hl ⊢
  have hl : lv_has ls 1 [(0, .ref (a 0))] := hl
  unfold f5_nextThrown at hf
  refine lv_aload_n hx hb dX5_nextThrown_0 rfl (lv_at hl 0 rfl) ?_
  refine xk_iconst hx hb dX5_nextThrown_1 ?_
  refine va_put (D := (dC, dI)) (ci := 5) (v := .int (iI 0)) (ty := .int) (C := RX5) (T := TX5) (N := 13) hx hb hts hin5 tyX5 tyX5_ok nmX5 hown hK hP (x_addr hD rfl) hS 0 rfl rfl 0 (by decide) (hts (.fieldLink RX5 1 "BoatRunsModel" "thrown" "I") (by decide +kernel)) (fun _ h9 => h9) rfl (by decide +kernel) rfl rfl (Nat.le_of_ble_eq_true rfl) dX5_nextThrown_2 (fun H locs hP _ hS => ?_)
  have hP : va_P (dC, dI) vwCl (w5C cs a 0 (g5_acts x) (g5_typ x) (g5_lat x) (g5_pos x) (g5_wra x) (g5_now x) (g5_put x) (g5_was x) (g5_txt x) (g5_lef x) (g5_abo x) (g5_ors x)) H := hP
  refine lv_aload_n hx hb dX5_nextThrown_5 rfl (lv_at hl 0 rfl) ?_
  obtain ⟨v1, ev1, hf⟩ := x_bind hf
  refine xc_ri (As := []) (rest := []) ⟨hx, hb, hml, hown, hts⟩ (c5_thrownNext l dC dI cs a (s5_thr x 0)  _ ev1) (cwV 0 hts gX5_nextThrown_X5_thrownNext rfl rfl rfl cdX5_thrownNext ⟨Nat.le_of_ble_eq_true rfl, Nat.le_of_ble_eq_true rfl⟩) hK hP [0, 1, 2, 3, 4, 5, 6, 7] rfl 0 rfl rfl rfl hl.1 rfl (Nat.le_of_ble_eq_true rfl) dX5_nextThrown_6 ⟨Nat.zero_le _, Nat.zero_le _⟩ ?_
  obtain rfl := Option.some.inj hf
  exact xe_wi hx hb hr hlocks hS hP dX5_nextThrown_9
theorem cdX5_nextThrown : yX5_nextThrown.cls = RX5 ∧ yX5_nextThrown.cls ≠ "java/lang/invoke/MethodHandle" ∧ yX5_nextThrown.cls ≠ "java/lang/invoke/VarHandle" ∧ (parseMethodDescriptor yX5_nextThrown.desc).map (fun d => d.parameters.length) = some 0 := by decide +kernel

set_option maxHeartbeats 4000000 in
set_option maxRecDepth 100000 in
theorem c5_runsIfEmptied (l : Launch) (dC : Nat → ClassId) (dI : Nat → Nat → Nat) (cs : Nat → ClassId) (a : Nat → Nat) (sz : Nat) (x : ModS) (res : Int × ModS) (hf : f5_runsIfEmptied x = some res) : Met l yX5_runsIfEmptied wsX5_runsIfEmptied ({ frames := 6, cells := 0, slots := 0, locals := 129 } : Room) (va_Pc [.ref (a 0)] (xPW (dC, dI) vwCl (w5 cs a x) (xT cs) sz)) (xQi (dC, dI) vwCl (w5 cs a x) (w5 cs a res.2) sz res.1) 0 0 (va_A (w5 cs a x) sz) := by
  refine Met.ofW (cc := cX5_runsIfEmptied) (maxL := 3) (ret := (some .int)) (by decide) rfl ?_
  intro p e s m args below meth c s₁ B hml hv
  obtain ⟨rfl, hsz, hP, hK, hD0⟩ := hv
  have hx := B.exec
  have hb := B.bytes
  have hr := B.returns
  have hts := atoms_spec (ws := wsX5_runsIfEmptied) B.pre
  have hown : s.vm.findClass RX5 = some m.cls := findClass_of_methodNamed B.named
  have hlocks := B.notSynchronized
  have hin5 : ∀ w ∈ wsX50, w ∈ wsX5_runsIfEmptied := by decide +kernel
  subst hsz
  have hD := hD0.self (sz := s.heap.size)
  have hA : ∀ z9 : Nat, s.heap.size ≤ z9 → va_A (w5 cs a x) s.heap.size z9 := fun z9 h => Or.inr h
  have hS : va_S (va_A (w5 cs a x) s.heap.size) s.heap s.heap [] := va_S.rf
  have hl := lv_entry [.ref (a 0)] (n := 3) (Nat.le_of_ble_eq_true rfl)
  rw [lg_entry_eq]
  generalize (lg_sl [.ref (a 0)] ++ List.replicate (3 - (lg_sl [.ref (a 0)]).length) Slot.unset).toArray = ls at hl ⊢
  have hl : lv_has ls 3 [(0, .ref (a 0))] := hl
  unfold f5_runsIfEmptied at hf
  refine lv_aload_n hx hb dX5_runsIfEmptied_0 rfl (lv_at hl 0 rfl) ?_
  refine xk_iconst hx hb dX5_runsIfEmptied_1 ?_
  refine va_put (D := (dC, dI)) (ci := 5) (v := .int (iI 0)) (ty := .int) (C := RX5) (T := TX5) (N := 13) hx hb hts hin5 tyX5 tyX5_ok nmX5 hown hK hP (x_addr hD rfl) hS 0 rfl rfl 0 (by decide) (hts (.fieldLink RX5 1 "BoatRunsModel" "thrown" "I") (by decide +kernel)) (fun _ h9 => h9) rfl (by decide +kernel) rfl rfl (Nat.le_of_ble_eq_true rfl) dX5_runsIfEmptied_2 (fun H locs hP _ hS => ?_)
  have hP : va_P (dC, dI) vwCl (w5C cs a 0 (g5_acts x) (g5_typ x) (g5_lat x) (g5_pos x) (g5_wra x) (g5_now x) (g5_put x) (g5_was x) (g5_txt x) (g5_lef x) (g5_abo x) (g5_ors x)) H := hP
  refine xk_iconst hx hb dX5_runsIfEmptied_5 ?_
  refine lv_istore_n (lv' := [(1, .int (iI 0)), (0, .ref (a 0))]) hx hb dX5_runsIfEmptied_6 rfl hl (by decide) rfl (fun ls hl => ?_)
  have hL7 : ∀ (n2 : Nat) (l1 : Int) (x1 : ModS), f5_runsIfEmptied_L7  n2 l1 x1 = some res → ∀ (H : Heap) (locs : List Loc), va_P (dC, dI) vwCl (w5 cs a x1) H → va_S (va_A (w5 cs a x) s.heap.size) s.heap H locs → ∀ (ls : Array Slot), lv_has ls 3 [(0, .ref (a 0)), (1, .int (iI l1))] → W p l e (headSpec wsX5_runsIfEmptied ({ frames := 6, cells := 0, slots := 0, locals := 129 } : Room)).room s m ([.ref (a 0)] : List Value).toArray below meth c H locs 0 0 (MQ below (xQi (dC, dI) vwCl (w5 cs a x) (w5 cs a res.2) s.heap.size res.1) ([.ref (a 0)] : List Value).toArray s 0 0 (va_A (w5 cs a x) s.heap.size)) (F0 m 7 ls []) := by
    intro  n2
    induction n2 with
    | zero => intro l1 x1 hf; have hf : (none : Option (Int × ModS)) = some res := hf; cases hf
    | succ n2 ih7 =>
      intro l1 x1 hf H locs hP hS ls hl
      rw [f5_runsIfEmptied_L7] at hf
      refine lv_iload_n hx hb dX5_runsIfEmptied_7 rfl (lv_at hl 1 rfl) ?_
      refine xk_sipush hx hb dX5_runsIfEmptied_8 (by decide) ?_
      obtain ⟨c3a, c3b, c3t, c3f⟩ := x_ltE hf
      refine xk_icmp_ge (tgt := 32) hx hb c3a c3b dX5_runsIfEmptied_11 (by decide) (fun c3 => ?_) (fun c3 => ?_)
      · have hf := c3t c3
        refine lv_aload_n hx hb dX5_runsIfEmptied_14 rfl (lv_at hl 0 rfl) ?_
        refine va_get (D := (dC, dI)) (ci := 5) (v := .ref (a 2)) (C := RX5) (T := TX5) (N := 13) hx hb hts hin5 hown hK hP 0 rfl rfl 2 (by decide) (hts (.fieldLink RX5 17 "BoatRunsModel" "put" "[I") (by decide +kernel)) (fun _ h9 => h9) rfl dX5_runsIfEmptied_15 ?_
        refine lv_iload_n hx hb dX5_runsIfEmptied_18 rfl (lv_at hl 1 rfl) ?_
        refine lv_aload_n hx hb dX5_runsIfEmptied_19 rfl (lv_at hl 0 rfl) ?_
        refine va_get (D := (dC, dI)) (ci := 5) (v := .ref (a 1)) (C := RX5) (T := TX5) (N := 13) hx hb hts hin5 hown hK hP 0 rfl rfl 1 (by decide) (hts (.fieldLink RX5 13 "BoatRunsModel" "now" "[I") (by decide +kernel)) (fun _ h9 => h9) rfl dX5_runsIfEmptied_20 ?_
        refine lv_iload_n hx hb dX5_runsIfEmptied_23 rfl (lv_at hl 1 rfl) ?_
        obtain ⟨v4, ev4, hf⟩ := x_bind hf
        refine xk_iald (f := g5_now x1) hx hb hK hP 1 0 ev4 (by decide) rfl rfl dX5_runsIfEmptied_24 ?_
        obtain ⟨g5, eg5, hf⟩ := x_bind hf
        refine xk_iast (f := g5_put x1) hx hb hK hP (x_addr hD rfl) hS 2 0 eg5 (by decide) rfl rfl dX5_runsIfEmptied_25 (fun H locs hP hS => ?_)
        have hP : va_P (dC, dI) vwCl (w5C cs a (g5_thr x1) (g5_acts x1) (g5_typ x1) (g5_lat x1) (g5_pos x1) (g5_wra x1) (g5_now x1) g5 (g5_was x1) (g5_txt x1) (g5_lef x1) (g5_abo x1) (g5_ors x1)) H := hP
        refine xk_iinc (lv' := [(1, .int (iI (l1 + 1))), (0, .ref (a 0))]) hx hb dX5_runsIfEmptied_26 hl (k := 1) rfl (by decide) rfl (fun ls hl => ?_)
        refine lv_goto (tgt := 7) hx hb dX5_runsIfEmptied_29 (by decide) ?_
        exact ih7 (l1 + 1) (s5_put x1 g5) hf _ _ hP hS ls (lv_sub hl [1, 0] rfl)
      · have hf := c3f c3
        refine lv_aload_n hx hb dX5_runsIfEmptied_32 rfl (lv_at hl 0 rfl) ?_
        obtain ⟨x6, ex6, hf⟩ := x_bind hf
        refine xc_wv (As := []) (rest := []) ⟨hx, hb, hml, hown, hts⟩ (c5_emptyAll l dC dI cs a _ x1  _ ex6) (cwV 0 hts gX5_runsIfEmptied_X5_emptyAll rfl rfl rfl cdX5_emptyAll ⟨Nat.le_of_ble_eq_true rfl, Nat.le_of_ble_eq_true rfl⟩) hK hP (x_addr hD rfl) hS hA [0, 1, 2, 3, 4, 5, 6, 7] rfl (by decide) rfl 0 rfl rfl rfl hl.1 rfl (Nat.le_of_ble_eq_true rfl) dX5_runsIfEmptied_33 ⟨Nat.zero_le _, Nat.zero_le _⟩ (fun H locs hP hS => ?_)
        have hP : va_P (dC, dI) vwCl (w5 cs a x6) H := hP
        refine lv_aload_n hx hb dX5_runsIfEmptied_36 rfl (lv_at hl 0 rfl) ?_
        refine va_get (D := (dC, dI)) (ci := 5) (v := .ref (a 1)) (C := RX5) (T := TX5) (N := 13) hx hb hts hin5 hown hK hP 0 rfl rfl 1 (by decide) (hts (.fieldLink RX5 13 "BoatRunsModel" "now" "[I") (by decide +kernel)) (fun _ h9 => h9) rfl dX5_runsIfEmptied_37 ?_
        refine xk_bipush hx hb dX5_runsIfEmptied_40 (by decide) ?_
        obtain ⟨v7, ev7, hf⟩ := x_bind hf
        refine xk_iald (f := g5_now x6) hx hb hK hP 1 0 ev7 (by decide) rfl rfl dX5_runsIfEmptied_42 ?_
        refine lv_istore_n (lv' := [(1, .int (iI v7)), (0, .ref (a 0))]) hx hb dX5_runsIfEmptied_43 rfl hl (by decide) rfl (fun ls hl => ?_)
        refine xk_iconst hx hb dX5_runsIfEmptied_44 ?_
        refine lv_istore_n (lv' := [(2, .int (iI 0)), (1, .int (iI v7)), (0, .ref (a 0))]) hx hb dX5_runsIfEmptied_45 rfl hl (by decide) rfl (fun ls hl => ?_)
        have hL46 : ∀ (n9 : Nat) (l2 : Int) (x8 : ModS), f5_runsIfEmptied_L46 v7 n9 l2 x8 = some res → ∀ (H : Heap) (locs : List Loc), va_P (dC, dI) vwCl (w5 cs a x8) H → va_S (va_A (w5 cs a x) s.heap.size) s.heap H locs → ∀ (ls : Array Slot), lv_has ls 3 [(0, .ref (a 0)), (1, .int (iI v7)), (2, .int (iI l2))] → W p l e (headSpec wsX5_runsIfEmptied ({ frames := 6, cells := 0, slots := 0, locals := 129 } : Room)).room s m ([.ref (a 0)] : List Value).toArray below meth c H locs 0 0 (MQ below (xQi (dC, dI) vwCl (w5 cs a x) (w5 cs a res.2) s.heap.size res.1) ([.ref (a 0)] : List Value).toArray s 0 0 (va_A (w5 cs a x) s.heap.size)) (F0 m 46 ls []) := by
          intro  n9
          induction n9 with
          | zero => intro l2 x8 hf; have hf : (none : Option (Int × ModS)) = some res := hf; cases hf
          | succ n9 ih46 =>
            intro l2 x8 hf H locs hP hS ls hl
            rw [f5_runsIfEmptied_L46] at hf
            refine lv_iload_n hx hb dX5_runsIfEmptied_46 rfl (lv_at hl 2 rfl) ?_
            refine xk_sipush hx hb dX5_runsIfEmptied_47 (by decide) ?_
            obtain ⟨c10a, c10b, c10t, c10f⟩ := x_ltE hf
            refine xk_icmp_ge (tgt := 71) hx hb c10a c10b dX5_runsIfEmptied_50 (by decide) (fun c10 => ?_) (fun c10 => ?_)
            · have hf := c10t c10
              refine lv_aload_n hx hb dX5_runsIfEmptied_53 rfl (lv_at hl 0 rfl) ?_
              refine va_get (D := (dC, dI)) (ci := 5) (v := .ref (a 1)) (C := RX5) (T := TX5) (N := 13) hx hb hts hin5 hown hK hP 0 rfl rfl 1 (by decide) (hts (.fieldLink RX5 13 "BoatRunsModel" "now" "[I") (by decide +kernel)) (fun _ h9 => h9) rfl dX5_runsIfEmptied_54 ?_
              refine lv_iload_n hx hb dX5_runsIfEmptied_57 rfl (lv_at hl 2 rfl) ?_
              refine lv_aload_n hx hb dX5_runsIfEmptied_58 rfl (lv_at hl 0 rfl) ?_
              refine va_get (D := (dC, dI)) (ci := 5) (v := .ref (a 2)) (C := RX5) (T := TX5) (N := 13) hx hb hts hin5 hown hK hP 0 rfl rfl 2 (by decide) (hts (.fieldLink RX5 17 "BoatRunsModel" "put" "[I") (by decide +kernel)) (fun _ h9 => h9) rfl dX5_runsIfEmptied_59 ?_
              refine lv_iload_n hx hb dX5_runsIfEmptied_62 rfl (lv_at hl 2 rfl) ?_
              obtain ⟨v11, ev11, hf⟩ := x_bind hf
              refine xk_iald (f := g5_put x8) hx hb hK hP 2 0 ev11 (by decide) rfl rfl dX5_runsIfEmptied_63 ?_
              obtain ⟨g12, eg12, hf⟩ := x_bind hf
              refine xk_iast (f := g5_now x8) hx hb hK hP (x_addr hD rfl) hS 1 0 eg12 (by decide) rfl rfl dX5_runsIfEmptied_64 (fun H locs hP hS => ?_)
              have hP : va_P (dC, dI) vwCl (w5C cs a (g5_thr x8) (g5_acts x8) (g5_typ x8) (g5_lat x8) (g5_pos x8) (g5_wra x8) g12 (g5_put x8) (g5_was x8) (g5_txt x8) (g5_lef x8) (g5_abo x8) (g5_ors x8)) H := hP
              refine xk_iinc (lv' := [(2, .int (iI (l2 + 1))), (0, .ref (a 0)), (1, .int (iI v7))]) hx hb dX5_runsIfEmptied_65 hl (k := 2) rfl (by decide) rfl (fun ls hl => ?_)
              refine lv_goto (tgt := 46) hx hb dX5_runsIfEmptied_68 (by decide) ?_
              exact ih46 (l2 + 1) (s5_now x8 g12) hf _ _ hP hS ls (lv_sub hl [1, 2, 0] rfl)
            · have hf := c10f c10
              refine lv_iload_n hx hb dX5_runsIfEmptied_71 rfl (lv_at hl 1 rfl) ?_
              obtain rfl := Option.some.inj hf
              exact xe_wi hx hb hr hlocks hS hP dX5_runsIfEmptied_72
        exact hL46  xFU 0 x6 hf _ _ hP hS ls (lv_sub hl [2, 1, 0] rfl)
  exact hL7  xFU 0 (s5_thr x 0) hf _ _ hP hS ls (lv_sub hl [1, 0] rfl)
theorem cdX5_runsIfEmptied : yX5_runsIfEmptied.cls = RX5 ∧ yX5_runsIfEmptied.cls ≠ "java/lang/invoke/MethodHandle" ∧ yX5_runsIfEmptied.cls ≠ "java/lang/invoke/VarHandle" ∧ (parseMethodDescriptor yX5_runsIfEmptied.desc).map (fun d => d.parameters.length) = some 0 := by decide +kernel

set_option maxHeartbeats 4000000 in
set_option maxRecDepth 100000 in
theorem c5_lightestLeft (l : Launch) (dC : Nat → ClassId) (dI : Nat → Nat → Nat) (cs : Nat → ClassId) (a : Nat → Nat) (x : ModS) (p0 : Int) (res : Int) (hf : f5_lightestLeft x p0 = some res) : Met l yX5_lightestLeft wsX5_lightestLeft ({ frames := 0, cells := 0, slots := 0, locals := 0 } : Room) (va_Pc [.ref (a 0), .int (iI p0)] (xPR (dC, dI) vwCl (w5 cs a x) (xT cs))) (vp_Si (fun r => r = iI res)) 0 0 (fun _ => False) := by
  refine Met.ofW (cc := cX5_lightestLeft) (maxL := 4) (ret := (some .int)) (by decide) rfl ?_
  intro p e s m args below meth c s₁ B hml hv
  obtain ⟨rfl, hP, hK⟩ := hv
  have hx := B.exec
  have hb := B.bytes
  have hr := B.returns
  have hts := atoms_spec (ws := wsX5_lightestLeft) B.pre
  have hown : s.vm.findClass RX5 = some m.cls := findClass_of_methodNamed B.named
  have hlocks := B.notSynchronized
  have hin5 : ∀ w ∈ wsX50, w ∈ wsX5_lightestLeft := by decide +kernel
  have hl := lv_entry [.ref (a 0), .int (iI p0)] (n := 4) (Nat.le_of_ble_eq_true rfl)
  rw [lg_entry_eq]
  generalize (lg_sl [.ref (a 0), .int (iI p0)] ++ List.replicate (4 - (lg_sl [.ref (a 0), .int (iI p0)]).length) Slot.unset).toArray = ls at hl ⊢
  have hl : lv_has ls 4 [(0, .ref (a 0)), (1, .int (iI p0))] := hl
  unfold f5_lightestLeft at hf
  refine xk_iconst hx hb dX5_lightestLeft_0 ?_
  refine lv_istore_n (lv' := [(2, .int (iI (-1))), (0, .ref (a 0)), (1, .int (iI p0))]) hx hb dX5_lightestLeft_1 rfl hl (by decide) rfl (fun ls hl => ?_)
  refine xk_iconst hx hb dX5_lightestLeft_2 ?_
  refine lv_istore_n (lv' := [(3, .int (iI 0)), (2, .int (iI (-1))), (0, .ref (a 0)), (1, .int (iI p0))]) hx hb dX5_lightestLeft_3 rfl hl (by decide) rfl (fun ls hl => ?_)
  have hL4 : ∀ (n1 : Nat) (l2 : Int) (l3 : Int), f5_lightestLeft_L4 x p0 n1 l2 l3 = some res → ∀ (ls : Array Slot), lv_has ls 4 [(0, .ref (a 0)), (1, .int (iI p0)), (2, .int (iI l2)), (3, .int (iI l3))] → W p l e (headSpec wsX5_lightestLeft ({ frames := 0, cells := 0, slots := 0, locals := 0 } : Room)).room s m ([.ref (a 0), .int (iI p0)] : List Value).toArray below meth c s.heap [] 0 0 (MQ below (vp_Si (fun r => r = iI res)) ([.ref (a 0), .int (iI p0)] : List Value).toArray s 0 0 (fun _ => False)) (F0 m 4 ls []) := by
    intro  n1
    induction n1 with
    | zero => intro l2 l3 hf; have hf : (none : Option (Int)) = some res := hf; cases hf
    | succ n1 ih4 =>
      intro l2 l3 hf ls hl
      rw [f5_lightestLeft_L4] at hf
      refine lv_iload_n hx hb dX5_lightestLeft_4 rfl (lv_at hl 3 rfl) ?_
      refine lv_aload_n hx hb dX5_lightestLeft_5 rfl (lv_at hl 0 rfl) ?_
      refine va_get (D := (dC, dI)) (ci := 5) (v := .ref (a 1)) (C := RX5) (T := TX5) (N := 13) hx hb hts hin5 hown hK hP 0 rfl rfl 1 (by decide) (hts (.fieldLink RX5 13 "BoatRunsModel" "now" "[I") (by decide +kernel)) (fun _ h9 => h9) rfl dX5_lightestLeft_6 ?_
      refine xk_bipush hx hb dX5_lightestLeft_9 (by decide) ?_
      obtain ⟨v2, ev2, hf⟩ := x_bind hf
      refine xk_iald (f := g5_now x) hx hb hK hP 1 0 ev2 (by decide) rfl rfl dX5_lightestLeft_11 ?_
      obtain ⟨c3a, c3b, c3t, c3f⟩ := x_ltE hf
      refine xk_icmp_ge (tgt := 62) hx hb c3a c3b dX5_lightestLeft_12 (by decide) (fun c3 => ?_) (fun c3 => ?_)
      · have hf := c3t c3
        refine lv_iload_n hx hb dX5_lightestLeft_15 rfl (lv_at hl 3 rfl) ?_
        refine lv_iload_n hx hb dX5_lightestLeft_16 rfl (lv_at hl 1 rfl) ?_
        obtain ⟨c4a, c4b, c4t, c4f⟩ := x_eqE hf
        refine xk_icmp_eq (tgt := 54) hx hb c4a c4b dX5_lightestLeft_17 (by decide) (fun c4 => ?_) (fun c4 => ?_)
        · have hf := c4t c4
          refine lv_iload_n hx hb dX5_lightestLeft_54 rfl (lv_at hl 2 rfl) ?_
          refine lv_istore_n (lv' := [(2, .int (iI l2)), (0, .ref (a 0)), (1, .int (iI p0)), (3, .int (iI l3))]) hx hb dX5_lightestLeft_55 rfl hl (by decide) rfl (fun ls hl => ?_)
          refine xk_iinc (lv' := [(3, .int (iI (l3 + 1))), (2, .int (iI l2)), (0, .ref (a 0)), (1, .int (iI p0))]) hx hb dX5_lightestLeft_56 hl (k := 3) rfl (by decide) rfl (fun ls hl => ?_)
          refine lv_goto (tgt := 4) hx hb dX5_lightestLeft_59 (by decide) ?_
          exact ih4 l2 (l3 + 1) hf ls (lv_sub hl [2, 3, 1, 0] rfl)
        · have hf := c4f c4
          refine lv_aload_n hx hb dX5_lightestLeft_20 rfl (lv_at hl 0 rfl) ?_
          refine va_get (D := (dC, dI)) (ci := 5) (v := .ref (a 5)) (C := RX5) (T := TX5) (N := 13) hx hb hts hin5 hown hK hP 0 rfl rfl 7 (by decide) (hts (.fieldLink RX5 26 "BoatRunsModel" "left" "[I") (by decide +kernel)) (fun _ h9 => h9) rfl dX5_lightestLeft_21 ?_
          refine lv_iload_n hx hb dX5_lightestLeft_24 rfl (lv_at hl 3 rfl) ?_
          obtain ⟨v5, ev5, hf⟩ := x_bind hf
          refine xk_iald (f := g5_lef x) hx hb hK hP 5 0 ev5 (by decide) rfl rfl dX5_lightestLeft_25 ?_
          refine xk_iconst hx hb dX5_lightestLeft_26 ?_
          obtain ⟨c6a, c6b, c6t, c6f⟩ := x_eqE hf
          refine xk_icmp_eq (tgt := 54) hx hb c6a c6b dX5_lightestLeft_27 (by decide) (fun c6 => ?_) (fun c6 => ?_)
          · have hf := c6t c6
            refine lv_iload_n hx hb dX5_lightestLeft_54 rfl (lv_at hl 2 rfl) ?_
            refine lv_istore_n (lv' := [(2, .int (iI l2)), (0, .ref (a 0)), (1, .int (iI p0)), (3, .int (iI l3))]) hx hb dX5_lightestLeft_55 rfl hl (by decide) rfl (fun ls hl => ?_)
            refine xk_iinc (lv' := [(3, .int (iI (l3 + 1))), (2, .int (iI l2)), (0, .ref (a 0)), (1, .int (iI p0))]) hx hb dX5_lightestLeft_56 hl (k := 3) rfl (by decide) rfl (fun ls hl => ?_)
            refine lv_goto (tgt := 4) hx hb dX5_lightestLeft_59 (by decide) ?_
            exact ih4 l2 (l3 + 1) hf ls (lv_sub hl [2, 3, 1, 0] rfl)
          · have hf := c6f c6
            refine lv_iload_n hx hb dX5_lightestLeft_30 rfl (lv_at hl 2 rfl) ?_
            refine xk_iconst hx hb dX5_lightestLeft_31 ?_
            obtain ⟨c7a, c7b, c7t, c7f⟩ := x_eqE hf
            refine xk_icmp_eq (tgt := 50) hx hb c7a c7b dX5_lightestLeft_32 (by decide) (fun c7 => ?_) (fun c7 => ?_)
            · have hf := c7t c7
              refine lv_iload_n hx hb dX5_lightestLeft_50 rfl (lv_at hl 3 rfl) ?_
              refine lv_goto (tgt := 55) hx hb dX5_lightestLeft_51 (by decide) ?_
              refine lv_istore_n (lv' := [(2, .int (iI l3)), (0, .ref (a 0)), (1, .int (iI p0)), (3, .int (iI l3))]) hx hb dX5_lightestLeft_55 rfl hl (by decide) rfl (fun ls hl => ?_)
              refine xk_iinc (lv' := [(3, .int (iI (l3 + 1))), (2, .int (iI l3)), (0, .ref (a 0)), (1, .int (iI p0))]) hx hb dX5_lightestLeft_56 hl (k := 3) rfl (by decide) rfl (fun ls hl => ?_)
              refine lv_goto (tgt := 4) hx hb dX5_lightestLeft_59 (by decide) ?_
              exact ih4 l3 (l3 + 1) hf ls (lv_sub hl [2, 3, 1, 0] rfl)
            · have hf := c7f c7
              refine lv_aload_n hx hb dX5_lightestLeft_35 rfl (lv_at hl 0 rfl) ?_
              refine va_get (D := (dC, dI)) (ci := 5) (v := .ref (a 5)) (C := RX5) (T := TX5) (N := 13) hx hb hts hin5 hown hK hP 0 rfl rfl 7 (by decide) (hts (.fieldLink RX5 26 "BoatRunsModel" "left" "[I") (by decide +kernel)) (fun _ h9 => h9) rfl dX5_lightestLeft_36 ?_
              refine lv_iload_n hx hb dX5_lightestLeft_39 rfl (lv_at hl 3 rfl) ?_
              obtain ⟨v8, ev8, hf⟩ := x_bind hf
              refine xk_iald (f := g5_lef x) hx hb hK hP 5 0 ev8 (by decide) rfl rfl dX5_lightestLeft_40 ?_
              refine lv_aload_n hx hb dX5_lightestLeft_41 rfl (lv_at hl 0 rfl) ?_
              refine va_get (D := (dC, dI)) (ci := 5) (v := .ref (a 5)) (C := RX5) (T := TX5) (N := 13) hx hb hts hin5 hown hK hP 0 rfl rfl 7 (by decide) (hts (.fieldLink RX5 26 "BoatRunsModel" "left" "[I") (by decide +kernel)) (fun _ h9 => h9) rfl dX5_lightestLeft_42 ?_
              refine lv_iload_n hx hb dX5_lightestLeft_45 rfl (lv_at hl 2 rfl) ?_
              obtain ⟨v9, ev9, hf⟩ := x_bind hf
              refine xk_iald (f := g5_lef x) hx hb hK hP 5 0 ev9 (by decide) rfl rfl dX5_lightestLeft_46 ?_
              obtain ⟨c10a, c10b, c10t, c10f⟩ := x_ltE hf
              refine xk_icmp_ge (tgt := 54) hx hb c10a c10b dX5_lightestLeft_47 (by decide) (fun c10 => ?_) (fun c10 => ?_)
              · have hf := c10t c10
                refine lv_iload_n hx hb dX5_lightestLeft_50 rfl (lv_at hl 3 rfl) ?_
                refine lv_goto (tgt := 55) hx hb dX5_lightestLeft_51 (by decide) ?_
                refine lv_istore_n (lv' := [(2, .int (iI l3)), (0, .ref (a 0)), (1, .int (iI p0)), (3, .int (iI l3))]) hx hb dX5_lightestLeft_55 rfl hl (by decide) rfl (fun ls hl => ?_)
                refine xk_iinc (lv' := [(3, .int (iI (l3 + 1))), (2, .int (iI l3)), (0, .ref (a 0)), (1, .int (iI p0))]) hx hb dX5_lightestLeft_56 hl (k := 3) rfl (by decide) rfl (fun ls hl => ?_)
                refine lv_goto (tgt := 4) hx hb dX5_lightestLeft_59 (by decide) ?_
                exact ih4 l3 (l3 + 1) hf ls (lv_sub hl [2, 3, 1, 0] rfl)
              · have hf := c10f c10
                refine lv_iload_n hx hb dX5_lightestLeft_54 rfl (lv_at hl 2 rfl) ?_
                refine lv_istore_n (lv' := [(2, .int (iI l2)), (0, .ref (a 0)), (1, .int (iI p0)), (3, .int (iI l3))]) hx hb dX5_lightestLeft_55 rfl hl (by decide) rfl (fun ls hl => ?_)
                refine xk_iinc (lv' := [(3, .int (iI (l3 + 1))), (2, .int (iI l2)), (0, .ref (a 0)), (1, .int (iI p0))]) hx hb dX5_lightestLeft_56 hl (k := 3) rfl (by decide) rfl (fun ls hl => ?_)
                refine lv_goto (tgt := 4) hx hb dX5_lightestLeft_59 (by decide) ?_
                exact ih4 l2 (l3 + 1) hf ls (lv_sub hl [2, 3, 1, 0] rfl)
      · have hf := c3f c3
        refine lv_iload_n hx hb dX5_lightestLeft_62 rfl (lv_at hl 2 rfl) ?_
        obtain rfl := Option.some.inj hf
        exact xe_ri hx hb hr hlocks dX5_lightestLeft_63 rfl
  exact hL4  xFU (-1) 0 hf ls (lv_sub hl [2, 3, 1, 0] rfl)
theorem cdX5_lightestLeft : yX5_lightestLeft.cls = RX5 ∧ yX5_lightestLeft.cls ≠ "java/lang/invoke/MethodHandle" ∧ yX5_lightestLeft.cls ≠ "java/lang/invoke/VarHandle" ∧ (parseMethodDescriptor yX5_lightestLeft.desc).map (fun d => d.parameters.length) = some 1 := by decide +kernel

set_option maxHeartbeats 4000000 in
set_option maxRecDepth 100000 in
theorem c5_isDone (l : Launch) (dC : Nat → ClassId) (dI : Nat → Nat → Nat) (cs : Nat → ClassId) (a : Nat → Nat) (sz : Nat) (x : ModS) (p0 : Int) (res : Int × ModS) (hf : f5_isDone x p0 = some res) : Met l yX5_isDone wsX5_isDone ({ frames := 6, cells := 0, slots := 0, locals := 133 } : Room) (va_Pc [.ref (a 0), .int (iI p0)] (xPW (dC, dI) vwCl (w5 cs a x) (xT cs) sz)) (xQi (dC, dI) vwCl (w5 cs a x) (w5 cs a res.2) sz res.1) 0 0 (va_A (w5 cs a x) sz) := by
  refine Met.ofW (cc := cX5_isDone) (maxL := 4) (ret := (some .boolean)) (by decide) rfl ?_
  intro p e s m args below meth c s₁ B hml hv
  obtain ⟨rfl, hsz, hP, hK, hD0⟩ := hv
  have hx := B.exec
  have hb := B.bytes
  have hr := B.returns
  have hts := atoms_spec (ws := wsX5_isDone) B.pre
  have hown : s.vm.findClass RX5 = some m.cls := findClass_of_methodNamed B.named
  have hlocks := B.notSynchronized
  have hin5 : ∀ w ∈ wsX50, w ∈ wsX5_isDone := by decide +kernel
  subst hsz
  have hD := hD0.self (sz := s.heap.size)
  have hA : ∀ z9 : Nat, s.heap.size ≤ z9 → va_A (w5 cs a x) s.heap.size z9 := fun z9 h => Or.inr h
  have hS : va_S (va_A (w5 cs a x) s.heap.size) s.heap s.heap [] := va_S.rf
  have hl := lv_entry [.ref (a 0), .int (iI p0)] (n := 4) (Nat.le_of_ble_eq_true rfl)
  rw [lg_entry_eq]
  generalize (lg_sl [.ref (a 0), .int (iI p0)] ++ List.replicate (4 - (lg_sl [.ref (a 0), .int (iI p0)]).length) Slot.unset).toArray = ls at hl ⊢
  have hl : lv_has ls 4 [(0, .ref (a 0)), (1, .int (iI p0))] := hl
  unfold f5_isDone at hf
  refine lv_aload_n hx hb dX5_isDone_0 rfl (lv_at hl 0 rfl) ?_
  refine va_get (D := (dC, dI)) (ci := 5) (v := .ref (a 7)) (C := RX5) (T := TX5) (N := 13) hx hb hts hin5 hown hK hP 0 rfl rfl 12 (by decide) (hts (.fieldLink RX5 33 "BoatRunsModel" "orders" "[I") (by decide +kernel)) (fun _ h9 => h9) rfl dX5_isDone_1 ?_
  refine xk_iconst hx hb dX5_isDone_4 ?_
  refine lv_iload_n hx hb dX5_isDone_5 rfl (lv_at hl 1 rfl) ?_
  refine xk_imul hx hb dX5_isDone_6 ?_
  refine xk_iconst hx hb dX5_isDone_7 ?_
  refine xk_iadd hx hb dX5_isDone_8 ?_
  obtain ⟨v1, ev1, hf⟩ := x_bind hf
  refine xk_iald (f := g5_ors x) hx hb hK hP 7 0 ev1 (by decide) rfl rfl dX5_isDone_9 ?_
  refine lv_istore_n (lv' := [(2, .int (iI v1)), (0, .ref (a 0)), (1, .int (iI p0))]) hx hb dX5_isDone_10 rfl hl (by decide) rfl (fun ls hl => ?_)
  refine lv_aload_n hx hb dX5_isDone_11 rfl (lv_at hl 1 rfl) ?_
  refine va_get (D := (dC, dI)) (ci := 5) (v := .ref (a 7)) (C := RX5) (T := TX5) (N := 13) hx hb hts hin5 hown hK hP 0 rfl rfl 12 (by decide) (hts (.fieldLink RX5 33 "BoatRunsModel" "orders" "[I") (by decide +kernel)) (fun _ h9 => h9) rfl dX5_isDone_12 ?_
  refine xk_iconst hx hb dX5_isDone_15 ?_
  refine lv_iload_n hx hb dX5_isDone_16 rfl (lv_at hl 2 rfl) ?_
  refine xk_imul hx hb dX5_isDone_17 ?_
  refine xk_iconst hx hb dX5_isDone_18 ?_
  refine xk_iadd hx hb dX5_isDone_19 ?_
  obtain ⟨v2, ev2, hf⟩ := x_bind hf
  refine xk_iald (f := g5_ors x) hx hb hK hP 7 0 ev2 (by decide) rfl rfl dX5_isDone_20 ?_
  refine lv_istore_n (lv' := [(3, .int (iI v2)), (2, .int (iI v1)), (0, .ref (a 0)), (1, .int (iI p0))]) hx hb dX5_isDone_21 rfl hl (by decide) rfl (fun ls hl => ?_)
  refine lv_aload_n hx hb dX5_isDone_22 rfl (lv_at hl 2 rfl) ?_
  refine va_get (D := (dC, dI)) (ci := 5) (v := .ref (a 7)) (C := RX5) (T := TX5) (N := 13) hx hb hts hin5 hown hK hP 0 rfl rfl 12 (by decide) (hts (.fieldLink RX5 33 "BoatRunsModel" "orders" "[I") (by decide +kernel)) (fun _ h9 => h9) rfl dX5_isDone_23 ?_
  refine xk_iconst hx hb dX5_isDone_26 ?_
  refine lv_iload_n hx hb dX5_isDone_27 rfl (lv_at hl 3 rfl) ?_
  refine xk_imul hx hb dX5_isDone_28 ?_
  obtain ⟨v3, ev3, hf⟩ := x_bind hf
  refine xk_iald (f := g5_ors x) hx hb hK hP 7 0 ev3 (by decide) rfl rfl dX5_isDone_29 ?_
  obtain ⟨c4a, c4b, c4t, c4f⟩ := x_eqE hf
  by_cases c4 : v3 = 101
  · have hf := c4t c4
    refine xk_look (tgt := 94) hx hb c4a c4 dX5_isDone_30 (by decide) rfl (by decide) ?_
    refine lv_aload_n hx hb dX5_isDone_94 rfl (lv_at hl 2 rfl) ?_
    obtain ⟨x5, ex5, hf⟩ := x_bind hf
    refine xc_wv (As := []) (rest := []) ⟨hx, hb, hml, hown, hts⟩ (c5_emptyAll l dC dI cs a _ x  _ ex5) (cwV 0 hts gX5_isDone_X5_emptyAll rfl rfl rfl cdX5_emptyAll ⟨Nat.le_of_ble_eq_true rfl, Nat.le_of_ble_eq_true rfl⟩) hK hP (x_addr hD rfl) hS hA [0, 1, 2, 3, 4, 5, 6, 7] rfl (by decide) rfl 0 rfl rfl rfl hl.1 rfl (Nat.le_of_ble_eq_true rfl) dX5_isDone_95 ⟨Nat.zero_le _, Nat.zero_le _⟩ (fun H locs hP hS => ?_)
    have hP : va_P (dC, dI) vwCl (w5 cs a x5) H := hP
    refine xk_iconst hx hb dX5_isDone_98 ?_
    obtain rfl := Option.some.inj hf
    exact xe_wz hx hb hr (Or.inr rfl) hlocks hS hP dX5_isDone_99
  · have hf := c4f c4
    obtain ⟨c6a, c6b, c6t, c6f⟩ := x_eqE hf
    by_cases c6 : v3 = 108
    · have hf := c6t c6
      refine xk_look (tgt := 100) hx hb c6a c6 dX5_isDone_30 (by decide) rfl (by decide) ?_
      refine lv_aload_n hx hb dX5_isDone_100 rfl (lv_at hl 2 rfl) ?_
      refine va_get (D := (dC, dI)) (ci := 5) (v := .ref (a 1)) (C := RX5) (T := TX5) (N := 13) hx hb hts hin5 hown hK hP 0 rfl rfl 1 (by decide) (hts (.fieldLink RX5 13 "BoatRunsModel" "now" "[I") (by decide +kernel)) (fun _ h9 => h9) rfl dX5_isDone_101 ?_
      refine xk_bipush hx hb dX5_isDone_104 (by decide) ?_
      obtain ⟨v7, ev7, hf⟩ := x_bind hf
      refine xk_iald (f := g5_now x) hx hb hK hP 1 0 ev7 (by decide) rfl rfl dX5_isDone_106 ?_
      refine xk_iconst hx hb dX5_isDone_107 ?_
      obtain ⟨c8a, c8b, c8t, c8f⟩ := x_ltE hf
      refine xk_icmp_le (tgt := 122) hx hb c8b c8a dX5_isDone_108 (by decide) (fun c8 => ?_) (fun c8 => ?_)
      · have hf := c8t c8
        refine lv_aload_n hx hb dX5_isDone_111 rfl (lv_at hl 2 rfl) ?_
        obtain ⟨⟨v10, x9⟩, ex9, hf⟩ := x_bind hf
        refine xc_wi (As := []) (rest := []) ⟨hx, hb, hml, hown, hts⟩ (c5_mergeLight l dC dI cs a _ x  _ ex9) (cwV 0 hts gX5_isDone_X5_mergeLight rfl rfl rfl cdX5_mergeLight ⟨Nat.le_of_ble_eq_true rfl, Nat.le_of_ble_eq_true rfl⟩) hK hP (x_addr hD rfl) hS hA [0, 1, 2, 3, 4, 5, 6, 7] rfl (by decide) rfl 0 rfl rfl rfl hl.1 rfl (Nat.le_of_ble_eq_true rfl) dX5_isDone_112 ⟨Nat.zero_le _, Nat.zero_le _⟩ (fun H locs hP hS => ?_)
        have hP : va_P (dC, dI) vwCl (w5 cs a x9) H := hP
        obtain ⟨c12a, c12b, c12t, c12f⟩ := x_ltE hf
        refine xk_if_lt (tgt := 122) hx hb c12a dX5_isDone_115 (by decide) (fun c12 => ?_) (fun c12 => ?_)
        · have hf := c12t c12
          refine xk_iconst hx hb dX5_isDone_122 ?_
          obtain rfl := Option.some.inj hf
          exact xe_wz hx hb hr (Or.inl rfl) hlocks hS hP dX5_isDone_123
        · have hf := c12f c12
          refine xk_iconst hx hb dX5_isDone_118 ?_
          refine lv_goto (tgt := 123) hx hb dX5_isDone_119 (by decide) ?_
          obtain rfl := Option.some.inj hf
          exact xe_wz hx hb hr (Or.inr rfl) hlocks hS hP dX5_isDone_123
      · have hf := c8f c8
        refine xk_iconst hx hb dX5_isDone_122 ?_
        obtain rfl := Option.some.inj hf
        exact xe_wz hx hb hr (Or.inl rfl) hlocks hS hP dX5_isDone_123
    · have hf := c6f c6
      obtain ⟨c13a, c13b, c13t, c13f⟩ := x_eqE hf
      by_cases c13 : v3 = 112
      · have hf := c13t c13
        refine xk_look (tgt := 72) hx hb c13a c13 dX5_isDone_30 (by decide) rfl (by decide) ?_
        refine lv_aload_n hx hb dX5_isDone_72 rfl (lv_at hl 2 rfl) ?_
        refine va_get (D := (dC, dI)) (ci := 5) (v := .ref (a 1)) (C := RX5) (T := TX5) (N := 13) hx hb hts hin5 hown hK hP 0 rfl rfl 1 (by decide) (hts (.fieldLink RX5 13 "BoatRunsModel" "now" "[I") (by decide +kernel)) (fun _ h9 => h9) rfl dX5_isDone_73 ?_
        refine xk_iconst hx hb dX5_isDone_76 ?_
        obtain ⟨v14, ev14, hf⟩ := x_bind hf
        refine xk_iald (f := g5_now x) hx hb hK hP 1 0 ev14 (by decide) rfl rfl dX5_isDone_77 ?_
        refine xk_bipush hx hb dX5_isDone_78 (by decide) ?_
        obtain ⟨c15a, c15b, c15t, c15f⟩ := x_eqE hf
        refine xk_icmp_ne (tgt := 85) hx hb c15a c15b dX5_isDone_80 (by decide) (fun c15 => ?_) (fun c15 => ?_)
        · have hf := c15t c15
          refine xk_iconst hx hb dX5_isDone_83 ?_
          obtain rfl := Option.some.inj hf
          exact xe_wz hx hb hr (Or.inl rfl) hlocks hS hP dX5_isDone_84
        · have hf := c15f c15
          refine lv_aload_n hx hb dX5_isDone_85 rfl (lv_at hl 2 rfl) ?_
          refine lv_iload_n hx hb dX5_isDone_86 rfl (lv_at hl 1 rfl) ?_
          refine lv_iload_n hx hb dX5_isDone_87 rfl (lv_at hl 0 rfl) ?_
          obtain ⟨⟨v17, x16⟩, ex16, hf⟩ := x_bind hf
          refine xc_wi (As := [.int (iI v1), .int (iI v2)]) (rest := []) ⟨hx, hb, hml, hown, hts⟩ (c5_loadOne l dC dI cs a _ x v1 v2  _ ex16) (cwV 2 hts gX5_isDone_X5_loadOne rfl rfl rfl cdX5_loadOne ⟨Nat.le_of_ble_eq_true rfl, Nat.le_of_ble_eq_true rfl⟩) hK hP (x_addr hD rfl) hS hA [0, 1, 2, 3, 4, 5, 6, 7] rfl (by decide) rfl 0 rfl rfl rfl hl.1 rfl (Nat.le_of_ble_eq_true rfl) dX5_isDone_88 ⟨Nat.zero_le _, Nat.zero_le _⟩ (fun H locs hP hS => ?_)
          have hP : va_P (dC, dI) vwCl (w5 cs a x16) H := hP
          refine lv_pop hx hb dX5_isDone_91 rfl ?_
          refine xk_iconst hx hb dX5_isDone_92 ?_
          obtain rfl := Option.some.inj hf
          exact xe_wz hx hb hr (Or.inr rfl) hlocks hS hP dX5_isDone_93
      · have hf := c13f c13
        obtain ⟨c19a, c19b, c19t, c19f⟩ := x_eqE hf
        by_cases c19 : v3 = 115
        · have hf := c19t c19
          refine xk_look (tgt := 124) hx hb c19a c19 dX5_isDone_30 (by decide) rfl (by decide) ?_
          refine lv_aload_n hx hb dX5_isDone_124 rfl (lv_at hl 2 rfl) ?_
          refine lv_iload_n hx hb dX5_isDone_125 rfl (lv_at hl 1 rfl) ?_
          obtain ⟨⟨v21, x20⟩, ex20, hf⟩ := x_bind hf
          refine xc_wi (As := [.int (iI v1)]) (rest := []) ⟨hx, hb, hml, hown, hts⟩ (c5_stormBy l dC dI cs a _ x v1  _ ex20) (cwV 1 hts gX5_isDone_X5_stormBy rfl rfl rfl cdX5_stormBy ⟨Nat.le_of_ble_eq_true rfl, Nat.le_of_ble_eq_true rfl⟩) hK hP (x_addr hD rfl) hS hA [0, 1, 2, 3, 4, 5, 6, 7] rfl (by decide) rfl 0 rfl rfl rfl hl.1 rfl (Nat.le_of_ble_eq_true rfl) dX5_isDone_126 ⟨Nat.zero_le _, Nat.zero_le _⟩ (fun H locs hP hS => ?_)
          have hP : va_P (dC, dI) vwCl (w5 cs a x20) H := hP
          obtain ⟨c23a, c23b, c23t, c23f⟩ := x_ltE hf
          refine xk_if_lt (tgt := 136) hx hb c23a dX5_isDone_129 (by decide) (fun c23 => ?_) (fun c23 => ?_)
          · have hf := c23t c23
            refine xk_iconst hx hb dX5_isDone_136 ?_
            obtain rfl := Option.some.inj hf
            exact xe_wz hx hb hr (Or.inl rfl) hlocks hS hP dX5_isDone_137
          · have hf := c23f c23
            refine xk_iconst hx hb dX5_isDone_132 ?_
            refine lv_goto (tgt := 137) hx hb dX5_isDone_133 (by decide) ?_
            obtain rfl := Option.some.inj hf
            exact xe_wz hx hb hr (Or.inr rfl) hlocks hS hP dX5_isDone_137
        · have hf := c19f c19
          refine xk_lookOut (tgt := 138) hx hb c19a dX5_isDone_30 (by decide) (by intro q hq; simp at hq; rcases hq with rfl | rfl | rfl | rfl <;> dsimp only <;> omega) (by decide) ?_
          refine lv_aload_n hx hb dX5_isDone_138 rfl (lv_at hl 2 rfl) ?_
          refine lv_iload_n hx hb dX5_isDone_139 rfl (lv_at hl 1 rfl) ?_
          refine lv_iload_n hx hb dX5_isDone_140 rfl (lv_at hl 0 rfl) ?_
          obtain ⟨v24, ev24, hf⟩ := x_bind hf
          refine xc_ri (As := [.int (iI v1), .int (iI v2)]) (rest := []) ⟨hx, hb, hml, hown, hts⟩ (c5_whyNoMerge l dC dI cs a x v1 v2  _ ev24) (cwV 2 hts gX5_isDone_X5_whyNoMerge rfl rfl rfl cdX5_whyNoMerge ⟨Nat.le_of_ble_eq_true rfl, Nat.le_of_ble_eq_true rfl⟩) hK hP [0, 1, 2, 3, 4, 5, 6, 7] rfl 0 rfl rfl rfl hl.1 rfl (Nat.le_of_ble_eq_true rfl) dX5_isDone_141 ⟨Nat.zero_le _, Nat.zero_le _⟩ ?_
          obtain ⟨c25a, c25b, c25t, c25f⟩ := x_eqE hf
          refine xk_if_ne (tgt := 160) hx hb c25a dX5_isDone_144 (by decide) (fun c25 => ?_) (fun c25 => ?_)
          · have hf := c25t c25
            refine lv_aload_n hx hb dX5_isDone_147 rfl (lv_at hl 2 rfl) ?_
            refine lv_iload_n hx hb dX5_isDone_148 rfl (lv_at hl 1 rfl) ?_
            refine lv_iload_n hx hb dX5_isDone_149 rfl (lv_at hl 0 rfl) ?_
            obtain ⟨⟨v27, x26⟩, ex26, hf⟩ := x_bind hf
            refine xc_wi (As := [.int (iI v1), .int (iI v2)]) (rest := []) ⟨hx, hb, hml, hown, hts⟩ (c5_mergeBoth l dC dI cs a _ x v1 v2  _ ex26) (cwV 2 hts gX5_isDone_X5_mergeBoth rfl rfl rfl cdX5_mergeBoth ⟨Nat.le_of_ble_eq_true rfl, Nat.le_of_ble_eq_true rfl⟩) hK hP (x_addr hD rfl) hS hA [0, 1, 2, 3, 4, 5, 6, 7] rfl (by decide) rfl 0 rfl rfl rfl hl.1 rfl (Nat.le_of_ble_eq_true rfl) dX5_isDone_150 ⟨Nat.zero_le _, Nat.zero_le _⟩ (fun H locs hP hS => ?_)
            have hP : va_P (dC, dI) vwCl (w5 cs a x26) H := hP
            obtain ⟨c29a, c29b, c29t, c29f⟩ := x_ltE hf
            refine xk_if_lt (tgt := 160) hx hb c29a dX5_isDone_153 (by decide) (fun c29 => ?_) (fun c29 => ?_)
            · have hf := c29t c29
              refine xk_iconst hx hb dX5_isDone_160 ?_
              obtain rfl := Option.some.inj hf
              exact xe_wz hx hb hr (Or.inl rfl) hlocks hS hP dX5_isDone_161
            · have hf := c29f c29
              refine xk_iconst hx hb dX5_isDone_156 ?_
              refine lv_goto (tgt := 161) hx hb dX5_isDone_157 (by decide) ?_
              obtain rfl := Option.some.inj hf
              exact xe_wz hx hb hr (Or.inr rfl) hlocks hS hP dX5_isDone_161
          · have hf := c25f c25
            refine xk_iconst hx hb dX5_isDone_160 ?_
            obtain rfl := Option.some.inj hf
            exact xe_wz hx hb hr (Or.inl rfl) hlocks hS hP dX5_isDone_161
theorem cdX5_isDone : yX5_isDone.cls = RX5 ∧ yX5_isDone.cls ≠ "java/lang/invoke/MethodHandle" ∧ yX5_isDone.cls ≠ "java/lang/invoke/VarHandle" ∧ (parseMethodDescriptor yX5_isDone.desc).map (fun d => d.parameters.length) = some 1 := by decide +kernel

set_option maxHeartbeats 4000000 in
set_option maxRecDepth 100000 in
theorem c5_carryOut (l : Launch) (dC : Nat → ClassId) (dI : Nat → Nat → Nat) (cs : Nat → ClassId) (a : Nat → Nat) (sz : Nat) (x : ModS) (res : Int × ModS) (hf : f5_carryOut x = some res) : Met l yX5_carryOut wsX5_carryOut ({ frames := 7, cells := 0, slots := 0, locals := 156 } : Room) (va_Pc [.ref (a 0)] (xPW (dC, dI) vwCl (w5 cs a x) (xT cs) sz)) (xQi (dC, dI) vwCl (w5 cs a x) (w5 cs a res.2) sz res.1) 0 0 (va_A (w5 cs a x) sz) := by
  refine Met.ofW (cc := cX5_carryOut) (maxL := 3) (ret := (some .int)) (by decide) rfl ?_
  intro p e s m args below meth c s₁ B hml hv
  obtain ⟨rfl, hsz, hP, hK, hD0⟩ := hv
  have hx := B.exec
  have hb := B.bytes
  have hr := B.returns
  have hts := atoms_spec (ws := wsX5_carryOut) B.pre
  have hown : s.vm.findClass RX5 = some m.cls := findClass_of_methodNamed B.named
  have hlocks := B.notSynchronized
  have hin5 : ∀ w ∈ wsX50, w ∈ wsX5_carryOut := by decide +kernel
  subst hsz
  have hD := hD0.self (sz := s.heap.size)
  have hA : ∀ z9 : Nat, s.heap.size ≤ z9 → va_A (w5 cs a x) s.heap.size z9 := fun z9 h => Or.inr h
  have hS : va_S (va_A (w5 cs a x) s.heap.size) s.heap s.heap [] := va_S.rf
  have hl := lv_entry [.ref (a 0)] (n := 3) (Nat.le_of_ble_eq_true rfl)
  rw [lg_entry_eq]
  generalize (lg_sl [.ref (a 0)] ++ List.replicate (3 - (lg_sl [.ref (a 0)]).length) Slot.unset).toArray = ls at hl ⊢
  have hl : lv_has ls 3 [(0, .ref (a 0))] := hl
  unfold f5_carryOut at hf
  refine lv_aload_n hx hb dX5_carryOut_0 rfl (lv_at hl 0 rfl) ?_
  refine xk_iconst hx hb dX5_carryOut_1 ?_
  refine va_put (D := (dC, dI)) (ci := 5) (v := .int (iI 0)) (ty := .int) (C := RX5) (T := TX5) (N := 13) hx hb hts hin5 tyX5 tyX5_ok nmX5 hown hK hP (x_addr hD rfl) hS 0 rfl rfl 0 (by decide) (hts (.fieldLink RX5 1 "BoatRunsModel" "thrown" "I") (by decide +kernel)) (fun _ h9 => h9) rfl (by decide +kernel) rfl rfl (Nat.le_of_ble_eq_true rfl) dX5_carryOut_2 (fun H locs hP _ hS => ?_)
  have hP : va_P (dC, dI) vwCl (w5C cs a 0 (g5_acts x) (g5_typ x) (g5_lat x) (g5_pos x) (g5_wra x) (g5_now x) (g5_put x) (g5_was x) (g5_txt x) (g5_lef x) (g5_abo x) (g5_ors x)) H := hP
  refine lv_aload_n hx hb dX5_carryOut_5 rfl (lv_at hl 0 rfl) ?_
  refine xk_iconst hx hb dX5_carryOut_6 ?_
  refine va_put (D := (dC, dI)) (ci := 5) (v := .int (iI 0)) (ty := .int) (C := RX5) (T := TX5) (N := 13) hx hb hts hin5 tyX5 tyX5_ok nmX5 hown hK hP (x_addr hD rfl) hS 0 rfl rfl 10 (by decide) (hts (.fieldLink RX5 183 "BoatRunsModel" "at" "I") (by decide +kernel)) (fun _ h9 => h9) rfl (by decide +kernel) rfl rfl (Nat.le_of_ble_eq_true rfl) dX5_carryOut_7 (fun H locs hP _ hS => ?_)
  have hP : va_P (dC, dI) vwCl (w5C cs a 0 (g5_acts x) (g5_typ x) (g5_lat x) 0 (g5_wra x) (g5_now x) (g5_put x) (g5_was x) (g5_txt x) (g5_lef x) (g5_abo x) (g5_ors x)) H := hP
  refine lv_aload_n hx hb dX5_carryOut_10 rfl (lv_at hl 0 rfl) ?_
  refine xk_iconst hx hb dX5_carryOut_11 ?_
  refine va_put (D := (dC, dI)) (ci := 5) (v := .int (iI (-1))) (ty := .int) (C := RX5) (T := TX5) (N := 13) hx hb hts hin5 tyX5 tyX5_ok nmX5 hown hK hP (x_addr hD rfl) hS 0 rfl rfl 11 (by decide) (hts (.fieldLink RX5 186 "BoatRunsModel" "wrongAt" "I") (by decide +kernel)) (fun _ h9 => h9) rfl (by decide +kernel) rfl rfl (Nat.le_of_ble_eq_true rfl) dX5_carryOut_12 (fun H locs hP _ hS => ?_)
  have hP : va_P (dC, dI) vwCl (w5C cs a 0 (g5_acts x) (g5_typ x) (g5_lat x) 0 (-1) (g5_now x) (g5_put x) (g5_was x) (g5_txt x) (g5_lef x) (g5_abo x) (g5_ors x)) H := hP
  refine xk_iconst hx hb dX5_carryOut_15 ?_
  refine lv_istore_n (lv' := [(1, .int (iI 0)), (0, .ref (a 0))]) hx hb dX5_carryOut_16 rfl hl (by decide) rfl (fun ls hl => ?_)
  have hL17 : ∀ (n2 : Nat) (l1 : Int) (x1 : ModS), f5_carryOut_L17  n2 l1 x1 = some res → ∀ (H : Heap) (locs : List Loc), va_P (dC, dI) vwCl (w5 cs a x1) H → va_S (va_A (w5 cs a x) s.heap.size) s.heap H locs → ∀ (ls : Array Slot), lv_has ls 3 [(0, .ref (a 0)), (1, .int (iI l1))] → W p l e (headSpec wsX5_carryOut ({ frames := 7, cells := 0, slots := 0, locals := 156 } : Room)).room s m ([.ref (a 0)] : List Value).toArray below meth c H locs 0 0 (MQ below (xQi (dC, dI) vwCl (w5 cs a x) (w5 cs a res.2) s.heap.size res.1) ([.ref (a 0)] : List Value).toArray s 0 0 (va_A (w5 cs a x) s.heap.size)) (F0 m 17 ls []) := by
    intro  n2
    induction n2 with
    | zero => intro l1 x1 hf; have hf : (none : Option (Int × ModS)) = some res := hf; cases hf
    | succ n2 ih17 =>
      intro l1 x1 hf H locs hP hS ls hl
      rw [f5_carryOut_L17] at hf
      refine lv_aload_n hx hb dX5_carryOut_17 rfl (lv_at hl 0 rfl) ?_
      refine va_get (D := (dC, dI)) (ci := 5) (v := .int (iI (g5_pos x1))) (C := RX5) (T := TX5) (N := 13) hx hb hts hin5 hown hK hP 0 rfl rfl 10 (by decide) (hts (.fieldLink RX5 183 "BoatRunsModel" "at" "I") (by decide +kernel)) (fun _ h9 => h9) rfl dX5_carryOut_18 ?_
      refine lv_aload_n hx hb dX5_carryOut_21 rfl (lv_at hl 0 rfl) ?_
      refine va_get (D := (dC, dI)) (ci := 5) (v := .int (iI (g5_typ x1))) (C := RX5) (T := TX5) (N := 13) hx hb hts hin5 hown hK hP 0 rfl rfl 6 (by decide) (hts (.fieldLink RX5 180 "BoatRunsModel" "typed" "I") (by decide +kernel)) (fun _ h9 => h9) rfl dX5_carryOut_22 ?_
      obtain ⟨c3a, c3b, c3t, c3f⟩ := x_ltE hf
      refine xk_icmp_ge (tgt := 47) hx hb c3a c3b dX5_carryOut_25 (by decide) (fun c3 => ?_) (fun c3 => ?_)
      · have hf := c3t c3
        refine lv_aload_n hx hb dX5_carryOut_28 rfl (lv_at hl 0 rfl) ?_
        refine va_get (D := (dC, dI)) (ci := 5) (v := .int (iI (g5_wra x1))) (C := RX5) (T := TX5) (N := 13) hx hb hts hin5 hown hK hP 0 rfl rfl 11 (by decide) (hts (.fieldLink RX5 186 "BoatRunsModel" "wrongAt" "I") (by decide +kernel)) (fun _ h9 => h9) rfl dX5_carryOut_29 ?_
        refine xk_iconst hx hb dX5_carryOut_32 ?_
        obtain ⟨c4a, c4b, c4t, c4f⟩ := x_eqE hf
        refine xk_icmp_ne (tgt := 47) hx hb c4a c4b dX5_carryOut_33 (by decide) (fun c4 => ?_) (fun c4 => ?_)
        · have hf := c4t c4
          refine lv_aload_n hx hb dX5_carryOut_36 rfl (lv_at hl 0 rfl) ?_
          refine lv_iload_n hx hb dX5_carryOut_37 rfl (lv_at hl 1 rfl) ?_
          obtain ⟨x5, ex5, hf⟩ := x_bind hf
          refine xc_wv (As := [.int (iI l1)]) (rest := []) ⟨hx, hb, hml, hown, hts⟩ (c5_order l dC dI cs a _ x1 l1  _ ex5) (cwV 1 hts gX5_carryOut_X5_order rfl rfl rfl cdX5_order ⟨Nat.le_of_ble_eq_true rfl, Nat.le_of_ble_eq_true rfl⟩) hK hP (x_addr hD rfl) hS hA [0, 1, 2, 3, 4, 5, 6, 7] rfl (by decide) rfl 0 rfl rfl rfl hl.1 rfl (Nat.le_of_ble_eq_true rfl) dX5_carryOut_38 ⟨Nat.zero_le _, Nat.zero_le _⟩ (fun H locs hP hS => ?_)
          have hP : va_P (dC, dI) vwCl (w5 cs a x5) H := hP
          refine xk_iinc (lv' := [(1, .int (iI (l1 + 1))), (0, .ref (a 0))]) hx hb dX5_carryOut_41 hl (k := 1) rfl (by decide) rfl (fun ls hl => ?_)
          refine lv_goto (tgt := 17) hx hb dX5_carryOut_44 (by decide) ?_
          exact ih17 (l1 + 1) x5 hf _ _ hP hS ls (lv_sub hl [1, 0] rfl)
        · have hf := c4f c4
          refine lv_aload_n hx hb dX5_carryOut_47 rfl (lv_at hl 0 rfl) ?_
          refine va_get (D := (dC, dI)) (ci := 5) (v := .int (iI (g5_wra x1))) (C := RX5) (T := TX5) (N := 13) hx hb hts hin5 hown hK hP 0 rfl rfl 11 (by decide) (hts (.fieldLink RX5 186 "BoatRunsModel" "wrongAt" "I") (by decide +kernel)) (fun _ h9 => h9) rfl dX5_carryOut_48 ?_
          refine xk_iconst hx hb dX5_carryOut_51 ?_
          obtain ⟨c6a, c6b, c6t, c6f⟩ := x_eqE hf
          refine xk_icmp_eq (tgt := 81) hx hb c6a c6b dX5_carryOut_52 (by decide) (fun c6 => ?_) (fun c6 => ?_)
          · have hf := c6t c6
            refine lv_aload_n hx hb dX5_carryOut_81 rfl (lv_at hl 0 rfl) ?_
            obtain ⟨x7, ex7, hf⟩ := x_bind hf
            refine xc_wv (As := []) (rest := []) ⟨hx, hb, hml, hown, hts⟩ (c5_save l dC dI cs a _ x1  _ ex7) (cwV 0 hts gX5_carryOut_X5_save rfl rfl rfl cdX5_save ⟨Nat.le_of_ble_eq_true rfl, Nat.le_of_ble_eq_true rfl⟩) hK hP (x_addr hD rfl) hS hA [0, 1, 2, 3, 4, 5, 6, 7] rfl (by decide) rfl 0 rfl rfl rfl hl.1 rfl (Nat.le_of_ble_eq_true rfl) dX5_carryOut_82 ⟨Nat.zero_le _, Nat.zero_le _⟩ (fun H locs hP hS => ?_)
            have hP : va_P (dC, dI) vwCl (w5 cs a x7) H := hP
            refine xk_iconst hx hb dX5_carryOut_85 ?_
            refine lv_istore_n (lv' := [(2, .int (iI 0)), (0, .ref (a 0)), (1, .int (iI l1))]) hx hb dX5_carryOut_86 rfl hl (by decide) rfl (fun ls hl => ?_)
            have hL87 : ∀ (k1 : Int) (n189 : Nat) (l2 : Int) (x188 : ModS), f5_carryOut_L87 k1 n189 l2 x188 = some res → ∀ (H : Heap) (locs : List Loc), va_P (dC, dI) vwCl (w5 cs a x188) H → va_S (va_A (w5 cs a x) s.heap.size) s.heap H locs → ∀ (ls : Array Slot), lv_has ls 3 [(0, .ref (a 0)), (1, .int (iI k1)), (2, .int (iI l2))] → W p l e (headSpec wsX5_carryOut ({ frames := 7, cells := 0, slots := 0, locals := 156 } : Room)).room s m ([.ref (a 0)] : List Value).toArray below meth c H locs 0 0 (MQ below (xQi (dC, dI) vwCl (w5 cs a x) (w5 cs a res.2) s.heap.size res.1) ([.ref (a 0)] : List Value).toArray s 0 0 (va_A (w5 cs a x) s.heap.size)) (F0 m 87 ls []) := by
              intro k1 n189
              induction n189 with
              | zero => intro l2 x188 hf; have hf : (none : Option (Int × ModS)) = some res := hf; cases hf
              | succ n189 ih87 =>
                intro l2 x188 hf H locs hP hS ls hl
                rw [f5_carryOut_L87] at hf
                refine lv_iload_n hx hb dX5_carryOut_87 rfl (lv_at hl 2 rfl) ?_
                refine lv_iload_n hx hb dX5_carryOut_88 rfl (lv_at hl 1 rfl) ?_
                obtain ⟨c190a, c190b, c190t, c190f⟩ := x_ltE hf
                refine xk_icmp_ge (tgt := 106) hx hb c190a c190b dX5_carryOut_89 (by decide) (fun c190 => ?_) (fun c190 => ?_)
                · have hf := c190t c190
                  refine lv_aload_n hx hb dX5_carryOut_92 rfl (lv_at hl 0 rfl) ?_
                  refine lv_iload_n hx hb dX5_carryOut_93 rfl (lv_at hl 2 rfl) ?_
                  obtain ⟨⟨v192, x191⟩, ex191, hf⟩ := x_bind hf
                  refine xc_wi (As := [.int (iI l2)]) (rest := []) ⟨hx, hb, hml, hown, hts⟩ (c5_isDone l dC dI cs a _ x188 l2  _ ex191) (cwV 1 hts gX5_carryOut_X5_isDone rfl rfl rfl cdX5_isDone ⟨Nat.le_of_ble_eq_true rfl, Nat.le_of_ble_eq_true rfl⟩) hK hP (x_addr hD rfl) hS hA [0, 1, 2, 3, 4, 5, 6, 7] rfl (by decide) rfl 0 rfl rfl rfl hl.1 rfl (Nat.le_of_ble_eq_true rfl) dX5_carryOut_94 ⟨Nat.zero_le _, Nat.zero_le _⟩ (fun H locs hP hS => ?_)
                  have hP : va_P (dC, dI) vwCl (w5 cs a x191) H := hP
                  obtain ⟨c194a, c194b, c194t, c194f⟩ := x_eqE hf
                  refine xk_if_eq (tgt := 106) hx hb c194a dX5_carryOut_97 (by decide) (fun c194 => ?_) (fun c194 => ?_)
                  · have hf := c194t c194
                    refine lv_iload_n hx hb dX5_carryOut_106 rfl (lv_at hl 2 rfl) ?_
                    obtain rfl := Option.some.inj hf
                    exact xe_wi hx hb hr hlocks hS hP dX5_carryOut_107
                  · have hf := c194f c194
                    refine xk_iinc (lv' := [(2, .int (iI (l2 + 1))), (0, .ref (a 0)), (1, .int (iI k1))]) hx hb dX5_carryOut_100 hl (k := 2) rfl (by decide) rfl (fun ls hl => ?_)
                    refine lv_goto (tgt := 87) hx hb dX5_carryOut_103 (by decide) ?_
                    exact ih87 (l2 + 1) x191 hf _ _ hP hS ls (lv_sub hl [1, 2, 0] rfl)
                · have hf := c190f c190
                  refine lv_iload_n hx hb dX5_carryOut_106 rfl (lv_at hl 2 rfl) ?_
                  obtain rfl := Option.some.inj hf
                  exact xe_wi hx hb hr hlocks hS hP dX5_carryOut_107
            exact hL87 l1 xFU 0 x7 hf _ _ hP hS ls (lv_sub hl [1, 2, 0] rfl)
          · have hf := c6f c6
            refine xk_bipush hx hb dX5_carryOut_55 (by decide) ?_
            refine lv_aload_n hx hb dX5_carryOut_57 rfl (lv_at hl 0 rfl) ?_
            refine va_get (D := (dC, dI)) (ci := 5) (v := .int (iI (g5_wra x1))) (C := RX5) (T := TX5) (N := 13) hx hb hts hin5 hown hK hP 0 rfl rfl 11 (by decide) (hts (.fieldLink RX5 186 "BoatRunsModel" "wrongAt" "I") (by decide +kernel)) (fun _ h9 => h9) rfl dX5_carryOut_58 ?_
            refine lv_aload_n hx hb dX5_carryOut_61 rfl (lv_at hl 0 rfl) ?_
            refine va_get (D := (dC, dI)) (ci := 5) (v := .int (iI (g5_typ x1))) (C := RX5) (T := TX5) (N := 13) hx hb hts hin5 hown hK hP 0 rfl rfl 6 (by decide) (hts (.fieldLink RX5 180 "BoatRunsModel" "typed" "I") (by decide +kernel)) (fun _ h9 => h9) rfl dX5_carryOut_62 ?_
            obtain ⟨c8a, c8b, c8t, c8f⟩ := x_ltE hf
            refine xk_icmp_ge (tgt := 75) hx hb c8a c8b dX5_carryOut_65 (by decide) (fun c8 => ?_) (fun c8 => ?_)
            · have hf := c8t c8
              refine lv_aload_n hx hb dX5_carryOut_68 rfl (lv_at hl 0 rfl) ?_
              refine va_get (D := (dC, dI)) (ci := 5) (v := .int (iI (g5_wra x1))) (C := RX5) (T := TX5) (N := 13) hx hb hts hin5 hown hK hP 0 rfl rfl 11 (by decide) (hts (.fieldLink RX5 186 "BoatRunsModel" "wrongAt" "I") (by decide +kernel)) (fun _ h9 => h9) rfl dX5_carryOut_69 ?_
              refine lv_goto (tgt := 79) hx hb dX5_carryOut_72 (by decide) ?_
              refine xk_isub hx hb dX5_carryOut_79 ?_
              obtain rfl := Option.some.inj hf
              exact xe_wi hx hb hr hlocks hS hP dX5_carryOut_80
            · have hf := c8f c8
              refine lv_aload_n hx hb dX5_carryOut_75 rfl (lv_at hl 0 rfl) ?_
              refine va_get (D := (dC, dI)) (ci := 5) (v := .int (iI (g5_typ x1))) (C := RX5) (T := TX5) (N := 13) hx hb hts hin5 hown hK hP 0 rfl rfl 6 (by decide) (hts (.fieldLink RX5 180 "BoatRunsModel" "typed" "I") (by decide +kernel)) (fun _ h9 => h9) rfl dX5_carryOut_76 ?_
              refine xk_isub hx hb dX5_carryOut_79 ?_
              obtain rfl := Option.some.inj hf
              exact xe_wi hx hb hr hlocks hS hP dX5_carryOut_80
      · have hf := c3f c3
        refine lv_aload_n hx hb dX5_carryOut_47 rfl (lv_at hl 0 rfl) ?_
        refine va_get (D := (dC, dI)) (ci := 5) (v := .int (iI (g5_wra x1))) (C := RX5) (T := TX5) (N := 13) hx hb hts hin5 hown hK hP 0 rfl rfl 11 (by decide) (hts (.fieldLink RX5 186 "BoatRunsModel" "wrongAt" "I") (by decide +kernel)) (fun _ h9 => h9) rfl dX5_carryOut_48 ?_
        refine xk_iconst hx hb dX5_carryOut_51 ?_
        obtain ⟨c9a, c9b, c9t, c9f⟩ := x_eqE hf
        refine xk_icmp_eq (tgt := 81) hx hb c9a c9b dX5_carryOut_52 (by decide) (fun c9 => ?_) (fun c9 => ?_)
        · have hf := c9t c9
          refine lv_aload_n hx hb dX5_carryOut_81 rfl (lv_at hl 0 rfl) ?_
          obtain ⟨x10, ex10, hf⟩ := x_bind hf
          refine xc_wv (As := []) (rest := []) ⟨hx, hb, hml, hown, hts⟩ (c5_save l dC dI cs a _ x1  _ ex10) (cwV 0 hts gX5_carryOut_X5_save rfl rfl rfl cdX5_save ⟨Nat.le_of_ble_eq_true rfl, Nat.le_of_ble_eq_true rfl⟩) hK hP (x_addr hD rfl) hS hA [0, 1, 2, 3, 4, 5, 6, 7] rfl (by decide) rfl 0 rfl rfl rfl hl.1 rfl (Nat.le_of_ble_eq_true rfl) dX5_carryOut_82 ⟨Nat.zero_le _, Nat.zero_le _⟩ (fun H locs hP hS => ?_)
          have hP : va_P (dC, dI) vwCl (w5 cs a x10) H := hP
          refine xk_iconst hx hb dX5_carryOut_85 ?_
          refine lv_istore_n (lv' := [(2, .int (iI 0)), (0, .ref (a 0)), (1, .int (iI l1))]) hx hb dX5_carryOut_86 rfl hl (by decide) rfl (fun ls hl => ?_)
          have hL87 : ∀ (k1 : Int) (n189 : Nat) (l2 : Int) (x188 : ModS), f5_carryOut_L87 k1 n189 l2 x188 = some res → ∀ (H : Heap) (locs : List Loc), va_P (dC, dI) vwCl (w5 cs a x188) H → va_S (va_A (w5 cs a x) s.heap.size) s.heap H locs → ∀ (ls : Array Slot), lv_has ls 3 [(0, .ref (a 0)), (1, .int (iI k1)), (2, .int (iI l2))] → W p l e (headSpec wsX5_carryOut ({ frames := 7, cells := 0, slots := 0, locals := 156 } : Room)).room s m ([.ref (a 0)] : List Value).toArray below meth c H locs 0 0 (MQ below (xQi (dC, dI) vwCl (w5 cs a x) (w5 cs a res.2) s.heap.size res.1) ([.ref (a 0)] : List Value).toArray s 0 0 (va_A (w5 cs a x) s.heap.size)) (F0 m 87 ls []) := by
            intro k1 n189
            induction n189 with
            | zero => intro l2 x188 hf; have hf : (none : Option (Int × ModS)) = some res := hf; cases hf
            | succ n189 ih87 =>
              intro l2 x188 hf H locs hP hS ls hl
              rw [f5_carryOut_L87] at hf
              refine lv_iload_n hx hb dX5_carryOut_87 rfl (lv_at hl 2 rfl) ?_
              refine lv_iload_n hx hb dX5_carryOut_88 rfl (lv_at hl 1 rfl) ?_
              obtain ⟨c190a, c190b, c190t, c190f⟩ := x_ltE hf
              refine xk_icmp_ge (tgt := 106) hx hb c190a c190b dX5_carryOut_89 (by decide) (fun c190 => ?_) (fun c190 => ?_)
              · have hf := c190t c190
                refine lv_aload_n hx hb dX5_carryOut_92 rfl (lv_at hl 0 rfl) ?_
                refine lv_iload_n hx hb dX5_carryOut_93 rfl (lv_at hl 2 rfl) ?_
                obtain ⟨⟨v192, x191⟩, ex191, hf⟩ := x_bind hf
                refine xc_wi (As := [.int (iI l2)]) (rest := []) ⟨hx, hb, hml, hown, hts⟩ (c5_isDone l dC dI cs a _ x188 l2  _ ex191) (cwV 1 hts gX5_carryOut_X5_isDone rfl rfl rfl cdX5_isDone ⟨Nat.le_of_ble_eq_true rfl, Nat.le_of_ble_eq_true rfl⟩) hK hP (x_addr hD rfl) hS hA [0, 1, 2, 3, 4, 5, 6, 7] rfl (by decide) rfl 0 rfl rfl rfl hl.1 rfl (Nat.le_of_ble_eq_true rfl) dX5_carryOut_94 ⟨Nat.zero_le _, Nat.zero_le _⟩ (fun H locs hP hS => ?_)
                have hP : va_P (dC, dI) vwCl (w5 cs a x191) H := hP
                obtain ⟨c194a, c194b, c194t, c194f⟩ := x_eqE hf
                refine xk_if_eq (tgt := 106) hx hb c194a dX5_carryOut_97 (by decide) (fun c194 => ?_) (fun c194 => ?_)
                · have hf := c194t c194
                  refine lv_iload_n hx hb dX5_carryOut_106 rfl (lv_at hl 2 rfl) ?_
                  obtain rfl := Option.some.inj hf
                  exact xe_wi hx hb hr hlocks hS hP dX5_carryOut_107
                · have hf := c194f c194
                  refine xk_iinc (lv' := [(2, .int (iI (l2 + 1))), (0, .ref (a 0)), (1, .int (iI k1))]) hx hb dX5_carryOut_100 hl (k := 2) rfl (by decide) rfl (fun ls hl => ?_)
                  refine lv_goto (tgt := 87) hx hb dX5_carryOut_103 (by decide) ?_
                  exact ih87 (l2 + 1) x191 hf _ _ hP hS ls (lv_sub hl [1, 2, 0] rfl)
              · have hf := c190f c190
                refine lv_iload_n hx hb dX5_carryOut_106 rfl (lv_at hl 2 rfl) ?_
                obtain rfl := Option.some.inj hf
                exact xe_wi hx hb hr hlocks hS hP dX5_carryOut_107
          exact hL87 l1 xFU 0 x10 hf _ _ hP hS ls (lv_sub hl [1, 2, 0] rfl)
        · have hf := c9f c9
          refine xk_bipush hx hb dX5_carryOut_55 (by decide) ?_
          refine lv_aload_n hx hb dX5_carryOut_57 rfl (lv_at hl 0 rfl) ?_
          refine va_get (D := (dC, dI)) (ci := 5) (v := .int (iI (g5_wra x1))) (C := RX5) (T := TX5) (N := 13) hx hb hts hin5 hown hK hP 0 rfl rfl 11 (by decide) (hts (.fieldLink RX5 186 "BoatRunsModel" "wrongAt" "I") (by decide +kernel)) (fun _ h9 => h9) rfl dX5_carryOut_58 ?_
          refine lv_aload_n hx hb dX5_carryOut_61 rfl (lv_at hl 0 rfl) ?_
          refine va_get (D := (dC, dI)) (ci := 5) (v := .int (iI (g5_typ x1))) (C := RX5) (T := TX5) (N := 13) hx hb hts hin5 hown hK hP 0 rfl rfl 6 (by decide) (hts (.fieldLink RX5 180 "BoatRunsModel" "typed" "I") (by decide +kernel)) (fun _ h9 => h9) rfl dX5_carryOut_62 ?_
          obtain ⟨c11a, c11b, c11t, c11f⟩ := x_ltE hf
          refine xk_icmp_ge (tgt := 75) hx hb c11a c11b dX5_carryOut_65 (by decide) (fun c11 => ?_) (fun c11 => ?_)
          · have hf := c11t c11
            refine lv_aload_n hx hb dX5_carryOut_68 rfl (lv_at hl 0 rfl) ?_
            refine va_get (D := (dC, dI)) (ci := 5) (v := .int (iI (g5_wra x1))) (C := RX5) (T := TX5) (N := 13) hx hb hts hin5 hown hK hP 0 rfl rfl 11 (by decide) (hts (.fieldLink RX5 186 "BoatRunsModel" "wrongAt" "I") (by decide +kernel)) (fun _ h9 => h9) rfl dX5_carryOut_69 ?_
            refine lv_goto (tgt := 79) hx hb dX5_carryOut_72 (by decide) ?_
            refine xk_isub hx hb dX5_carryOut_79 ?_
            obtain rfl := Option.some.inj hf
            exact xe_wi hx hb hr hlocks hS hP dX5_carryOut_80
          · have hf := c11f c11
            refine lv_aload_n hx hb dX5_carryOut_75 rfl (lv_at hl 0 rfl) ?_
            refine va_get (D := (dC, dI)) (ci := 5) (v := .int (iI (g5_typ x1))) (C := RX5) (T := TX5) (N := 13) hx hb hts hin5 hown hK hP 0 rfl rfl 6 (by decide) (hts (.fieldLink RX5 180 "BoatRunsModel" "typed" "I") (by decide +kernel)) (fun _ h9 => h9) rfl dX5_carryOut_76 ?_
            refine xk_isub hx hb dX5_carryOut_79 ?_
            obtain rfl := Option.some.inj hf
            exact xe_wi hx hb hr hlocks hS hP dX5_carryOut_80
  exact hL17  xFU 0 (s5_wra (s5_pos (s5_thr x 0) 0) (-1)) hf _ _ hP hS ls (lv_sub hl [1, 0] rfl)
theorem cdX5_carryOut : yX5_carryOut.cls = RX5 ∧ yX5_carryOut.cls ≠ "java/lang/invoke/MethodHandle" ∧ yX5_carryOut.cls ≠ "java/lang/invoke/VarHandle" ∧ (parseMethodDescriptor yX5_carryOut.desc).map (fun d => d.parameters.length) = some 0 := by decide +kernel

set_option maxHeartbeats 4000000 in
set_option maxRecDepth 100000 in
theorem c5_undo (l : Launch) (dC : Nat → ClassId) (dI : Nat → Nat → Nat) (cs : Nat → ClassId) (a : Nat → Nat) (sz : Nat) (x : ModS) (res : Int × ModS) (hf : f5_undo x = some res) : Met l yX5_undo wsX5_undo ({ frames := 0, cells := 0, slots := 0, locals := 0 } : Room) (va_Pc [.ref (a 0)] (xPW (dC, dI) vwCl (w5 cs a x) (xT cs) sz)) (xQi (dC, dI) vwCl (w5 cs a x) (w5 cs a res.2) sz res.1) 0 0 (va_A (w5 cs a x) sz) := by
  refine Met.ofW (cc := cX5_undo) (maxL := 2) (ret := (some .int)) (by decide) rfl ?_
  intro p e s m args below meth c s₁ B hml hv
  obtain ⟨rfl, hsz, hP, hK, hD0⟩ := hv
  have hx := B.exec
  have hb := B.bytes
  have hr := B.returns
  have hts := atoms_spec (ws := wsX5_undo) B.pre
  have hown : s.vm.findClass RX5 = some m.cls := findClass_of_methodNamed B.named
  have hlocks := B.notSynchronized
  have hin5 : ∀ w ∈ wsX50, w ∈ wsX5_undo := by decide +kernel
  subst hsz
  have hD := hD0.self (sz := s.heap.size)
  have hA : ∀ z9 : Nat, s.heap.size ≤ z9 → va_A (w5 cs a x) s.heap.size z9 := fun z9 h => Or.inr h
  have hS : va_S (va_A (w5 cs a x) s.heap.size) s.heap s.heap [] := va_S.rf
  have hl := lv_entry [.ref (a 0)] (n := 2) (Nat.le_of_ble_eq_true rfl)
  rw [lg_entry_eq]
  generalize (lg_sl [.ref (a 0)] ++ List.replicate (2 - (lg_sl [.ref (a 0)]).length) Slot.unset).toArray = ls at hl ⊢
  have hl : lv_has ls 2 [(0, .ref (a 0))] := hl
  unfold f5_undo at hf
  refine lv_aload_n hx hb dX5_undo_0 rfl (lv_at hl 0 rfl) ?_
  refine lv_aload_n hx hb dX5_undo_1 rfl (lv_at hl 0 rfl) ?_
  refine va_get (D := (dC, dI)) (ci := 5) (v := .int (iI (g5_acts x))) (C := RX5) (T := TX5) (N := 13) hx hb hts hin5 hown hK hP 0 rfl rfl 4 (by decide) (hts (.fieldLink RX5 58 "BoatRunsModel" "acts" "I") (by decide +kernel)) (fun _ h9 => h9) rfl dX5_undo_2 ?_
  obtain ⟨c1a, c1b, c1t, c1f⟩ := x_eqE hf
  refine xk_if_ne (tgt := 12) hx hb c1a dX5_undo_5 (by decide) (fun c1 => ?_) (fun c1 => ?_)
  · have hf := c1t c1
    refine xk_iconst hx hb dX5_undo_8 ?_
    refine lv_goto (tgt := 13) hx hb dX5_undo_9 (by decide) ?_
    refine va_put (D := (dC, dI)) (ci := 5) (v := .int (iI 1)) (ty := .int) (C := RX5) (T := TX5) (N := 13) hx hb hts hin5 tyX5 tyX5_ok nmX5 hown hK hP (x_addr hD rfl) hS 0 rfl rfl 0 (by decide) (hts (.fieldLink RX5 1 "BoatRunsModel" "thrown" "I") (by decide +kernel)) (fun _ h9 => h9) rfl (by decide +kernel) rfl rfl (Nat.le_of_ble_eq_true rfl) dX5_undo_13 (fun H locs hP _ hS => ?_)
    have hP : va_P (dC, dI) vwCl (w5C cs a 1 (g5_acts x) (g5_typ x) (g5_lat x) (g5_pos x) (g5_wra x) (g5_now x) (g5_put x) (g5_was x) (g5_txt x) (g5_lef x) (g5_abo x) (g5_ors x)) H := hP
    refine lv_aload_n hx hb dX5_undo_16 rfl (lv_at hl 0 rfl) ?_
    refine va_get (D := (dC, dI)) (ci := 5) (v := .int (iI 1)) (C := RX5) (T := TX5) (N := 13) hx hb hts hin5 hown hK hP 0 rfl rfl 0 (by decide) (hts (.fieldLink RX5 1 "BoatRunsModel" "thrown" "I") (by decide +kernel)) (fun _ h9 => h9) rfl dX5_undo_17 ?_
    refine xk_if_le (tgt := 25) hx hb (by decide) dX5_undo_20 (by decide) (fun c2 => ?_) (fun c2 => ?_)
    · refine xk_iconst hx hb dX5_undo_23 ?_
      obtain rfl := Option.some.inj hf
      exact xe_wi hx hb hr hlocks hS hP dX5_undo_24
    · exact absurd c2 (by decide)
  · have hf := c1f c1
    refine xk_iconst hx hb dX5_undo_12 ?_
    refine va_put (D := (dC, dI)) (ci := 5) (v := .int (iI 0)) (ty := .int) (C := RX5) (T := TX5) (N := 13) hx hb hts hin5 tyX5 tyX5_ok nmX5 hown hK hP (x_addr hD rfl) hS 0 rfl rfl 0 (by decide) (hts (.fieldLink RX5 1 "BoatRunsModel" "thrown" "I") (by decide +kernel)) (fun _ h9 => h9) rfl (by decide +kernel) rfl rfl (Nat.le_of_ble_eq_true rfl) dX5_undo_13 (fun H locs hP _ hS => ?_)
    have hP : va_P (dC, dI) vwCl (w5C cs a 0 (g5_acts x) (g5_typ x) (g5_lat x) (g5_pos x) (g5_wra x) (g5_now x) (g5_put x) (g5_was x) (g5_txt x) (g5_lef x) (g5_abo x) (g5_ors x)) H := hP
    refine lv_aload_n hx hb dX5_undo_16 rfl (lv_at hl 0 rfl) ?_
    refine va_get (D := (dC, dI)) (ci := 5) (v := .int (iI 0)) (C := RX5) (T := TX5) (N := 13) hx hb hts hin5 hown hK hP 0 rfl rfl 0 (by decide) (hts (.fieldLink RX5 1 "BoatRunsModel" "thrown" "I") (by decide +kernel)) (fun _ h9 => h9) rfl dX5_undo_17 ?_
    refine xk_if_le (tgt := 25) hx hb (by decide) dX5_undo_20 (by decide) (fun c3 => ?_) (fun c3 => ?_)
    · exact absurd c3 (by decide)
    · refine lv_aload_n hx hb dX5_undo_25 rfl (lv_at hl 0 rfl) ?_
      refine lv_dup hx hb dX5_undo_26 rfl ?_
      refine va_get (D := (dC, dI)) (ci := 5) (v := .int (iI (g5_acts x))) (C := RX5) (T := TX5) (N := 13) hx hb hts hin5 hown hK hP 0 rfl rfl 4 (by decide) (hts (.fieldLink RX5 58 "BoatRunsModel" "acts" "I") (by decide +kernel)) (fun _ h9 => h9) rfl dX5_undo_27 ?_
      refine xk_iconst hx hb dX5_undo_30 ?_
      refine xk_isub hx hb dX5_undo_31 ?_
      refine va_put (D := (dC, dI)) (ci := 5) (v := .int (iI (g5_acts x - 1))) (ty := .int) (C := RX5) (T := TX5) (N := 13) hx hb hts hin5 tyX5 tyX5_ok nmX5 hown hK hP (x_addr hD rfl) hS 0 rfl rfl 4 (by decide) (hts (.fieldLink RX5 58 "BoatRunsModel" "acts" "I") (by decide +kernel)) (fun _ h9 => h9) rfl (by decide +kernel) rfl rfl (Nat.le_of_ble_eq_true rfl) dX5_undo_32 (fun H locs hP _ hS => ?_)
      have hP : va_P (dC, dI) vwCl (w5C cs a 0 (g5_acts x - 1) (g5_typ x) (g5_lat x) (g5_pos x) (g5_wra x) (g5_now x) (g5_put x) (g5_was x) (g5_txt x) (g5_lef x) (g5_abo x) (g5_ors x)) H := hP
      refine xk_iconst hx hb dX5_undo_35 ?_
      refine lv_istore_n (lv' := [(1, .int (iI 0)), (0, .ref (a 0))]) hx hb dX5_undo_36 rfl hl (by decide) rfl (fun ls hl => ?_)
      have hL37 : ∀ (n5 : Nat) (l1 : Int) (x4 : ModS), f5_undo_L37  n5 l1 x4 = some res → ∀ (H : Heap) (locs : List Loc), va_P (dC, dI) vwCl (w5 cs a x4) H → va_S (va_A (w5 cs a x) s.heap.size) s.heap H locs → ∀ (ls : Array Slot), lv_has ls 2 [(0, .ref (a 0)), (1, .int (iI l1))] → W p l e (headSpec wsX5_undo ({ frames := 0, cells := 0, slots := 0, locals := 0 } : Room)).room s m ([.ref (a 0)] : List Value).toArray below meth c H locs 0 0 (MQ below (xQi (dC, dI) vwCl (w5 cs a x) (w5 cs a res.2) s.heap.size res.1) ([.ref (a 0)] : List Value).toArray s 0 0 (va_A (w5 cs a x) s.heap.size)) (F0 m 37 ls []) := by
        intro  n5
        induction n5 with
        | zero => intro l1 x4 hf; have hf : (none : Option (Int × ModS)) = some res := hf; cases hf
        | succ n5 ih37 =>
          intro l1 x4 hf H locs hP hS ls hl
          rw [f5_undo_L37] at hf
          refine lv_iload_n hx hb dX5_undo_37 rfl (lv_at hl 1 rfl) ?_
          refine xk_sipush hx hb dX5_undo_38 (by decide) ?_
          obtain ⟨c6a, c6b, c6t, c6f⟩ := x_ltE hf
          refine xk_icmp_ge (tgt := 71) hx hb c6a c6b dX5_undo_41 (by decide) (fun c6 => ?_) (fun c6 => ?_)
          · have hf := c6t c6
            refine lv_aload_n hx hb dX5_undo_44 rfl (lv_at hl 0 rfl) ?_
            refine va_get (D := (dC, dI)) (ci := 5) (v := .ref (a 1)) (C := RX5) (T := TX5) (N := 13) hx hb hts hin5 hown hK hP 0 rfl rfl 1 (by decide) (hts (.fieldLink RX5 13 "BoatRunsModel" "now" "[I") (by decide +kernel)) (fun _ h9 => h9) rfl dX5_undo_45 ?_
            refine lv_iload_n hx hb dX5_undo_48 rfl (lv_at hl 1 rfl) ?_
            refine lv_aload_n hx hb dX5_undo_49 rfl (lv_at hl 0 rfl) ?_
            refine va_get (D := (dC, dI)) (ci := 5) (v := .ref (a 3)) (C := RX5) (T := TX5) (N := 13) hx hb hts hin5 hown hK hP 0 rfl rfl 3 (by decide) (hts (.fieldLink RX5 20 "BoatRunsModel" "was" "[I") (by decide +kernel)) (fun _ h9 => h9) rfl dX5_undo_50 ?_
            refine xk_sipush hx hb dX5_undo_53 (by decide) ?_
            refine lv_aload_n hx hb dX5_undo_56 rfl (lv_at hl 0 rfl) ?_
            refine va_get (D := (dC, dI)) (ci := 5) (v := .int (iI (g5_acts x4))) (C := RX5) (T := TX5) (N := 13) hx hb hts hin5 hown hK hP 0 rfl rfl 4 (by decide) (hts (.fieldLink RX5 58 "BoatRunsModel" "acts" "I") (by decide +kernel)) (fun _ h9 => h9) rfl dX5_undo_57 ?_
            refine xk_imul hx hb dX5_undo_60 ?_
            refine lv_iload_n hx hb dX5_undo_61 rfl (lv_at hl 1 rfl) ?_
            refine xk_iadd hx hb dX5_undo_62 ?_
            obtain ⟨v7, ev7, hf⟩ := x_bind hf
            refine xk_iald (f := g5_was x4) hx hb hK hP 3 0 ev7 (by decide) rfl rfl dX5_undo_63 ?_
            obtain ⟨g8, eg8, hf⟩ := x_bind hf
            refine xk_iast (f := g5_now x4) hx hb hK hP (x_addr hD rfl) hS 1 0 eg8 (by decide) rfl rfl dX5_undo_64 (fun H locs hP hS => ?_)
            have hP : va_P (dC, dI) vwCl (w5C cs a (g5_thr x4) (g5_acts x4) (g5_typ x4) (g5_lat x4) (g5_pos x4) (g5_wra x4) g8 (g5_put x4) (g5_was x4) (g5_txt x4) (g5_lef x4) (g5_abo x4) (g5_ors x4)) H := hP
            refine xk_iinc (lv' := [(1, .int (iI (l1 + 1))), (0, .ref (a 0))]) hx hb dX5_undo_65 hl (k := 1) rfl (by decide) rfl (fun ls hl => ?_)
            refine lv_goto (tgt := 37) hx hb dX5_undo_68 (by decide) ?_
            exact ih37 (l1 + 1) (s5_now x4 g8) hf _ _ hP hS ls (lv_sub hl [1, 0] rfl)
          · have hf := c6f c6
            refine lv_aload_n hx hb dX5_undo_71 rfl (lv_at hl 0 rfl) ?_
            refine va_get (D := (dC, dI)) (ci := 5) (v := .int (iI (g5_acts x4))) (C := RX5) (T := TX5) (N := 13) hx hb hts hin5 hown hK hP 0 rfl rfl 4 (by decide) (hts (.fieldLink RX5 58 "BoatRunsModel" "acts" "I") (by decide +kernel)) (fun _ h9 => h9) rfl dX5_undo_72 ?_
            obtain rfl := Option.some.inj hf
            exact xe_wi hx hb hr hlocks hS hP dX5_undo_75
      exact hL37  xFU 0 (s5_acts (s5_thr x 0) (g5_acts x - 1)) hf _ _ hP hS ls (lv_sub hl [1, 0] rfl)
theorem cdX5_undo : yX5_undo.cls = RX5 ∧ yX5_undo.cls ≠ "java/lang/invoke/MethodHandle" ∧ yX5_undo.cls ≠ "java/lang/invoke/VarHandle" ∧ (parseMethodDescriptor yX5_undo.desc).map (fun d => d.parameters.length) = some 0 := by decide +kernel

set_option maxHeartbeats 4000000 in
set_option maxRecDepth 100000 in
theorem c5_digest (l : Launch) (dC : Nat → ClassId) (dI : Nat → Nat → Nat) (cs : Nat → ClassId) (a : Nat → Nat) (sz : Nat) (x : ModS) (res : Int × ModS) (hf : f5_digest x = some res) : Met l yX5_digest wsX5_digest ({ frames := 5, cells := 0, slots := 0, locals := 109 } : Room) (va_Pc [.ref (a 0)] (xPW (dC, dI) vwCl (w5 cs a x) (xT cs) sz)) (xQl (dC, dI) vwCl (w5 cs a x) (w5 cs a res.2) sz res.1) 0 0 (va_A (w5 cs a x) sz) := by
  refine Met.ofW (cc := cX5_digest) (maxL := 5) (ret := (some .long)) (by decide) rfl ?_
  intro p e s m args below meth c s₁ B hml hv
  obtain ⟨rfl, hsz, hP, hK, hD0⟩ := hv
  have hx := B.exec
  have hb := B.bytes
  have hr := B.returns
  have hts := atoms_spec (ws := wsX5_digest) B.pre
  have hown : s.vm.findClass RX5 = some m.cls := findClass_of_methodNamed B.named
  have hlocks := B.notSynchronized
  have hin5 : ∀ w ∈ wsX50, w ∈ wsX5_digest := by decide +kernel
  subst hsz
  have hD := hD0.self (sz := s.heap.size)
  have hA : ∀ z9 : Nat, s.heap.size ≤ z9 → va_A (w5 cs a x) s.heap.size z9 := fun z9 h => Or.inr h
  have hS : va_S (va_A (w5 cs a x) s.heap.size) s.heap s.heap [] := va_S.rf
  have hl := lv_entry [.ref (a 0)] (n := 5) (Nat.le_of_ble_eq_true rfl)
  rw [lg_entry_eq]
  generalize (lg_sl [.ref (a 0)] ++ List.replicate (5 - (lg_sl [.ref (a 0)]).length) Slot.unset).toArray = ls at hl ⊢
  have hl : lv_has ls 5 [(0, .ref (a 0))] := hl
  unfold f5_digest at hf
  refine lv_aload_n hx hb dX5_digest_0 rfl (lv_at hl 0 rfl) ?_
  refine xk_iconst hx hb dX5_digest_1 ?_
  refine va_put (D := (dC, dI)) (ci := 5) (v := .int (iI 0)) (ty := .int) (C := RX5) (T := TX5) (N := 13) hx hb hts hin5 tyX5 tyX5_ok nmX5 hown hK hP (x_addr hD rfl) hS 0 rfl rfl 0 (by decide) (hts (.fieldLink RX5 1 "BoatRunsModel" "thrown" "I") (by decide +kernel)) (fun _ h9 => h9) rfl (by decide +kernel) rfl rfl (Nat.le_of_ble_eq_true rfl) dX5_digest_2 (fun H locs hP _ hS => ?_)
  have hP : va_P (dC, dI) vwCl (w5C cs a 0 (g5_acts x) (g5_typ x) (g5_lat x) (g5_pos x) (g5_wra x) (g5_now x) (g5_put x) (g5_was x) (g5_txt x) (g5_lef x) (g5_abo x) (g5_ors x)) H := hP
  refine xk_ldc2 (n := 114421) hx hb hown (hts (.constantLong RX5 208 (114421)) (by decide +kernel)) dX5_digest_5 (by decide) ?_
  refine lv_aload_n hx hb dX5_digest_8 rfl (lv_at hl 0 rfl) ?_
  refine va_get (D := (dC, dI)) (ci := 5) (v := .int (iI (g5_typ x))) (C := RX5) (T := TX5) (N := 13) hx hb hts hin5 hown hK hP 0 rfl rfl 6 (by decide) (hts (.fieldLink RX5 180 "BoatRunsModel" "typed" "I") (by decide +kernel)) (fun _ h9 => h9) rfl dX5_digest_9 ?_
  obtain ⟨hc, hf⟩ := x_ckE hf
  refine xk_i2l hx hb hc dX5_digest_12 ?_
  refine xk_ladd hx hb dX5_digest_13 ?_
  refine lv_lstore_n (lv' := [(1, .long (iL (114421 + g5_typ x))), (0, .ref (a 0))]) hx hb dX5_digest_14 rfl hl (by decide) rfl (fun ls hl => ?_)
  refine xk_iconst hx hb dX5_digest_15 ?_
  refine lv_istore_n (lv' := [(3, .int (iI 0)), (1, .long (iL (114421 + g5_typ x))), (0, .ref (a 0))]) hx hb dX5_digest_16 rfl hl (by decide) rfl (fun ls hl => ?_)
  have hL17 : ∀ (n1 : Nat) (l1 : Int) (l3 : Int), f5_digest_L17 x n1 l1 l3 = some res → ∀ (ls : Array Slot), lv_has ls 5 [(0, .ref (a 0)), (1, .long (iL l1)), (3, .int (iI l3))] → W p l e (headSpec wsX5_digest ({ frames := 5, cells := 0, slots := 0, locals := 109 } : Room)).room s m ([.ref (a 0)] : List Value).toArray below meth c H locs 0 0 (MQ below (xQl (dC, dI) vwCl (w5 cs a x) (w5 cs a res.2) s.heap.size res.1) ([.ref (a 0)] : List Value).toArray s 0 0 (va_A (w5 cs a x) s.heap.size)) (F0 m 17 ls []) := by
    intro  n1
    induction n1 with
    | zero => intro l1 l3 hf; have hf : (none : Option (Int × ModS)) = some res := hf; cases hf
    | succ n1 ih17 =>
      intro l1 l3 hf ls hl
      rw [f5_digest_L17] at hf
      refine lv_iload_n hx hb dX5_digest_17 rfl (lv_at hl 2 rfl) ?_
      refine xk_bipush hx hb dX5_digest_18 (by decide) ?_
      obtain ⟨c2a, c2b, c2t, c2f⟩ := x_ltE hf
      refine xk_icmp_ge (tgt := 42) hx hb c2a c2b dX5_digest_20 (by decide) (fun c2 => ?_) (fun c2 => ?_)
      · have hf := c2t c2
        refine xk_ldc2 (n := 31) hx hb hown (hts (.constantLong RX5 210 (31)) (by decide +kernel)) dX5_digest_23 (by decide) ?_
        refine lv_lload_n hx hb dX5_digest_26 rfl (lv_at hl 1 rfl) ?_
        refine xk_lmul hx hb dX5_digest_27 ?_
        refine lv_aload_n hx hb dX5_digest_28 rfl (lv_at hl 0 rfl) ?_
        refine lv_iload_n hx hb dX5_digest_29 rfl (lv_at hl 2 rfl) ?_
        obtain ⟨v3, ev3, hf⟩ := x_bind hf
        refine xc_ri (As := [.int (iI l3)]) (rest := [.long (iL (31 * l1))]) ⟨hx, hb, hml, hown, hts⟩ (c5_valueBy l dC dI cs a (s5_thr x 0) l3  _ ev3) (cwV 1 hts gX5_digest_X5_valueBy rfl rfl rfl cdX5_valueBy ⟨Nat.le_of_ble_eq_true rfl, Nat.le_of_ble_eq_true rfl⟩) hK hP [0, 1, 2, 3, 4, 5, 6, 7] rfl 0 rfl rfl rfl hl.1 rfl (Nat.le_of_ble_eq_true rfl) dX5_digest_30 ⟨Nat.zero_le _, Nat.zero_le _⟩ ?_
        obtain ⟨hc, hf⟩ := x_ckE hf
        refine xk_i2l hx hb hc dX5_digest_33 ?_
        refine xk_ladd hx hb dX5_digest_34 ?_
        refine lv_lstore_n (lv' := [(1, .long (iL ((31 * l1) + v3))), (0, .ref (a 0)), (3, .int (iI l3))]) hx hb dX5_digest_35 rfl hl (by decide) rfl (fun ls hl => ?_)
        refine xk_iinc (lv' := [(3, .int (iI (l3 + 1))), (1, .long (iL ((31 * l1) + v3))), (0, .ref (a 0))]) hx hb dX5_digest_36 hl (k := 2) rfl (by decide) rfl (fun ls hl => ?_)
        refine lv_goto (tgt := 17) hx hb dX5_digest_39 (by decide) ?_
        exact ih17 ((31 * l1) + v3) (l3 + 1) hf ls (lv_sub hl [2, 1, 0] rfl)
      · have hf := c2f c2
        refine xk_iconst hx hb dX5_digest_42 ?_
        refine lv_istore_n (lv' := [(3, .int (iI 0)), (0, .ref (a 0)), (1, .long (iL l1))]) hx hb dX5_digest_43 rfl hl (by decide) rfl (fun ls hl => ?_)
        have hL44 : ∀ (n4 : Nat) (l1x : Int) (l3x : Int), f5_digest_L44 x n4 l1x l3x = some res → ∀ (ls : Array Slot), lv_has ls 5 [(0, .ref (a 0)), (1, .long (iL l1x)), (3, .int (iI l3x))] → W p l e (headSpec wsX5_digest ({ frames := 5, cells := 0, slots := 0, locals := 109 } : Room)).room s m ([.ref (a 0)] : List Value).toArray below meth c H locs 0 0 (MQ below (xQl (dC, dI) vwCl (w5 cs a x) (w5 cs a res.2) s.heap.size res.1) ([.ref (a 0)] : List Value).toArray s 0 0 (va_A (w5 cs a x) s.heap.size)) (F0 m 44 ls []) := by
          intro  n4
          induction n4 with
          | zero => intro l1x l3x hf; have hf : (none : Option (Int × ModS)) = some res := hf; cases hf
          | succ n4 ih44 =>
            intro l1x l3x hf ls hl
            rw [f5_digest_L44] at hf
            refine lv_iload_n hx hb dX5_digest_44 rfl (lv_at hl 2 rfl) ?_
            refine lv_aload_n hx hb dX5_digest_45 rfl (lv_at hl 0 rfl) ?_
            refine va_get (D := (dC, dI)) (ci := 5) (v := .ref (a 1)) (C := RX5) (T := TX5) (N := 13) hx hb hts hin5 hown hK hP 0 rfl rfl 1 (by decide) (hts (.fieldLink RX5 13 "BoatRunsModel" "now" "[I") (by decide +kernel)) (fun _ h9 => h9) rfl dX5_digest_46 ?_
            refine xk_iconst hx hb dX5_digest_49 ?_
            obtain ⟨v5, ev5, hf⟩ := x_bind hf
            refine xk_iald (f := g5_now x) hx hb hK hP 1 0 ev5 (by decide) rfl rfl dX5_digest_50 ?_
            obtain ⟨c6a, c6b, c6t, c6f⟩ := x_ltE hf
            refine xk_icmp_ge (tgt := 90) hx hb c6a c6b dX5_digest_51 (by decide) (fun c6 => ?_) (fun c6 => ?_)
            · have hf := c6t c6
              refine xk_iconst hx hb dX5_digest_54 ?_
              refine lv_istore (lv' := [(4, .int (iI 0)), (0, .ref (a 0)), (1, .long (iL l1x)), (3, .int (iI l3x))]) hx hb dX5_digest_55 hl (by decide) rfl (fun ls hl => ?_)
              have hL57 : ∀ (n7 : Nat) (l1xx : Int) (l4 : Int), f5_digest_L57 x l3x (f5_digest_L44 x n4) n7 l1xx l4 = some res → ∀ (ls : Array Slot), lv_has ls 5 [(0, .ref (a 0)), (1, .long (iL l1xx)), (3, .int (iI l3x)), (4, .int (iI l4))] → W p l e (headSpec wsX5_digest ({ frames := 5, cells := 0, slots := 0, locals := 109 } : Room)).room s m ([.ref (a 0)] : List Value).toArray below meth c H locs 0 0 (MQ below (xQl (dC, dI) vwCl (w5 cs a x) (w5 cs a res.2) s.heap.size res.1) ([.ref (a 0)] : List Value).toArray s 0 0 (va_A (w5 cs a x) s.heap.size)) (F0 m 57 ls []) := by
                intro  n7
                induction n7 with
                | zero => intro l1xx l4 hf; have hf : (none : Option (Int × ModS)) = some res := hf; cases hf
                | succ n7 ih57 =>
                  intro l1xx l4 hf ls hl
                  rw [f5_digest_L57] at hf
                  refine lv_iload hx hb dX5_digest_57 (lv_at hl 3 rfl) ?_
                  refine xk_iconst hx hb dX5_digest_59 ?_
                  obtain ⟨c8a, c8b, c8t, c8f⟩ := x_ltE hf
                  refine xk_icmp_ge (tgt := 84) hx hb c8a c8b dX5_digest_60 (by decide) (fun c8 => ?_) (fun c8 => ?_)
                  · have hf := c8t c8
                    refine xk_ldc2 (n := 31) hx hb hown (hts (.constantLong RX5 210 (31)) (by decide +kernel)) dX5_digest_63 (by decide) ?_
                    refine lv_lload_n hx hb dX5_digest_66 rfl (lv_at hl 1 rfl) ?_
                    refine xk_lmul hx hb dX5_digest_67 ?_
                    refine lv_aload_n hx hb dX5_digest_68 rfl (lv_at hl 0 rfl) ?_
                    refine lv_iload_n hx hb dX5_digest_69 rfl (lv_at hl 2 rfl) ?_
                    refine lv_iload hx hb dX5_digest_70 (lv_at hl 3 rfl) ?_
                    obtain ⟨v9, ev9, hf⟩ := x_bind hf
                    refine xc_ri (As := [.int (iI l3x), .int (iI l4)]) (rest := [.long (iL (31 * l1xx))]) ⟨hx, hb, hml, hown, hts⟩ (c5_parcelBy l dC dI cs a (s5_thr x 0) l3x l4  _ ev9) (cwV 2 hts gX5_digest_X5_parcelBy rfl rfl rfl cdX5_parcelBy ⟨Nat.le_of_ble_eq_true rfl, Nat.le_of_ble_eq_true rfl⟩) hK hP [0, 1, 2, 3, 4, 5, 6, 7] rfl 0 rfl rfl rfl hl.1 rfl (Nat.le_of_ble_eq_true rfl) dX5_digest_72 ⟨Nat.zero_le _, Nat.zero_le _⟩ ?_
                    obtain ⟨hc, hf⟩ := x_ckE hf
                    refine xk_i2l hx hb hc dX5_digest_75 ?_
                    refine xk_ladd hx hb dX5_digest_76 ?_
                    refine lv_lstore_n (lv' := [(1, .long (iL ((31 * l1xx) + v9))), (0, .ref (a 0)), (3, .int (iI l3x)), (4, .int (iI l4))]) hx hb dX5_digest_77 rfl hl (by decide) rfl (fun ls hl => ?_)
                    refine xk_iinc (lv' := [(4, .int (iI (l4 + 1))), (1, .long (iL ((31 * l1xx) + v9))), (0, .ref (a 0)), (3, .int (iI l3x))]) hx hb dX5_digest_78 hl (k := 3) rfl (by decide) rfl (fun ls hl => ?_)
                    refine lv_goto (tgt := 57) hx hb dX5_digest_81 (by decide) ?_
                    exact ih57 ((31 * l1xx) + v9) (l4 + 1) hf ls (lv_sub hl [2, 1, 3, 0] rfl)
                  · have hf := c8f c8
                    refine xk_iinc (lv' := [(3, .int (iI (l3x + 1))), (0, .ref (a 0)), (1, .long (iL l1xx)), (4, .int (iI l4))]) hx hb dX5_digest_84 hl (k := 2) rfl (by decide) rfl (fun ls hl => ?_)
                    refine lv_goto (tgt := 44) hx hb dX5_digest_87 (by decide) ?_
                    exact ih44 l1xx (l3x + 1) hf ls (lv_sub hl [1, 2, 0] rfl)
              exact hL57  xFU l1x 0 hf ls (lv_sub hl [1, 2, 3, 0] rfl)
            · have hf := c6f c6
              refine xk_iconst hx hb dX5_digest_90 ?_
              refine lv_istore_n (lv' := [(3, .int (iI 0)), (0, .ref (a 0)), (1, .long (iL l1x))]) hx hb dX5_digest_91 rfl hl (by decide) rfl (fun ls hl => ?_)
              have hL92 : ∀ (n10 : Nat) (l1xxx : Int) (l3xx : Int), f5_digest_L92 x n10 l1xxx l3xx = some res → ∀ (ls : Array Slot), lv_has ls 5 [(0, .ref (a 0)), (1, .long (iL l1xxx)), (3, .int (iI l3xx))] → W p l e (headSpec wsX5_digest ({ frames := 5, cells := 0, slots := 0, locals := 109 } : Room)).room s m ([.ref (a 0)] : List Value).toArray below meth c H locs 0 0 (MQ below (xQl (dC, dI) vwCl (w5 cs a x) (w5 cs a res.2) s.heap.size res.1) ([.ref (a 0)] : List Value).toArray s 0 0 (va_A (w5 cs a x) s.heap.size)) (F0 m 92 ls []) := by
                intro  n10
                induction n10 with
                | zero => intro l1xxx l3xx hf; have hf : (none : Option (Int × ModS)) = some res := hf; cases hf
                | succ n10 ih92 =>
                  intro l1xxx l3xx hf ls hl
                  rw [f5_digest_L92] at hf
                  refine lv_iload_n hx hb dX5_digest_92 rfl (lv_at hl 2 rfl) ?_
                  refine lv_aload_n hx hb dX5_digest_93 rfl (lv_at hl 0 rfl) ?_
                  refine va_get (D := (dC, dI)) (ci := 5) (v := .ref (a 1)) (C := RX5) (T := TX5) (N := 13) hx hb hts hin5 hown hK hP 0 rfl rfl 1 (by decide) (hts (.fieldLink RX5 13 "BoatRunsModel" "now" "[I") (by decide +kernel)) (fun _ h9 => h9) rfl dX5_digest_94 ?_
                  refine xk_bipush hx hb dX5_digest_97 (by decide) ?_
                  obtain ⟨v11, ev11, hf⟩ := x_bind hf
                  refine xk_iald (f := g5_now x) hx hb hK hP 1 0 ev11 (by decide) rfl rfl dX5_digest_99 ?_
                  obtain ⟨c12a, c12b, c12t, c12f⟩ := x_ltE hf
                  refine xk_icmp_ge (tgt := 157) hx hb c12a c12b dX5_digest_100 (by decide) (fun c12 => ?_) (fun c12 => ?_)
                  · have hf := c12t c12
                    refine xk_ldc2 (n := 31) hx hb hown (hts (.constantLong RX5 210 (31)) (by decide +kernel)) dX5_digest_103 (by decide) ?_
                    refine lv_lload_n hx hb dX5_digest_106 rfl (lv_at hl 1 rfl) ?_
                    refine xk_lmul hx hb dX5_digest_107 ?_
                    refine lv_aload_n hx hb dX5_digest_108 rfl (lv_at hl 0 rfl) ?_
                    refine lv_iload_n hx hb dX5_digest_109 rfl (lv_at hl 2 rfl) ?_
                    obtain ⟨v13, ev13, hf⟩ := x_bind hf
                    refine xc_ri (As := [.int (iI l3xx)]) (rest := [.long (iL (31 * l1xxx))]) ⟨hx, hb, hml, hown, hts⟩ (c5_numberAt l dC dI cs a (s5_thr x 0) l3xx  _ ev13) (cwV 1 hts gX5_digest_X5_numberAt rfl rfl rfl cdX5_numberAt ⟨Nat.le_of_ble_eq_true rfl, Nat.le_of_ble_eq_true rfl⟩) hK hP [0, 1, 2, 3, 4, 5, 6, 7] rfl 0 rfl rfl rfl hl.1 rfl (Nat.le_of_ble_eq_true rfl) dX5_digest_110 ⟨Nat.zero_le _, Nat.zero_le _⟩ ?_
                    obtain ⟨hc, hf⟩ := x_ckE hf
                    refine xk_i2l hx hb hc dX5_digest_113 ?_
                    refine xk_ladd hx hb dX5_digest_114 ?_
                    refine lv_lstore_n (lv' := [(1, .long (iL ((31 * l1xxx) + v13))), (0, .ref (a 0)), (3, .int (iI l3xx))]) hx hb dX5_digest_115 rfl hl (by decide) rfl (fun ls hl => ?_)
                    refine xk_iconst hx hb dX5_digest_116 ?_
                    refine lv_istore (lv' := [(4, .int (iI 0)), (1, .long (iL ((31 * l1xxx) + v13))), (0, .ref (a 0)), (3, .int (iI l3xx))]) hx hb dX5_digest_117 hl (by decide) rfl (fun ls hl => ?_)
                    have hL119 : ∀ (n14 : Nat) (l1xxxx : Int) (l4x : Int), f5_digest_L119 x l3xx (f5_digest_L92 x n10) n14 l1xxxx l4x = some res → ∀ (ls : Array Slot), lv_has ls 5 [(0, .ref (a 0)), (1, .long (iL l1xxxx)), (3, .int (iI l3xx)), (4, .int (iI l4x))] → W p l e (headSpec wsX5_digest ({ frames := 5, cells := 0, slots := 0, locals := 109 } : Room)).room s m ([.ref (a 0)] : List Value).toArray below meth c H locs 0 0 (MQ below (xQl (dC, dI) vwCl (w5 cs a x) (w5 cs a res.2) s.heap.size res.1) ([.ref (a 0)] : List Value).toArray s 0 0 (va_A (w5 cs a x) s.heap.size)) (F0 m 119 ls []) := by
                      intro  n14
                      induction n14 with
                      | zero => intro l1xxxx l4x hf; have hf : (none : Option (Int × ModS)) = some res := hf; cases hf
                      | succ n14 ih119 =>
                        intro l1xxxx l4x hf ls hl
                        rw [f5_digest_L119] at hf
                        refine lv_iload hx hb dX5_digest_119 (lv_at hl 3 rfl) ?_
                        refine xk_bipush hx hb dX5_digest_121 (by decide) ?_
                        obtain ⟨c15a, c15b, c15t, c15f⟩ := x_ltE hf
                        refine xk_icmp_ge (tgt := 151) hx hb c15a c15b dX5_digest_123 (by decide) (fun c15 => ?_) (fun c15 => ?_)
                        · have hf := c15t c15
                          refine xk_ldc2 (n := 31) hx hb hown (hts (.constantLong RX5 210 (31)) (by decide +kernel)) dX5_digest_126 (by decide) ?_
                          refine lv_lload_n hx hb dX5_digest_129 rfl (lv_at hl 1 rfl) ?_
                          refine xk_lmul hx hb dX5_digest_130 ?_
                          refine lv_aload_n hx hb dX5_digest_131 rfl (lv_at hl 0 rfl) ?_
                          refine lv_aload_n hx hb dX5_digest_132 rfl (lv_at hl 0 rfl) ?_
                          refine lv_iload_n hx hb dX5_digest_133 rfl (lv_at hl 2 rfl) ?_
                          obtain ⟨v16, ev16, hf⟩ := x_bind hf
                          refine xc_ri (As := [.int (iI l3xx)]) (rest := [.ref (a 0), .long (iL (31 * l1xxxx))]) ⟨hx, hb, hml, hown, hts⟩ (c5_numberAt l dC dI cs a (s5_thr x 0) l3xx  _ ev16) (cwV 1 hts gX5_digest_X5_numberAt rfl rfl rfl cdX5_numberAt ⟨Nat.le_of_ble_eq_true rfl, Nat.le_of_ble_eq_true rfl⟩) hK hP [0, 1, 2, 3, 4, 5, 6, 7] rfl 0 rfl rfl rfl hl.1 rfl (Nat.le_of_ble_eq_true rfl) dX5_digest_134 ⟨Nat.zero_le _, Nat.zero_le _⟩ ?_
                          refine lv_iload hx hb dX5_digest_137 (lv_at hl 3 rfl) ?_
                          obtain ⟨v17, ev17, hf⟩ := x_bind hf
                          refine xc_ri (As := [.int (iI v16), .int (iI l4x)]) (rest := [.long (iL (31 * l1xxxx))]) ⟨hx, hb, hml, hown, hts⟩ (c5_runBy l dC dI cs a (s5_thr x 0) v16 l4x  _ ev17) (cwV 2 hts gX5_digest_X5_runBy rfl rfl rfl cdX5_runBy ⟨Nat.le_of_ble_eq_true rfl, Nat.le_of_ble_eq_true rfl⟩) hK hP [0, 1, 2, 3, 4, 5, 6, 7] rfl 0 rfl rfl rfl hl.1 rfl (Nat.le_of_ble_eq_true rfl) dX5_digest_139 ⟨Nat.zero_le _, Nat.zero_le _⟩ ?_
                          obtain ⟨hc, hf⟩ := x_ckE hf
                          refine xk_i2l hx hb hc dX5_digest_142 ?_
                          refine xk_ladd hx hb dX5_digest_143 ?_
                          refine lv_lstore_n (lv' := [(1, .long (iL ((31 * l1xxxx) + v17))), (0, .ref (a 0)), (3, .int (iI l3xx)), (4, .int (iI l4x))]) hx hb dX5_digest_144 rfl hl (by decide) rfl (fun ls hl => ?_)
                          refine xk_iinc (lv' := [(4, .int (iI (l4x + 1))), (1, .long (iL ((31 * l1xxxx) + v17))), (0, .ref (a 0)), (3, .int (iI l3xx))]) hx hb dX5_digest_145 hl (k := 3) rfl (by decide) rfl (fun ls hl => ?_)
                          refine lv_goto (tgt := 119) hx hb dX5_digest_148 (by decide) ?_
                          exact ih119 ((31 * l1xxxx) + v17) (l4x + 1) hf ls (lv_sub hl [2, 1, 3, 0] rfl)
                        · have hf := c15f c15
                          refine xk_iinc (lv' := [(3, .int (iI (l3xx + 1))), (0, .ref (a 0)), (1, .long (iL l1xxxx)), (4, .int (iI l4x))]) hx hb dX5_digest_151 hl (k := 2) rfl (by decide) rfl (fun ls hl => ?_)
                          refine lv_goto (tgt := 92) hx hb dX5_digest_154 (by decide) ?_
                          exact ih92 l1xxxx (l3xx + 1) hf ls (lv_sub hl [1, 2, 0] rfl)
                    exact hL119  xFU ((31 * l1xxx) + v13) 0 hf ls (lv_sub hl [2, 1, 3, 0] rfl)
                  · have hf := c12f c12
                    refine xk_ldc2 (n := 31) hx hb hown (hts (.constantLong RX5 210 (31)) (by decide +kernel)) dX5_digest_157 (by decide) ?_
                    refine lv_lload_n hx hb dX5_digest_160 rfl (lv_at hl 1 rfl) ?_
                    refine xk_lmul hx hb dX5_digest_161 ?_
                    refine lv_aload_n hx hb dX5_digest_162 rfl (lv_at hl 0 rfl) ?_
                    obtain ⟨v18, ev18, hf⟩ := x_bind hf
                    refine xc_ri (As := []) (rest := [.long (iL (31 * l1xxx))]) ⟨hx, hb, hml, hown, hts⟩ (c5_thrownNext l dC dI cs a (s5_thr x 0)  _ ev18) (cwV 0 hts gX5_digest_X5_thrownNext rfl rfl rfl cdX5_thrownNext ⟨Nat.le_of_ble_eq_true rfl, Nat.le_of_ble_eq_true rfl⟩) hK hP [0, 1, 2, 3, 4, 5, 6, 7] rfl 0 rfl rfl rfl hl.1 rfl (Nat.le_of_ble_eq_true rfl) dX5_digest_163 ⟨Nat.zero_le _, Nat.zero_le _⟩ ?_
                    obtain ⟨hc, hf⟩ := x_ckE hf
                    refine xk_i2l hx hb hc dX5_digest_166 ?_
                    refine xk_ladd hx hb dX5_digest_167 ?_
                    refine lv_lstore_n (lv' := [(1, .long (iL ((31 * l1xxx) + v18))), (0, .ref (a 0)), (3, .int (iI l3xx))]) hx hb dX5_digest_168 rfl hl (by decide) rfl (fun ls hl => ?_)
                    refine xk_ldc2 (n := 31) hx hb hown (hts (.constantLong RX5 210 (31)) (by decide +kernel)) dX5_digest_169 (by decide) ?_
                    refine lv_lload_n hx hb dX5_digest_172 rfl (lv_at hl 0 rfl) ?_
                    refine xk_lmul hx hb dX5_digest_173 ?_
                    refine lv_aload_n hx hb dX5_digest_174 rfl (lv_at hl 1 rfl) ?_
                    obtain ⟨⟨v20, x19⟩, ex19, hf⟩ := x_bind hf
                    refine xc_wi (As := []) (rest := [.long (iL (31 * ((31 * l1xxx) + v18)))]) ⟨hx, hb, hml, hown, hts⟩ (c5_costOfAll l dC dI cs a _ (s5_thr x 0)  _ ex19) (cwV 0 hts gX5_digest_X5_costOfAll rfl rfl rfl cdX5_costOfAll ⟨Nat.le_of_ble_eq_true rfl, Nat.le_of_ble_eq_true rfl⟩) hK hP (x_addr hD rfl) hS hA [0, 1, 2, 3, 4, 5, 6, 7] rfl (by decide) rfl 0 rfl rfl rfl hl.1 rfl (Nat.le_of_ble_eq_true rfl) dX5_digest_175 ⟨Nat.zero_le _, Nat.zero_le _⟩ (fun H locs hP hS => ?_)
                    have hP : va_P (dC, dI) vwCl (w5 cs a x19) H := hP
                    obtain ⟨hc, hf⟩ := x_ckE hf
                    refine xk_i2l hx hb hc dX5_digest_178 ?_
                    refine xk_ladd hx hb dX5_digest_179 ?_
                    refine lv_lstore_n (lv' := [(1, .long (iL ((31 * ((31 * l1xxx) + v18)) + v20))), (0, .ref (a 0)), (3, .int (iI l3xx))]) hx hb dX5_digest_180 rfl hl (by decide) rfl (fun ls hl => ?_)
                    refine xk_ldc2 (n := 31) hx hb hown (hts (.constantLong RX5 210 (31)) (by decide +kernel)) dX5_digest_181 (by decide) ?_
                    refine lv_lload_n hx hb dX5_digest_184 rfl (lv_at hl 0 rfl) ?_
                    refine xk_lmul hx hb dX5_digest_185 ?_
                    refine lv_aload_n hx hb dX5_digest_186 rfl (lv_at hl 1 rfl) ?_
                    refine va_get (D := (dC, dI)) (ci := 5) (v := .int (iI (g5_acts x19))) (C := RX5) (T := TX5) (N := 13) hx hb hts hin5 hown hK hP 0 rfl rfl 4 (by decide) (hts (.fieldLink RX5 58 "BoatRunsModel" "acts" "I") (by decide +kernel)) (fun _ h9 => h9) rfl dX5_digest_187 ?_
                    obtain ⟨hc, hf⟩ := x_ckE hf
                    refine xk_i2l hx hb hc dX5_digest_190 ?_
                    refine xk_ladd hx hb dX5_digest_191 ?_
                    obtain rfl := Option.some.inj hf
                    exact xe_wl hx hb hr hlocks hS hP dX5_digest_192
              exact hL92  xFU l1x 0 hf ls (lv_sub hl [1, 2, 0] rfl)
        exact hL44  xFU l1 0 hf ls (lv_sub hl [1, 2, 0] rfl)
  exact hL17  xFU (114421 + g5_typ x) 0 hf ls (lv_sub hl [2, 1, 0] rfl)
theorem cdX5_digest : yX5_digest.cls = RX5 ∧ yX5_digest.cls ≠ "java/lang/invoke/MethodHandle" ∧ yX5_digest.cls ≠ "java/lang/invoke/VarHandle" ∧ (parseMethodDescriptor yX5_digest.desc).map (fun d => d.parameters.length) = some 0 := by decide +kernel

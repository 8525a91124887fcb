set_option maxHeartbeats 4000000 in
set_option maxRecDepth 100000 in
theorem c5_costOfAll (l : Launch) (dC : Nat → ClassId) (dI : Nat → Nat → Nat) (cs : Nat → ClassId) (a : Nat → Nat) (sz : Nat) (x : ModS) (res : Int × ModS) (hf : f5_costOfAll x = some res) : Met l yX5_costOfAll wsX5_costOfAll ({ frames := 3, cells := 0, slots := 0, locals := 67 } : Room) (va_Pc [.ref (a 0)] (xPW (dC, dI) vwCl (w5 cs a x) (xT cs) sz)) (xQi (dC, dI) vwCl (w5 cs a x) (w5 cs a res.2) sz res.1) 0 0 (va_A (w5 cs a x) sz) := by
  refine Met.ofW (cc := cX5_costOfAll) (maxL := 7) (ret := (some .int)) (by decide) rfl ?_
  intro p e s m args below meth c s₁ B hml hv
  obtain ⟨rfl, hsz, hP, hK, hD0⟩ := hv
  have hx := B.exec
  have hb := B.bytes
  have hr := B.returns
  have hts := atoms_spec (ws := wsX5_costOfAll) B.pre
  have hown : s.vm.findClass RX5 = some m.cls := findClass_of_methodNamed B.named
  have hlocks := B.notSynchronized
  have hin5 : ∀ w ∈ wsX50, w ∈ wsX5_costOfAll := by decide +kernel
  subst hsz
  have hD := hD0.self (sz := s.heap.size)
  have hA : ∀ z9 : Nat, s.heap.size ≤ z9 → va_A (w5 cs a x) s.heap.size z9 := fun z9 h => Or.inr h
  have hS : va_S (va_A (w5 cs a x) s.heap.size) s.heap s.heap [] := va_S.rf
  have hl := lv_entry [.ref (a 0)] (n := 7) (Nat.le_of_ble_eq_true rfl)
  rw [lg_entry_eq]
  generalize (lg_sl [.ref (a 0)] ++ List.replicate (7 - (lg_sl [.ref (a 0)]).length) Slot.unset).toArray = ls at hl ⊢
  have hl : lv_has ls 7 [(0, .ref (a 0))] := hl
  unfold f5_costOfAll at hf
  refine xk_iconst hx hb dX5_costOfAll_0 ?_
  refine lv_istore_n (lv' := [(1, .int (iI 0)), (0, .ref (a 0))]) hx hb dX5_costOfAll_1 rfl hl (by decide) rfl (fun ls hl => ?_)
  have hL2 : ∀ (n2 : Nat) (l1 : Int) (x1 : ModS), f5_costOfAll_L2  n2 l1 x1 = some res → ∀ (H : Heap) (locs : List Loc), va_P (dC, dI) vwCl (w5 cs a x1) H → va_S (va_A (w5 cs a x) s.heap.size) s.heap H locs → ∀ (ls : Array Slot), lv_has ls 7 [(0, .ref (a 0)), (1, .int (iI l1))] → W p l e (headSpec wsX5_costOfAll ({ frames := 3, cells := 0, slots := 0, locals := 67 } : Room)).room s m ([.ref (a 0)] : List Value).toArray below meth c H locs 0 0 (MQ below (xQi (dC, dI) vwCl (w5 cs a x) (w5 cs a res.2) s.heap.size res.1) ([.ref (a 0)] : List Value).toArray s 0 0 (va_A (w5 cs a x) s.heap.size)) (F0 m 2 ls []) := by
    intro  n2
    induction n2 with
    | zero => intro l1 x1 hf; have hf : (none : Option (Int × ModS)) = some res := hf; cases hf
    | succ n2 ih2 =>
      intro l1 x1 hf H locs hP hS ls hl
      rw [f5_costOfAll_L2] at hf
      refine lv_iload_n hx hb dX5_costOfAll_2 rfl (lv_at hl 1 rfl) ?_
      refine lv_aload_n hx hb dX5_costOfAll_3 rfl (lv_at hl 0 rfl) ?_
      refine va_get (D := (dC, dI)) (ci := 5) (v := .ref (a 1)) (C := RX5) (T := TX5) (N := 13) hx hb hts hin5 hown hK hP 0 rfl rfl 1 (by decide) (hts (.fieldLink RX5 13 "BoatRunsModel" "now" "[I") (by decide +kernel)) (fun _ h9 => h9) rfl dX5_costOfAll_4 ?_
      refine xk_bipush hx hb dX5_costOfAll_7 (by decide) ?_
      obtain ⟨v3, ev3, hf⟩ := x_bind hf
      refine xk_iald (f := g5_now x1) hx hb hK hP 1 0 ev3 (by decide) rfl rfl dX5_costOfAll_9 ?_
      obtain ⟨c4a, c4b, c4t, c4f⟩ := x_ltE hf
      refine xk_icmp_ge (tgt := 34) hx hb c4a c4b dX5_costOfAll_10 (by decide) (fun c4 => ?_) (fun c4 => ?_)
      · have hf := c4t c4
        refine lv_aload_n hx hb dX5_costOfAll_13 rfl (lv_at hl 0 rfl) ?_
        refine va_get (D := (dC, dI)) (ci := 5) (v := .ref (a 5)) (C := RX5) (T := TX5) (N := 13) hx hb hts hin5 hown hK hP 0 rfl rfl 7 (by decide) (hts (.fieldLink RX5 26 "BoatRunsModel" "left" "[I") (by decide +kernel)) (fun _ h9 => h9) rfl dX5_costOfAll_14 ?_
        refine lv_iload_n hx hb dX5_costOfAll_17 rfl (lv_at hl 1 rfl) ?_
        refine lv_aload_n hx hb dX5_costOfAll_18 rfl (lv_at hl 0 rfl) ?_
        refine lv_aload_n hx hb dX5_costOfAll_19 rfl (lv_at hl 0 rfl) ?_
        refine lv_iload_n hx hb dX5_costOfAll_20 rfl (lv_at hl 1 rfl) ?_
        obtain ⟨v5, ev5, hf⟩ := x_bind hf
        refine xc_ri (As := [.int (iI l1)]) (rest := [.ref (a 0), .int (iI l1), .ref (a 5)]) ⟨hx, hb, hml, hown, hts⟩ (c5_numberAt l dC dI cs a x1 l1  _ ev5) (cwV 1 hts gX5_costOfAll_X5_numberAt rfl rfl rfl cdX5_numberAt ⟨Nat.le_of_ble_eq_true rfl, Nat.le_of_ble_eq_true rfl⟩) hK hP [0, 1, 2, 3, 4, 5, 6, 7] rfl 0 rfl rfl rfl hl.1 rfl (Nat.le_of_ble_eq_true rfl) dX5_costOfAll_21 ⟨Nat.zero_le _, Nat.zero_le _⟩ ?_
        obtain ⟨v6, ev6, hf⟩ := x_bind hf
        refine xc_ri (As := [.int (iI v5)]) (rest := [.int (iI l1), .ref (a 5)]) ⟨hx, hb, hml, hown, hts⟩ (c5_weightOf l dC dI cs a x1 v5  _ ev6) (cwV 1 hts gX5_costOfAll_X5_weightOf rfl rfl rfl cdX5_weightOf ⟨Nat.le_of_ble_eq_true rfl, Nat.le_of_ble_eq_true rfl⟩) hK hP [0, 1, 2, 3, 4, 5, 6, 7] rfl 0 rfl rfl rfl hl.1 rfl (Nat.le_of_ble_eq_true rfl) dX5_costOfAll_24 ⟨Nat.zero_le _, Nat.zero_le _⟩ ?_
        obtain ⟨g7, eg7, hf⟩ := x_bind hf
        refine xk_iast (f := g5_lef x1) hx hb hK hP (x_addr hD rfl) hS 5 0 eg7 (by decide) rfl rfl dX5_costOfAll_27 (fun H locs hP hS => ?_)
        have hP : va_P (dC, dI) vwCl (w5C cs a (g5_thr x1) (g5_acts x1) (g5_typ x1) (g5_lat x1) (g5_pos x1) (g5_wra x1) (g5_now x1) (g5_put x1) (g5_was x1) (g5_txt x1) g7 (g5_abo x1) (g5_ors x1)) H := hP
        refine xk_iinc (lv' := [(1, .int (iI (l1 + 1))), (0, .ref (a 0))]) hx hb dX5_costOfAll_28 hl (k := 1) rfl (by decide) rfl (fun ls hl => ?_)
        refine lv_goto (tgt := 2) hx hb dX5_costOfAll_31 (by decide) ?_
        exact ih2 (l1 + 1) (s5_lef x1 g7) hf _ _ hP hS ls (lv_sub hl [1, 0] rfl)
      · have hf := c4f c4
        refine xk_iconst hx hb dX5_costOfAll_34 ?_
        refine lv_istore_n (lv' := [(1, .int (iI 0)), (0, .ref (a 0))]) hx hb dX5_costOfAll_35 rfl hl (by decide) rfl (fun ls hl => ?_)
        refine lv_aload_n hx hb dX5_costOfAll_36 rfl (lv_at hl 1 rfl) ?_
        refine va_get (D := (dC, dI)) (ci := 5) (v := .ref (a 1)) (C := RX5) (T := TX5) (N := 13) hx hb hts hin5 hown hK hP 0 rfl rfl 1 (by decide) (hts (.fieldLink RX5 13 "BoatRunsModel" "now" "[I") (by decide +kernel)) (fun _ h9 => h9) rfl dX5_costOfAll_37 ?_
        refine xk_bipush hx hb dX5_costOfAll_40 (by decide) ?_
        obtain ⟨v8, ev8, hf⟩ := x_bind hf
        refine xk_iald (f := g5_now x1) hx hb hK hP 1 0 ev8 (by decide) rfl rfl dX5_costOfAll_42 ?_
        refine lv_istore_n (lv' := [(2, .int (iI v8)), (1, .int (iI 0)), (0, .ref (a 0))]) hx hb dX5_costOfAll_43 rfl hl (by decide) rfl (fun ls hl => ?_)
        have hL44 : ∀ (n10 : Nat) (l1x : Int) (l2 : Int) (x9 : ModS), f5_costOfAll_L44  n10 l1x l2 x9 = some res → ∀ (H : Heap) (locs : List Loc), va_P (dC, dI) vwCl (w5 cs a x9) H → va_S (va_A (w5 cs a x) s.heap.size) s.heap H locs → ∀ (ls : Array Slot), lv_has ls 7 [(0, .ref (a 0)), (1, .int (iI l1x)), (2, .int (iI l2))] → W p l e (headSpec wsX5_costOfAll ({ frames := 3, cells := 0, slots := 0, locals := 67 } : Room)).room s m ([.ref (a 0)] : List Value).toArray below meth c H locs 0 0 (MQ below (xQi (dC, dI) vwCl (w5 cs a x) (w5 cs a res.2) s.heap.size res.1) ([.ref (a 0)] : List Value).toArray s 0 0 (va_A (w5 cs a x) s.heap.size)) (F0 m 44 ls []) := by
          intro  n10
          induction n10 with
          | zero => intro l1x l2 x9 hf; have hf : (none : Option (Int × ModS)) = some res := hf; cases hf
          | succ n10 ih44 =>
            intro l1x l2 x9 hf H locs hP hS ls hl
            rw [f5_costOfAll_L44] at hf
            refine lv_iload_n hx hb dX5_costOfAll_44 rfl (lv_at hl 2 rfl) ?_
            refine xk_iconst hx hb dX5_costOfAll_45 ?_
            obtain ⟨c11a, c11b, c11t, c11f⟩ := x_ltE hf
            refine xk_icmp_le (tgt := 127) hx hb c11b c11a dX5_costOfAll_46 (by decide) (fun c11 => ?_) (fun c11 => ?_)
            · have hf := c11t c11
              refine lv_aload_n hx hb dX5_costOfAll_49 rfl (lv_at hl 0 rfl) ?_
              refine xk_iconst hx hb dX5_costOfAll_50 ?_
              obtain ⟨v12, ev12, hf⟩ := x_bind hf
              refine xc_ri (As := [.int (iI (-1))]) (rest := []) ⟨hx, hb, hml, hown, hts⟩ (c5_lightestLeft l dC dI cs a x9 (-1)  _ ev12) (cwV 1 hts gX5_costOfAll_X5_lightestLeft rfl rfl rfl cdX5_lightestLeft ⟨Nat.le_of_ble_eq_true rfl, Nat.le_of_ble_eq_true rfl⟩) hK hP [0, 1, 2, 3, 4, 5, 6, 7] rfl 0 rfl rfl rfl hl.1 rfl (Nat.le_of_ble_eq_true rfl) dX5_costOfAll_51 ⟨Nat.zero_le _, Nat.zero_le _⟩ ?_
              refine lv_istore_n (lv' := [(3, .int (iI v12)), (0, .ref (a 0)), (1, .int (iI l1x)), (2, .int (iI l2))]) hx hb dX5_costOfAll_54 rfl hl (by decide) rfl (fun ls hl => ?_)
              refine lv_aload_n hx hb dX5_costOfAll_55 rfl (lv_at hl 1 rfl) ?_
              refine lv_iload_n hx hb dX5_costOfAll_56 rfl (lv_at hl 0 rfl) ?_
              obtain ⟨v13, ev13, hf⟩ := x_bind hf
              refine xc_ri (As := [.int (iI v12)]) (rest := []) ⟨hx, hb, hml, hown, hts⟩ (c5_lightestLeft l dC dI cs a x9 v12  _ ev13) (cwV 1 hts gX5_costOfAll_X5_lightestLeft rfl rfl rfl cdX5_lightestLeft ⟨Nat.le_of_ble_eq_true rfl, Nat.le_of_ble_eq_true rfl⟩) hK hP [0, 1, 2, 3, 4, 5, 6, 7] rfl 0 rfl rfl rfl hl.1 rfl (Nat.le_of_ble_eq_true rfl) dX5_costOfAll_57 ⟨Nat.zero_le _, Nat.zero_le _⟩ ?_
              refine lv_istore (lv' := [(4, .int (iI v13)), (3, .int (iI v12)), (0, .ref (a 0)), (1, .int (iI l1x)), (2, .int (iI l2))]) hx hb dX5_costOfAll_60 hl (by decide) rfl (fun ls hl => ?_)
              refine lv_iload_n hx hb dX5_costOfAll_62 rfl (lv_at hl 1 rfl) ?_
              refine lv_iload hx hb dX5_costOfAll_63 (lv_at hl 0 rfl) ?_
              obtain ⟨c14a, c14b, c14t, c14f⟩ := x_ltE hf
              refine xk_icmp_ge (tgt := 72) hx hb c14a c14b dX5_costOfAll_65 (by decide) (fun c14 => ?_) (fun c14 => ?_)
              · have hf := c14t c14
                refine lv_iload_n hx hb dX5_costOfAll_68 rfl (lv_at hl 1 rfl) ?_
                refine lv_goto (tgt := 74) hx hb dX5_costOfAll_69 (by decide) ?_
                refine lv_istore (lv' := [(5, .int (iI v12)), (4, .int (iI v13)), (3, .int (iI v12)), (0, .ref (a 0)), (1, .int (iI l1x)), (2, .int (iI l2))]) hx hb dX5_costOfAll_74 hl (by decide) rfl (fun ls hl => ?_)
                refine lv_aload_n hx hb dX5_costOfAll_76 rfl (lv_at hl 3 rfl) ?_
                refine va_get (D := (dC, dI)) (ci := 5) (v := .ref (a 5)) (C := RX5) (T := TX5) (N := 13) hx hb hts hin5 hown hK hP 0 rfl rfl 7 (by decide) (hts (.fieldLink RX5 26 "BoatRunsModel" "left" "[I") (by decide +kernel)) (fun _ h9 => h9) rfl dX5_costOfAll_77 ?_
                refine lv_iload_n hx hb dX5_costOfAll_80 rfl (lv_at hl 2 rfl) ?_
                obtain ⟨v15, ev15, hf⟩ := x_bind hf
                refine xk_iald (f := g5_lef x9) hx hb hK hP 5 0 ev15 (by decide) rfl rfl dX5_costOfAll_81 ?_
                refine lv_aload_n hx hb dX5_costOfAll_82 rfl (lv_at hl 3 rfl) ?_
                refine va_get (D := (dC, dI)) (ci := 5) (v := .ref (a 5)) (C := RX5) (T := TX5) (N := 13) hx hb hts hin5 hown hK hP 0 rfl rfl 7 (by decide) (hts (.fieldLink RX5 26 "BoatRunsModel" "left" "[I") (by decide +kernel)) (fun _ h9 => h9) rfl dX5_costOfAll_83 ?_
                refine lv_iload hx hb dX5_costOfAll_86 (lv_at hl 1 rfl) ?_
                obtain ⟨v16, ev16, hf⟩ := x_bind hf
                refine xk_iald (f := g5_lef x9) hx hb hK hP 5 0 ev16 (by decide) rfl rfl dX5_costOfAll_88 ?_
                refine xk_iadd hx hb dX5_costOfAll_89 ?_
                refine lv_istore (lv' := [(6, .int (iI (v15 + v16))), (5, .int (iI v12)), (4, .int (iI v13)), (3, .int (iI v12)), (0, .ref (a 0)), (1, .int (iI l1x)), (2, .int (iI l2))]) hx hb dX5_costOfAll_90 hl (by decide) rfl (fun ls hl => ?_)
                refine lv_aload_n hx hb dX5_costOfAll_92 rfl (lv_at hl 4 rfl) ?_
                refine va_get (D := (dC, dI)) (ci := 5) (v := .ref (a 5)) (C := RX5) (T := TX5) (N := 13) hx hb hts hin5 hown hK hP 0 rfl rfl 7 (by decide) (hts (.fieldLink RX5 26 "BoatRunsModel" "left" "[I") (by decide +kernel)) (fun _ h9 => h9) rfl dX5_costOfAll_93 ?_
                refine lv_iload_n hx hb dX5_costOfAll_96 rfl (lv_at hl 3 rfl) ?_
                refine xk_iconst hx hb dX5_costOfAll_97 ?_
                obtain ⟨g17, eg17, hf⟩ := x_bind hf
                refine xk_iast (f := g5_lef x9) hx hb hK hP (x_addr hD rfl) hS 5 0 eg17 (by decide) rfl rfl dX5_costOfAll_98 (fun H locs hP hS => ?_)
                have hP : va_P (dC, dI) vwCl (w5C cs a (g5_thr x9) (g5_acts x9) (g5_typ x9) (g5_lat x9) (g5_pos x9) (g5_wra x9) (g5_now x9) (g5_put x9) (g5_was x9) (g5_txt x9) g17 (g5_abo x9) (g5_ors x9)) H := hP
                refine lv_aload_n hx hb dX5_costOfAll_99 rfl (lv_at hl 4 rfl) ?_
                refine va_get (D := (dC, dI)) (ci := 5) (v := .ref (a 5)) (C := RX5) (T := TX5) (N := 13) hx hb hts hin5 hown hK hP 0 rfl rfl 7 (by decide) (hts (.fieldLink RX5 26 "BoatRunsModel" "left" "[I") (by decide +kernel)) (fun _ h9 => h9) rfl dX5_costOfAll_100 ?_
                refine lv_iload hx hb dX5_costOfAll_103 (lv_at hl 2 rfl) ?_
                refine xk_iconst hx hb dX5_costOfAll_105 ?_
                obtain ⟨g18, eg18, hf⟩ := x_bind hf
                refine xk_iast (f := g17) hx hb hK hP (x_addr hD rfl) hS 5 0 eg18 (by decide) rfl rfl dX5_costOfAll_106 (fun H locs hP hS => ?_)
                have hP : va_P (dC, dI) vwCl (w5C cs a (g5_thr x9) (g5_acts x9) (g5_typ x9) (g5_lat x9) (g5_pos x9) (g5_wra x9) (g5_now x9) (g5_put x9) (g5_was x9) (g5_txt x9) g18 (g5_abo x9) (g5_ors x9)) H := hP
                refine lv_aload_n hx hb dX5_costOfAll_107 rfl (lv_at hl 4 rfl) ?_
                refine va_get (D := (dC, dI)) (ci := 5) (v := .ref (a 5)) (C := RX5) (T := TX5) (N := 13) hx hb hts hin5 hown hK hP 0 rfl rfl 7 (by decide) (hts (.fieldLink RX5 26 "BoatRunsModel" "left" "[I") (by decide +kernel)) (fun _ h9 => h9) rfl dX5_costOfAll_108 ?_
                refine lv_iload hx hb dX5_costOfAll_111 (lv_at hl 1 rfl) ?_
                refine lv_iload hx hb dX5_costOfAll_113 (lv_at hl 0 rfl) ?_
                obtain ⟨g19, eg19, hf⟩ := x_bind hf
                refine xk_iast (f := g18) hx hb hK hP (x_addr hD rfl) hS 5 0 eg19 (by decide) rfl rfl dX5_costOfAll_115 (fun H locs hP hS => ?_)
                have hP : va_P (dC, dI) vwCl (w5C cs a (g5_thr x9) (g5_acts x9) (g5_typ x9) (g5_lat x9) (g5_pos x9) (g5_wra x9) (g5_now x9) (g5_put x9) (g5_was x9) (g5_txt x9) g19 (g5_abo x9) (g5_ors x9)) H := hP
                refine lv_iload_n hx hb dX5_costOfAll_116 rfl (lv_at hl 5 rfl) ?_
                refine lv_iload hx hb dX5_costOfAll_117 (lv_at hl 0 rfl) ?_
                refine xk_iadd hx hb dX5_costOfAll_119 ?_
                refine lv_istore_n (lv' := [(1, .int (iI (l1x + (v15 + v16)))), (6, .int (iI (v15 + v16))), (5, .int (iI v12)), (4, .int (iI v13)), (3, .int (iI v12)), (0, .ref (a 0)), (2, .int (iI l2))]) hx hb dX5_costOfAll_120 rfl hl (by decide) rfl (fun ls hl => ?_)
                refine xk_iinc (lv' := [(2, .int (iI (l2 + (-1)))), (1, .int (iI (l1x + (v15 + v16)))), (6, .int (iI (v15 + v16))), (5, .int (iI v12)), (4, .int (iI v13)), (3, .int (iI v12)), (0, .ref (a 0))]) hx hb dX5_costOfAll_121 hl (k := 6) rfl (by decide) rfl (fun ls hl => ?_)
                refine lv_goto (tgt := 44) hx hb dX5_costOfAll_124 (by decide) ?_
                exact ih44 (l1x + (v15 + v16)) (l2 + (-1)) (s5_lef (s5_lef (s5_lef x9 g17) g18) g19) hf _ _ hP hS ls (lv_sub hl [6, 1, 0] rfl)
              · have hf := c14f c14
                refine lv_iload hx hb dX5_costOfAll_72 (lv_at hl 0 rfl) ?_
                refine lv_istore (lv' := [(5, .int (iI v13)), (4, .int (iI v13)), (3, .int (iI v12)), (0, .ref (a 0)), (1, .int (iI l1x)), (2, .int (iI l2))]) hx hb dX5_costOfAll_74 hl (by decide) rfl (fun ls hl => ?_)
                refine lv_aload_n hx hb dX5_costOfAll_76 rfl (lv_at hl 3 rfl) ?_
                refine va_get (D := (dC, dI)) (ci := 5) (v := .ref (a 5)) (C := RX5) (T := TX5) (N := 13) hx hb hts hin5 hown hK hP 0 rfl rfl 7 (by decide) (hts (.fieldLink RX5 26 "BoatRunsModel" "left" "[I") (by decide +kernel)) (fun _ h9 => h9) rfl dX5_costOfAll_77 ?_
                refine lv_iload_n hx hb dX5_costOfAll_80 rfl (lv_at hl 2 rfl) ?_
                obtain ⟨v20, ev20, hf⟩ := x_bind hf
                refine xk_iald (f := g5_lef x9) hx hb hK hP 5 0 ev20 (by decide) rfl rfl dX5_costOfAll_81 ?_
                refine lv_aload_n hx hb dX5_costOfAll_82 rfl (lv_at hl 3 rfl) ?_
                refine va_get (D := (dC, dI)) (ci := 5) (v := .ref (a 5)) (C := RX5) (T := TX5) (N := 13) hx hb hts hin5 hown hK hP 0 rfl rfl 7 (by decide) (hts (.fieldLink RX5 26 "BoatRunsModel" "left" "[I") (by decide +kernel)) (fun _ h9 => h9) rfl dX5_costOfAll_83 ?_
                refine lv_iload hx hb dX5_costOfAll_86 (lv_at hl 1 rfl) ?_
                obtain ⟨v21, ev21, hf⟩ := x_bind hf
                refine xk_iald (f := g5_lef x9) hx hb hK hP 5 0 ev21 (by decide) rfl rfl dX5_costOfAll_88 ?_
                refine xk_iadd hx hb dX5_costOfAll_89 ?_
                refine lv_istore (lv' := [(6, .int (iI (v20 + v21))), (5, .int (iI v13)), (4, .int (iI v13)), (3, .int (iI v12)), (0, .ref (a 0)), (1, .int (iI l1x)), (2, .int (iI l2))]) hx hb dX5_costOfAll_90 hl (by decide) rfl (fun ls hl => ?_)
                refine lv_aload_n hx hb dX5_costOfAll_92 rfl (lv_at hl 4 rfl) ?_
                refine va_get (D := (dC, dI)) (ci := 5) (v := .ref (a 5)) (C := RX5) (T := TX5) (N := 13) hx hb hts hin5 hown hK hP 0 rfl rfl 7 (by decide) (hts (.fieldLink RX5 26 "BoatRunsModel" "left" "[I") (by decide +kernel)) (fun _ h9 => h9) rfl dX5_costOfAll_93 ?_
                refine lv_iload_n hx hb dX5_costOfAll_96 rfl (lv_at hl 3 rfl) ?_
                refine xk_iconst hx hb dX5_costOfAll_97 ?_
                obtain ⟨g22, eg22, hf⟩ := x_bind hf
                refine xk_iast (f := g5_lef x9) hx hb hK hP (x_addr hD rfl) hS 5 0 eg22 (by decide) rfl rfl dX5_costOfAll_98 (fun H locs hP hS => ?_)
                have hP : va_P (dC, dI) vwCl (w5C cs a (g5_thr x9) (g5_acts x9) (g5_typ x9) (g5_lat x9) (g5_pos x9) (g5_wra x9) (g5_now x9) (g5_put x9) (g5_was x9) (g5_txt x9) g22 (g5_abo x9) (g5_ors x9)) H := hP
                refine lv_aload_n hx hb dX5_costOfAll_99 rfl (lv_at hl 4 rfl) ?_
                refine va_get (D := (dC, dI)) (ci := 5) (v := .ref (a 5)) (C := RX5) (T := TX5) (N := 13) hx hb hts hin5 hown hK hP 0 rfl rfl 7 (by decide) (hts (.fieldLink RX5 26 "BoatRunsModel" "left" "[I") (by decide +kernel)) (fun _ h9 => h9) rfl dX5_costOfAll_100 ?_
                refine lv_iload hx hb dX5_costOfAll_103 (lv_at hl 2 rfl) ?_
                refine xk_iconst hx hb dX5_costOfAll_105 ?_
                obtain ⟨g23, eg23, hf⟩ := x_bind hf
                refine xk_iast (f := g22) hx hb hK hP (x_addr hD rfl) hS 5 0 eg23 (by decide) rfl rfl dX5_costOfAll_106 (fun H locs hP hS => ?_)
                have hP : va_P (dC, dI) vwCl (w5C cs a (g5_thr x9) (g5_acts x9) (g5_typ x9) (g5_lat x9) (g5_pos x9) (g5_wra x9) (g5_now x9) (g5_put x9) (g5_was x9) (g5_txt x9) g23 (g5_abo x9) (g5_ors x9)) H := hP
                refine lv_aload_n hx hb dX5_costOfAll_107 rfl (lv_at hl 4 rfl) ?_
                refine va_get (D := (dC, dI)) (ci := 5) (v := .ref (a 5)) (C := RX5) (T := TX5) (N := 13) hx hb hts hin5 hown hK hP 0 rfl rfl 7 (by decide) (hts (.fieldLink RX5 26 "BoatRunsModel" "left" "[I") (by decide +kernel)) (fun _ h9 => h9) rfl dX5_costOfAll_108 ?_
                refine lv_iload hx hb dX5_costOfAll_111 (lv_at hl 1 rfl) ?_
                refine lv_iload hx hb dX5_costOfAll_113 (lv_at hl 0 rfl) ?_
                obtain ⟨g24, eg24, hf⟩ := x_bind hf
                refine xk_iast (f := g23) hx hb hK hP (x_addr hD rfl) hS 5 0 eg24 (by decide) rfl rfl dX5_costOfAll_115 (fun H locs hP hS => ?_)
                have hP : va_P (dC, dI) vwCl (w5C cs a (g5_thr x9) (g5_acts x9) (g5_typ x9) (g5_lat x9) (g5_pos x9) (g5_wra x9) (g5_now x9) (g5_put x9) (g5_was x9) (g5_txt x9) g24 (g5_abo x9) (g5_ors x9)) H := hP
                refine lv_iload_n hx hb dX5_costOfAll_116 rfl (lv_at hl 5 rfl) ?_
                refine lv_iload hx hb dX5_costOfAll_117 (lv_at hl 0 rfl) ?_
                refine xk_iadd hx hb dX5_costOfAll_119 ?_
                refine lv_istore_n (lv' := [(1, .int (iI (l1x + (v20 + v21)))), (6, .int (iI (v20 + v21))), (5, .int (iI v13)), (4, .int (iI v13)), (3, .int (iI v12)), (0, .ref (a 0)), (2, .int (iI l2))]) hx hb dX5_costOfAll_120 rfl hl (by decide) rfl (fun ls hl => ?_)
                refine xk_iinc (lv' := [(2, .int (iI (l2 + (-1)))), (1, .int (iI (l1x + (v20 + v21)))), (6, .int (iI (v20 + v21))), (5, .int (iI v13)), (4, .int (iI v13)), (3, .int (iI v12)), (0, .ref (a 0))]) hx hb dX5_costOfAll_121 hl (k := 6) rfl (by decide) rfl (fun ls hl => ?_)
                refine lv_goto (tgt := 44) hx hb dX5_costOfAll_124 (by decide) ?_
                exact ih44 (l1x + (v20 + v21)) (l2 + (-1)) (s5_lef (s5_lef (s5_lef x9 g22) g23) g24) hf _ _ hP hS ls (lv_sub hl [6, 1, 0] rfl)
            · have hf := c11f c11
              refine lv_iload_n hx hb dX5_costOfAll_127 rfl (lv_at hl 1 rfl) ?_
              obtain rfl := Option.some.inj hf
              exact xe_wi hx hb hr hlocks hS hP dX5_costOfAll_128
        exact hL44  xFU 0 v8 x1 hf _ _ hP hS ls (lv_sub hl [2, 1, 0] rfl)
  exact hL2  xFU 0 x hf _ _ hP hS ls (lv_sub hl [1, 0] rfl)
theorem cdX5_costOfAll : yX5_costOfAll.cls = RX5 ∧ yX5_costOfAll.cls ≠ "java/lang/invoke/MethodHandle" ∧ yX5_costOfAll.cls ≠ "java/lang/invoke/VarHandle" ∧ (parseMethodDescriptor yX5_costOfAll.desc).map (fun d => d.parameters.length) = some 0 := by decide +kernel

set_option maxHeartbeats 4000000 in
set_option maxRecDepth 100000 in
theorem c5_costByWeight (l : Launch) (dC : Nat → ClassId) (dI : Nat → Nat → Nat) (cs : Nat → ClassId) (a : Nat → Nat) (sz : Nat) (x : ModS) (res : Int × ModS) (hf : f5_costByWeight x = some res) : Met l yX5_costByWeight wsX5_costByWeight ({ frames := 4, cells := 0, slots := 0, locals := 93 } : Room) (va_Pc [.ref (a 0)] (xPW (dC, dI) vwCl (w5 cs a x) (xT cs) sz)) (xQi (dC, dI) vwCl (w5 cs a x) (w5 cs a res.2) sz res.1) 0 0 (va_A (w5 cs a x) sz) := by
  refine Met.ofW (cc := cX5_costByWeight) (maxL := 1) (ret := (some .int)) (by decide) rfl ?_
  intro p e s m args below meth c s₁ B hml hv
  obtain ⟨rfl, hsz, hP, hK, hD0⟩ := hv
  have hx := B.exec
  have hb := B.bytes
  have hr := B.returns
  have hts := atoms_spec (ws := wsX5_costByWeight) B.pre
  have hown : s.vm.findClass RX5 = some m.cls := findClass_of_methodNamed B.named
  have hlocks := B.notSynchronized
  have hin5 : ∀ w ∈ wsX50, w ∈ wsX5_costByWeight := by decide +kernel
  subst hsz
  have hD := hD0.self (sz := s.heap.size)
  have hA : ∀ z9 : Nat, s.heap.size ≤ z9 → va_A (w5 cs a x) s.heap.size z9 := fun z9 h => Or.inr h
  have hS : va_S (va_A (w5 cs a x) s.heap.size) s.heap s.heap [] := va_S.rf
  have hl := lv_entry [.ref (a 0)] (n := 1) (Nat.le_of_ble_eq_true rfl)
  rw [lg_entry_eq]
  generalize (lg_sl [.ref (a 0)] ++ List.replicate (1 - (lg_sl [.ref (a 0)]).length) Slot.unset).toArray = ls at hl ⊢
  have hl : lv_has ls 1 [(0, .ref (a 0))] := hl
  unfold f5_costByWeight at hf
  refine lv_aload_n hx hb dX5_costByWeight_0 rfl (lv_at hl 0 rfl) ?_
  refine xk_iconst hx hb dX5_costByWeight_1 ?_
  refine va_put (D := (dC, dI)) (ci := 5) (v := .int (iI 0)) (ty := .int) (C := RX5) (T := TX5) (N := 13) hx hb hts hin5 tyX5 tyX5_ok nmX5 hown hK hP (x_addr hD rfl) hS 0 rfl rfl 0 (by decide) (hts (.fieldLink RX5 1 "BoatRunsModel" "thrown" "I") (by decide +kernel)) (fun _ h9 => h9) rfl (by decide +kernel) rfl rfl (Nat.le_of_ble_eq_true rfl) dX5_costByWeight_2 (fun H locs hP _ hS => ?_)
  have hP : va_P (dC, dI) vwCl (w5C cs a 0 (g5_acts x) (g5_typ x) (g5_lat x) (g5_pos x) (g5_wra x) (g5_now x) (g5_put x) (g5_was x) (g5_txt x) (g5_lef x) (g5_abo x) (g5_ors x)) H := hP
  refine lv_aload_n hx hb dX5_costByWeight_5 rfl (lv_at hl 0 rfl) ?_
  obtain ⟨⟨v2, x1⟩, ex1, hf⟩ := x_bind hf
  refine xc_wi (As := []) (rest := []) ⟨hx, hb, hml, hown, hts⟩ (c5_costOfAll l dC dI cs a _ (s5_thr x 0)  _ ex1) (cwV 0 hts gX5_costByWeight_X5_costOfAll rfl rfl rfl cdX5_costOfAll ⟨Nat.le_of_ble_eq_true rfl, Nat.le_of_ble_eq_true rfl⟩) hK hP (x_addr hD rfl) hS hA [0, 1, 2, 3, 4, 5, 6, 7] rfl (by decide) rfl 0 rfl rfl rfl hl.1 rfl (Nat.le_of_ble_eq_true rfl) dX5_costByWeight_6 ⟨Nat.zero_le _, Nat.zero_le _⟩ (fun H locs hP hS => ?_)
  have hP : va_P (dC, dI) vwCl (w5 cs a x1) H := hP
  obtain rfl := Option.some.inj hf
  exact xe_wi hx hb hr hlocks hS hP dX5_costByWeight_9
theorem cdX5_costByWeight : yX5_costByWeight.cls = RX5 ∧ yX5_costByWeight.cls ≠ "java/lang/invoke/MethodHandle" ∧ yX5_costByWeight.cls ≠ "java/lang/invoke/VarHandle" ∧ (parseMethodDescriptor yX5_costByWeight.desc).map (fun d => d.parameters.length) = some 0 := by decide +kernel

set_option maxHeartbeats 4000000 in
set_option maxRecDepth 100000 in
theorem c5_costByNumber (l : Launch) (dC : Nat → ClassId) (dI : Nat → Nat → Nat) (cs : Nat → ClassId) (a : Nat → Nat) (sz : Nat) (x : ModS) (res : Int × ModS) (hf : f5_costByNumber x = some res) : Met l yX5_costByNumber wsX5_costByNumber ({ frames := 3, cells := 0, slots := 0, locals := 67 } : Room) (va_Pc [.ref (a 0)] (xPW (dC, dI) vwCl (w5 cs a x) (xT cs) sz)) (xQi (dC, dI) vwCl (w5 cs a x) (w5 cs a res.2) sz res.1) 0 0 (va_A (w5 cs a x) sz) := by
  refine Met.ofW (cc := cX5_costByNumber) (maxL := 4) (ret := (some .int)) (by decide) rfl ?_
  intro p e s m args below meth c s₁ B hml hv
  obtain ⟨rfl, hsz, hP, hK, hD0⟩ := hv
  have hx := B.exec
  have hb := B.bytes
  have hr := B.returns
  have hts := atoms_spec (ws := wsX5_costByNumber) B.pre
  have hown : s.vm.findClass RX5 = some m.cls := findClass_of_methodNamed B.named
  have hlocks := B.notSynchronized
  have hin5 : ∀ w ∈ wsX50, w ∈ wsX5_costByNumber := by decide +kernel
  subst hsz
  have hD := hD0.self (sz := s.heap.size)
  have hA : ∀ z9 : Nat, s.heap.size ≤ z9 → va_A (w5 cs a x) s.heap.size z9 := fun z9 h => Or.inr h
  have hS : va_S (va_A (w5 cs a x) s.heap.size) s.heap s.heap [] := va_S.rf
  have hl := lv_entry [.ref (a 0)] (n := 4) (Nat.le_of_ble_eq_true rfl)
  rw [lg_entry_eq]
  generalize (lg_sl [.ref (a 0)] ++ List.replicate (4 - (lg_sl [.ref (a 0)]).length) Slot.unset).toArray = ls at hl ⊢
  have hl : lv_has ls 4 [(0, .ref (a 0))] := hl
  unfold f5_costByNumber at hf
  refine lv_aload_n hx hb dX5_costByNumber_0 rfl (lv_at hl 0 rfl) ?_
  refine xk_iconst hx hb dX5_costByNumber_1 ?_
  refine va_put (D := (dC, dI)) (ci := 5) (v := .int (iI 0)) (ty := .int) (C := RX5) (T := TX5) (N := 13) hx hb hts hin5 tyX5 tyX5_ok nmX5 hown hK hP (x_addr hD rfl) hS 0 rfl rfl 0 (by decide) (hts (.fieldLink RX5 1 "BoatRunsModel" "thrown" "I") (by decide +kernel)) (fun _ h9 => h9) rfl (by decide +kernel) rfl rfl (Nat.le_of_ble_eq_true rfl) dX5_costByNumber_2 (fun H locs hP _ hS => ?_)
  have hP : va_P (dC, dI) vwCl (w5C cs a 0 (g5_acts x) (g5_typ x) (g5_lat x) (g5_pos x) (g5_wra x) (g5_now x) (g5_put x) (g5_was x) (g5_txt x) (g5_lef x) (g5_abo x) (g5_ors x)) H := hP
  refine xk_iconst hx hb dX5_costByNumber_5 ?_
  refine lv_istore_n (lv' := [(1, .int (iI 0)), (0, .ref (a 0))]) hx hb dX5_costByNumber_6 rfl hl (by decide) rfl (fun ls hl => ?_)
  refine xk_iconst hx hb dX5_costByNumber_7 ?_
  refine lv_istore_n (lv' := [(2, .int (iI 0)), (1, .int (iI 0)), (0, .ref (a 0))]) hx hb dX5_costByNumber_8 rfl hl (by decide) rfl (fun ls hl => ?_)
  refine xk_iconst hx hb dX5_costByNumber_9 ?_
  refine lv_istore_n (lv' := [(3, .int (iI 0)), (2, .int (iI 0)), (1, .int (iI 0)), (0, .ref (a 0))]) hx hb dX5_costByNumber_10 rfl hl (by decide) rfl (fun ls hl => ?_)
  have hL11 : ∀ (n1 : Nat) (l1 : Int) (l2 : Int) (l3 : Int), f5_costByNumber_L11 x n1 l1 l2 l3 = some res → ∀ (ls : Array Slot), lv_has ls 4 [(0, .ref (a 0)), (1, .int (iI l1)), (2, .int (iI l2)), (3, .int (iI l3))] → W p l e (headSpec wsX5_costByNumber ({ frames := 3, cells := 0, slots := 0, locals := 67 } : Room)).room s m ([.ref (a 0)] : List Value).toArray below meth c H locs 0 0 (MQ below (xQi (dC, dI) vwCl (w5 cs a x) (w5 cs a res.2) s.heap.size res.1) ([.ref (a 0)] : List Value).toArray s 0 0 (va_A (w5 cs a x) s.heap.size)) (F0 m 11 ls []) := by
    intro  n1
    induction n1 with
    | zero => intro l1 l2 l3 hf; have hf : (none : Option (Int × ModS)) = some res := hf; cases hf
    | succ n1 ih11 =>
      intro l1 l2 l3 hf ls hl
      rw [f5_costByNumber_L11] at hf
      refine lv_iload_n hx hb dX5_costByNumber_11 rfl (lv_at hl 3 rfl) ?_
      refine lv_aload_n hx hb dX5_costByNumber_12 rfl (lv_at hl 0 rfl) ?_
      refine va_get (D := (dC, dI)) (ci := 5) (v := .ref (a 1)) (C := RX5) (T := TX5) (N := 13) hx hb hts hin5 hown hK hP 0 rfl rfl 1 (by decide) (hts (.fieldLink RX5 13 "BoatRunsModel" "now" "[I") (by decide +kernel)) (fun _ h9 => h9) rfl dX5_costByNumber_13 ?_
      refine xk_bipush hx hb dX5_costByNumber_16 (by decide) ?_
      obtain ⟨v2, ev2, hf⟩ := x_bind hf
      refine xk_iald (f := g5_now x) hx hb hK hP 1 0 ev2 (by decide) rfl rfl dX5_costByNumber_18 ?_
      obtain ⟨c3a, c3b, c3t, c3f⟩ := x_ltE hf
      refine xk_icmp_ge (tgt := 52) hx hb c3a c3b dX5_costByNumber_19 (by decide) (fun c3 => ?_) (fun c3 => ?_)
      · have hf := c3t c3
        refine lv_iload_n hx hb dX5_costByNumber_22 rfl (lv_at hl 2 rfl) ?_
        refine lv_aload_n hx hb dX5_costByNumber_23 rfl (lv_at hl 0 rfl) ?_
        refine lv_aload_n hx hb dX5_costByNumber_24 rfl (lv_at hl 0 rfl) ?_
        refine lv_iload_n hx hb dX5_costByNumber_25 rfl (lv_at hl 3 rfl) ?_
        obtain ⟨v4, ev4, hf⟩ := x_bind hf
        refine xc_ri (As := [.int (iI l3)]) (rest := [.ref (a 0), .int (iI l2)]) ⟨hx, hb, hml, hown, hts⟩ (c5_numberAt l dC dI cs a (s5_thr x 0) l3  _ ev4) (cwV 1 hts gX5_costByNumber_X5_numberAt rfl rfl rfl cdX5_numberAt ⟨Nat.le_of_ble_eq_true rfl, Nat.le_of_ble_eq_true rfl⟩) hK hP [0, 1, 2, 3, 4, 5, 6, 7] rfl 0 rfl rfl rfl hl.1 rfl (Nat.le_of_ble_eq_true rfl) dX5_costByNumber_26 ⟨Nat.zero_le _, Nat.zero_le _⟩ ?_
        obtain ⟨v5, ev5, hf⟩ := x_bind hf
        refine xc_ri (As := [.int (iI v4)]) (rest := [.int (iI l2)]) ⟨hx, hb, hml, hown, hts⟩ (c5_weightOf l dC dI cs a (s5_thr x 0) v4  _ ev5) (cwV 1 hts gX5_costByNumber_X5_weightOf rfl rfl rfl cdX5_weightOf ⟨Nat.le_of_ble_eq_true rfl, Nat.le_of_ble_eq_true rfl⟩) hK hP [0, 1, 2, 3, 4, 5, 6, 7] rfl 0 rfl rfl rfl hl.1 rfl (Nat.le_of_ble_eq_true rfl) dX5_costByNumber_29 ⟨Nat.zero_le _, Nat.zero_le _⟩ ?_
        refine xk_iadd hx hb dX5_costByNumber_32 ?_
        refine lv_istore_n (lv' := [(2, .int (iI (l2 + v5))), (0, .ref (a 0)), (1, .int (iI l1)), (3, .int (iI l3))]) hx hb dX5_costByNumber_33 rfl hl (by decide) rfl (fun ls hl => ?_)
        refine lv_iload_n hx hb dX5_costByNumber_34 rfl (lv_at hl 2 rfl) ?_
        refine lv_iload_n hx hb dX5_costByNumber_35 rfl (lv_at hl 3 rfl) ?_
        obtain ⟨c6a, c6b, c6t, c6f⟩ := x_ltE hf
        refine xk_if_le (tgt := 43) hx hb c6b dX5_costByNumber_36 (by decide) (fun c6 => ?_) (fun c6 => ?_)
        · have hf := c6t c6
          refine lv_iload_n hx hb dX5_costByNumber_39 rfl (lv_at hl 0 rfl) ?_
          refine lv_goto (tgt := 44) hx hb dX5_costByNumber_40 (by decide) ?_
          refine xk_iadd hx hb dX5_costByNumber_44 ?_
          refine lv_istore_n (lv' := [(1, .int (iI (l1 + (l2 + v5)))), (2, .int (iI (l2 + v5))), (0, .ref (a 0)), (3, .int (iI l3))]) hx hb dX5_costByNumber_45 rfl hl (by decide) rfl (fun ls hl => ?_)
          refine xk_iinc (lv' := [(3, .int (iI (l3 + 1))), (1, .int (iI (l1 + (l2 + v5)))), (2, .int (iI (l2 + v5))), (0, .ref (a 0))]) hx hb dX5_costByNumber_46 hl (k := 3) rfl (by decide) rfl (fun ls hl => ?_)
          refine lv_goto (tgt := 11) hx hb dX5_costByNumber_49 (by decide) ?_
          exact ih11 (l1 + (l2 + v5)) (l2 + v5) (l3 + 1) hf ls (lv_sub hl [3, 1, 2, 0] rfl)
        · have hf := c6f c6
          refine xk_iconst hx hb dX5_costByNumber_43 ?_
          refine xk_iadd hx hb dX5_costByNumber_44 ?_
          refine lv_istore_n (lv' := [(1, .int (iI (l1 + 0))), (2, .int (iI (l2 + v5))), (0, .ref (a 0)), (3, .int (iI l3))]) hx hb dX5_costByNumber_45 rfl hl (by decide) rfl (fun ls hl => ?_)
          refine xk_iinc (lv' := [(3, .int (iI (l3 + 1))), (1, .int (iI (l1 + 0))), (2, .int (iI (l2 + v5))), (0, .ref (a 0))]) hx hb dX5_costByNumber_46 hl (k := 3) rfl (by decide) rfl (fun ls hl => ?_)
          refine lv_goto (tgt := 11) hx hb dX5_costByNumber_49 (by decide) ?_
          exact ih11 (l1 + 0) (l2 + v5) (l3 + 1) hf ls (lv_sub hl [3, 1, 2, 0] rfl)
      · have hf := c3f c3
        refine lv_iload_n hx hb dX5_costByNumber_52 rfl (lv_at hl 1 rfl) ?_
        obtain rfl := Option.some.inj hf
        exact xe_wi hx hb hr hlocks hS hP dX5_costByNumber_53
  exact hL11  xFU 0 0 0 hf ls (lv_sub hl [3, 2, 1, 0] rfl)
theorem cdX5_costByNumber : yX5_costByNumber.cls = RX5 ∧ yX5_costByNumber.cls ≠ "java/lang/invoke/MethodHandle" ∧ yX5_costByNumber.cls ≠ "java/lang/invoke/VarHandle" ∧ (parseMethodDescriptor yX5_costByNumber.desc).map (fun d => d.parameters.length) = some 0 := by decide +kernel

set_option maxHeartbeats 4000000 in
set_option maxRecDepth 100000 in
theorem c5_leastAboard (l : Launch) (dC : Nat → ClassId) (dI : Nat → Nat → Nat) (cs : Nat → ClassId) (a : Nat → Nat) (x : ModS) (p0 : Int) (res : Int) (hf : f5_leastAboard x p0 = some res) : Met l yX5_leastAboard wsX5_leastAboard ({ frames := 2, cells := 0, slots := 0, locals := 44 } : Room) (va_Pc [.ref (a 0), .int (iI p0)] (xPR (dC, dI) vwCl (w5 cs a x) (xT cs))) (vp_Si (fun r => r = iI res)) 0 0 (fun _ => False) := by
  refine Met.ofW (cc := cX5_leastAboard) (maxL := 5) (ret := (some .int)) (by decide) rfl ?_
  intro p e s m args below meth c s₁ B hml hv
  obtain ⟨rfl, hP, hK⟩ := hv
  have hx := B.exec
  have hb := B.bytes
  have hr := B.returns
  have hts := atoms_spec (ws := wsX5_leastAboard) B.pre
  have hown : s.vm.findClass RX5 = some m.cls := findClass_of_methodNamed B.named
  have hlocks := B.notSynchronized
  have hin5 : ∀ w ∈ wsX50, w ∈ wsX5_leastAboard := by decide +kernel
  have hl := lv_entry [.ref (a 0), .int (iI p0)] (n := 5) (Nat.le_of_ble_eq_true rfl)
  rw [lg_entry_eq]
  generalize (lg_sl [.ref (a 0), .int (iI p0)] ++ List.replicate (5 - (lg_sl [.ref (a 0), .int (iI p0)]).length) Slot.unset).toArray = ls at hl ⊢
  have hl : lv_has ls 5 [(0, .ref (a 0)), (1, .int (iI p0))] := hl
  unfold f5_leastAboard at hf
  refine xk_iconst hx hb dX5_leastAboard_0 ?_
  refine lv_istore_n (lv' := [(2, .int (iI (-1))), (0, .ref (a 0)), (1, .int (iI p0))]) hx hb dX5_leastAboard_1 rfl hl (by decide) rfl (fun ls hl => ?_)
  refine xk_iconst hx hb dX5_leastAboard_2 ?_
  refine lv_istore_n (lv' := [(3, .int (iI 0)), (2, .int (iI (-1))), (0, .ref (a 0)), (1, .int (iI p0))]) hx hb dX5_leastAboard_3 rfl hl (by decide) rfl (fun ls hl => ?_)
  have hL4 : ∀ (n1 : Nat) (l2 : Int) (l3 : Int), f5_leastAboard_L4 x p0 n1 l2 l3 = some res → ∀ (ls : Array Slot), lv_has ls 5 [(0, .ref (a 0)), (1, .int (iI p0)), (2, .int (iI l2)), (3, .int (iI l3))] → W p l e (headSpec wsX5_leastAboard ({ frames := 2, cells := 0, slots := 0, locals := 44 } : Room)).room s m ([.ref (a 0), .int (iI p0)] : List Value).toArray below meth c s.heap [] 0 0 (MQ below (vp_Si (fun r => r = iI res)) ([.ref (a 0), .int (iI p0)] : List Value).toArray s 0 0 (fun _ => False)) (F0 m 4 ls []) := by
    intro  n1
    induction n1 with
    | zero => intro l2 l3 hf; have hf : (none : Option (Int)) = some res := hf; cases hf
    | succ n1 ih4 =>
      intro l2 l3 hf ls hl
      rw [f5_leastAboard_L4] at hf
      refine lv_iload_n hx hb dX5_leastAboard_4 rfl (lv_at hl 3 rfl) ?_
      refine lv_aload_n hx hb dX5_leastAboard_5 rfl (lv_at hl 0 rfl) ?_
      refine va_get (D := (dC, dI)) (ci := 5) (v := .ref (a 1)) (C := RX5) (T := TX5) (N := 13) hx hb hts hin5 hown hK hP 0 rfl rfl 1 (by decide) (hts (.fieldLink RX5 13 "BoatRunsModel" "now" "[I") (by decide +kernel)) (fun _ h9 => h9) rfl dX5_leastAboard_6 ?_
      refine xk_iconst hx hb dX5_leastAboard_9 ?_
      obtain ⟨v2, ev2, hf⟩ := x_bind hf
      refine xk_iald (f := g5_now x) hx hb hK hP 1 0 ev2 (by decide) rfl rfl dX5_leastAboard_10 ?_
      obtain ⟨c3a, c3b, c3t, c3f⟩ := x_ltE hf
      refine xk_icmp_ge (tgt := 75) hx hb c3a c3b dX5_leastAboard_11 (by decide) (fun c3 => ?_) (fun c3 => ?_)
      · have hf := c3t c3
        refine lv_aload_n hx hb dX5_leastAboard_14 rfl (lv_at hl 0 rfl) ?_
        refine va_get (D := (dC, dI)) (ci := 5) (v := .ref (a 6)) (C := RX5) (T := TX5) (N := 13) hx hb hts hin5 hown hK hP 0 rfl rfl 8 (by decide) (hts (.fieldLink RX5 29 "BoatRunsModel" "aboard" "[Z") (by decide +kernel)) (fun _ h9 => h9) rfl dX5_leastAboard_15 ?_
        refine lv_iload_n hx hb dX5_leastAboard_18 rfl (lv_at hl 3 rfl) ?_
        obtain ⟨v4, ev4, hf⟩ := x_bind hf
        refine xk_zald (f := g5_abo x) hx hb hK hP 6 1 ev4 (by decide) rfl rfl dX5_leastAboard_19 ?_
        obtain ⟨c5a, c5b, c5t, c5f⟩ := x_eqE hf
        refine xk_if_eq (tgt := 41) hx hb c5a dX5_leastAboard_20 (by decide) (fun c5 => ?_) (fun c5 => ?_)
        · have hf := c5t c5
          refine xk_iconst hx hb dX5_leastAboard_41 ?_
          refine lv_istore (lv' := [(4, .int (iI 0)), (0, .ref (a 0)), (1, .int (iI p0)), (2, .int (iI l2)), (3, .int (iI l3))]) hx hb dX5_leastAboard_42 hl (by decide) rfl (fun ls hl => ?_)
          refine lv_iload hx hb dX5_leastAboard_44 (lv_at hl 0 rfl) ?_
          refine xk_if_eq (tgt := 67) hx hb (by decide) dX5_leastAboard_46 (by decide) (fun c6 => ?_) (fun c6 => ?_)
          · refine lv_iload_n hx hb dX5_leastAboard_67 rfl (lv_at hl 3 rfl) ?_
            refine lv_istore_n (lv' := [(2, .int (iI l2)), (4, .int (iI 0)), (0, .ref (a 0)), (1, .int (iI p0)), (3, .int (iI l3))]) hx hb dX5_leastAboard_68 rfl hl (by decide) rfl (fun ls hl => ?_)
            refine xk_iinc (lv' := [(3, .int (iI (l3 + 1))), (2, .int (iI l2)), (4, .int (iI 0)), (0, .ref (a 0)), (1, .int (iI p0))]) hx hb dX5_leastAboard_69 hl (k := 4) rfl (by decide) rfl (fun ls hl => ?_)
            refine lv_goto (tgt := 4) hx hb dX5_leastAboard_72 (by decide) ?_
            exact ih4 l2 (l3 + 1) hf ls (lv_sub hl [3, 4, 1, 0] rfl)
          · exact absurd c6 (by decide)
        · have hf := c5f c5
          refine lv_iload_n hx hb dX5_leastAboard_23 rfl (lv_at hl 1 rfl) ?_
          refine xk_iconst hx hb dX5_leastAboard_24 ?_
          obtain ⟨c7a, c7b, c7t, c7f⟩ := x_eqE hf
          refine xk_icmp_eq (tgt := 37) hx hb c7a c7b dX5_leastAboard_25 (by decide) (fun c7 => ?_) (fun c7 => ?_)
          · have hf := c7t c7
            refine xk_iconst hx hb dX5_leastAboard_37 ?_
            refine lv_goto (tgt := 42) hx hb dX5_leastAboard_38 (by decide) ?_
            refine lv_istore (lv' := [(4, .int (iI 1)), (0, .ref (a 0)), (1, .int (iI p0)), (2, .int (iI l2)), (3, .int (iI l3))]) hx hb dX5_leastAboard_42 hl (by decide) rfl (fun ls hl => ?_)
            refine lv_iload hx hb dX5_leastAboard_44 (lv_at hl 0 rfl) ?_
            refine xk_if_eq (tgt := 67) hx hb (by decide) dX5_leastAboard_46 (by decide) (fun c8 => ?_) (fun c8 => ?_)
            · exact absurd c8 (by decide)
            · refine lv_iload_n hx hb dX5_leastAboard_49 rfl (lv_at hl 3 rfl) ?_
              refine xk_iconst hx hb dX5_leastAboard_50 ?_
              obtain ⟨c9a, c9b, c9t, c9f⟩ := x_eqE hf
              refine xk_icmp_eq (tgt := 63) hx hb c9a c9b dX5_leastAboard_51 (by decide) (fun c9 => ?_) (fun c9 => ?_)
              · have hf := c9t c9
                refine lv_iload_n hx hb dX5_leastAboard_63 rfl (lv_at hl 4 rfl) ?_
                refine lv_goto (tgt := 68) hx hb dX5_leastAboard_64 (by decide) ?_
                refine lv_istore_n (lv' := [(2, .int (iI l3)), (4, .int (iI 1)), (0, .ref (a 0)), (1, .int (iI p0)), (3, .int (iI l3))]) hx hb dX5_leastAboard_68 rfl hl (by decide) rfl (fun ls hl => ?_)
                refine xk_iinc (lv' := [(3, .int (iI (l3 + 1))), (2, .int (iI l3)), (4, .int (iI 1)), (0, .ref (a 0)), (1, .int (iI p0))]) hx hb dX5_leastAboard_69 hl (k := 4) rfl (by decide) rfl (fun ls hl => ?_)
                refine lv_goto (tgt := 4) hx hb dX5_leastAboard_72 (by decide) ?_
                exact ih4 l3 (l3 + 1) hf ls (lv_sub hl [3, 4, 1, 0] rfl)
              · have hf := c9f c9
                refine lv_aload_n hx hb dX5_leastAboard_54 rfl (lv_at hl 1 rfl) ?_
                refine lv_iload_n hx hb dX5_leastAboard_55 rfl (lv_at hl 4 rfl) ?_
                refine lv_iload_n hx hb dX5_leastAboard_56 rfl (lv_at hl 3 rfl) ?_
                obtain ⟨v10, ev10, hf⟩ := x_bind hf
                refine xc_ri (As := [.int (iI l3), .int (iI l2)]) (rest := []) ⟨hx, hb, hml, hown, hts⟩ (c5_isLess l dC dI cs a x l3 l2  _ ev10) (cwV 2 hts gX5_leastAboard_X5_isLess rfl rfl rfl cdX5_isLess ⟨Nat.le_of_ble_eq_true rfl, Nat.le_of_ble_eq_true rfl⟩) hK hP [0, 1, 2, 3, 4, 5, 6, 7] rfl 0 rfl rfl rfl hl.1 rfl (Nat.le_of_ble_eq_true rfl) dX5_leastAboard_57 ⟨Nat.zero_le _, Nat.zero_le _⟩ ?_
                obtain ⟨c11a, c11b, c11t, c11f⟩ := x_eqE hf
                refine xk_if_eq (tgt := 67) hx hb c11a dX5_leastAboard_60 (by decide) (fun c11 => ?_) (fun c11 => ?_)
                · have hf := c11t c11
                  refine lv_iload_n hx hb dX5_leastAboard_67 rfl (lv_at hl 3 rfl) ?_
                  refine lv_istore_n (lv' := [(2, .int (iI l2)), (4, .int (iI 1)), (0, .ref (a 0)), (1, .int (iI p0)), (3, .int (iI l3))]) hx hb dX5_leastAboard_68 rfl hl (by decide) rfl (fun ls hl => ?_)
                  refine xk_iinc (lv' := [(3, .int (iI (l3 + 1))), (2, .int (iI l2)), (4, .int (iI 1)), (0, .ref (a 0)), (1, .int (iI p0))]) hx hb dX5_leastAboard_69 hl (k := 4) rfl (by decide) rfl (fun ls hl => ?_)
                  refine lv_goto (tgt := 4) hx hb dX5_leastAboard_72 (by decide) ?_
                  exact ih4 l2 (l3 + 1) hf ls (lv_sub hl [3, 4, 1, 0] rfl)
                · have hf := c11f c11
                  refine lv_iload_n hx hb dX5_leastAboard_63 rfl (lv_at hl 4 rfl) ?_
                  refine lv_goto (tgt := 68) hx hb dX5_leastAboard_64 (by decide) ?_
                  refine lv_istore_n (lv' := [(2, .int (iI l3)), (4, .int (iI 1)), (0, .ref (a 0)), (1, .int (iI p0)), (3, .int (iI l3))]) hx hb dX5_leastAboard_68 rfl hl (by decide) rfl (fun ls hl => ?_)
                  refine xk_iinc (lv' := [(3, .int (iI (l3 + 1))), (2, .int (iI l3)), (4, .int (iI 1)), (0, .ref (a 0)), (1, .int (iI p0))]) hx hb dX5_leastAboard_69 hl (k := 4) rfl (by decide) rfl (fun ls hl => ?_)
                  refine lv_goto (tgt := 4) hx hb dX5_leastAboard_72 (by decide) ?_
                  exact ih4 l3 (l3 + 1) hf ls (lv_sub hl [3, 4, 1, 0] rfl)
          · have hf := c7f c7
            refine lv_aload_n hx hb dX5_leastAboard_28 rfl (lv_at hl 0 rfl) ?_
            refine lv_iload_n hx hb dX5_leastAboard_29 rfl (lv_at hl 1 rfl) ?_
            refine lv_iload_n hx hb dX5_leastAboard_30 rfl (lv_at hl 3 rfl) ?_
            obtain ⟨v12, ev12, hf⟩ := x_bind hf
            refine xc_ri (As := [.int (iI p0), .int (iI l3)]) (rest := []) ⟨hx, hb, hml, hown, hts⟩ (c5_isLess l dC dI cs a x p0 l3  _ ev12) (cwV 2 hts gX5_leastAboard_X5_isLess rfl rfl rfl cdX5_isLess ⟨Nat.le_of_ble_eq_true rfl, Nat.le_of_ble_eq_true rfl⟩) hK hP [0, 1, 2, 3, 4, 5, 6, 7] rfl 0 rfl rfl rfl hl.1 rfl (Nat.le_of_ble_eq_true rfl) dX5_leastAboard_31 ⟨Nat.zero_le _, Nat.zero_le _⟩ ?_
            obtain ⟨c13a, c13b, c13t, c13f⟩ := x_eqE hf
            refine xk_if_eq (tgt := 41) hx hb c13a dX5_leastAboard_34 (by decide) (fun c13 => ?_) (fun c13 => ?_)
            · have hf := c13t c13
              refine xk_iconst hx hb dX5_leastAboard_41 ?_
              refine lv_istore (lv' := [(4, .int (iI 0)), (0, .ref (a 0)), (1, .int (iI p0)), (2, .int (iI l2)), (3, .int (iI l3))]) hx hb dX5_leastAboard_42 hl (by decide) rfl (fun ls hl => ?_)
              refine lv_iload hx hb dX5_leastAboard_44 (lv_at hl 0 rfl) ?_
              refine xk_if_eq (tgt := 67) hx hb (by decide) dX5_leastAboard_46 (by decide) (fun c14 => ?_) (fun c14 => ?_)
              · refine lv_iload_n hx hb dX5_leastAboard_67 rfl (lv_at hl 3 rfl) ?_
                refine lv_istore_n (lv' := [(2, .int (iI l2)), (4, .int (iI 0)), (0, .ref (a 0)), (1, .int (iI p0)), (3, .int (iI l3))]) hx hb dX5_leastAboard_68 rfl hl (by decide) rfl (fun ls hl => ?_)
                refine xk_iinc (lv' := [(3, .int (iI (l3 + 1))), (2, .int (iI l2)), (4, .int (iI 0)), (0, .ref (a 0)), (1, .int (iI p0))]) hx hb dX5_leastAboard_69 hl (k := 4) rfl (by decide) rfl (fun ls hl => ?_)
                refine lv_goto (tgt := 4) hx hb dX5_leastAboard_72 (by decide) ?_
                exact ih4 l2 (l3 + 1) hf ls (lv_sub hl [3, 4, 1, 0] rfl)
              · exact absurd c14 (by decide)
            · have hf := c13f c13
              refine xk_iconst hx hb dX5_leastAboard_37 ?_
              refine lv_goto (tgt := 42) hx hb dX5_leastAboard_38 (by decide) ?_
              refine lv_istore (lv' := [(4, .int (iI 1)), (0, .ref (a 0)), (1, .int (iI p0)), (2, .int (iI l2)), (3, .int (iI l3))]) hx hb dX5_leastAboard_42 hl (by decide) rfl (fun ls hl => ?_)
              refine lv_iload hx hb dX5_leastAboard_44 (lv_at hl 0 rfl) ?_
              refine xk_if_eq (tgt := 67) hx hb (by decide) dX5_leastAboard_46 (by decide) (fun c15 => ?_) (fun c15 => ?_)
              · exact absurd c15 (by decide)
              · refine lv_iload_n hx hb dX5_leastAboard_49 rfl (lv_at hl 3 rfl) ?_
                refine xk_iconst hx hb dX5_leastAboard_50 ?_
                obtain ⟨c16a, c16b, c16t, c16f⟩ := x_eqE hf
                refine xk_icmp_eq (tgt := 63) hx hb c16a c16b dX5_leastAboard_51 (by decide) (fun c16 => ?_) (fun c16 => ?_)
                · have hf := c16t c16
                  refine lv_iload_n hx hb dX5_leastAboard_63 rfl (lv_at hl 4 rfl) ?_
                  refine lv_goto (tgt := 68) hx hb dX5_leastAboard_64 (by decide) ?_
                  refine lv_istore_n (lv' := [(2, .int (iI l3)), (4, .int (iI 1)), (0, .ref (a 0)), (1, .int (iI p0)), (3, .int (iI l3))]) hx hb dX5_leastAboard_68 rfl hl (by decide) rfl (fun ls hl => ?_)
                  refine xk_iinc (lv' := [(3, .int (iI (l3 + 1))), (2, .int (iI l3)), (4, .int (iI 1)), (0, .ref (a 0)), (1, .int (iI p0))]) hx hb dX5_leastAboard_69 hl (k := 4) rfl (by decide) rfl (fun ls hl => ?_)
                  refine lv_goto (tgt := 4) hx hb dX5_leastAboard_72 (by decide) ?_
                  exact ih4 l3 (l3 + 1) hf ls (lv_sub hl [3, 4, 1, 0] rfl)
                · have hf := c16f c16
                  refine lv_aload_n hx hb dX5_leastAboard_54 rfl (lv_at hl 1 rfl) ?_
                  refine lv_iload_n hx hb dX5_leastAboard_55 rfl (lv_at hl 4 rfl) ?_
                  refine lv_iload_n hx hb dX5_leastAboard_56 rfl (lv_at hl 3 rfl) ?_
                  obtain ⟨v17, ev17, hf⟩ := x_bind hf
                  refine xc_ri (As := [.int (iI l3), .int (iI l2)]) (rest := []) ⟨hx, hb, hml, hown, hts⟩ (c5_isLess l dC dI cs a x l3 l2  _ ev17) (cwV 2 hts gX5_leastAboard_X5_isLess rfl rfl rfl cdX5_isLess ⟨Nat.le_of_ble_eq_true rfl, Nat.le_of_ble_eq_true rfl⟩) hK hP [0, 1, 2, 3, 4, 5, 6, 7] rfl 0 rfl rfl rfl hl.1 rfl (Nat.le_of_ble_eq_true rfl) dX5_leastAboard_57 ⟨Nat.zero_le _, Nat.zero_le _⟩ ?_
                  obtain ⟨c18a, c18b, c18t, c18f⟩ := x_eqE hf
                  refine xk_if_eq (tgt := 67) hx hb c18a dX5_leastAboard_60 (by decide) (fun c18 => ?_) (fun c18 => ?_)
                  · have hf := c18t c18
                    refine lv_iload_n hx hb dX5_leastAboard_67 rfl (lv_at hl 3 rfl) ?_
                    refine lv_istore_n (lv' := [(2, .int (iI l2)), (4, .int (iI 1)), (0, .ref (a 0)), (1, .int (iI p0)), (3, .int (iI l3))]) hx hb dX5_leastAboard_68 rfl hl (by decide) rfl (fun ls hl => ?_)
                    refine xk_iinc (lv' := [(3, .int (iI (l3 + 1))), (2, .int (iI l2)), (4, .int (iI 1)), (0, .ref (a 0)), (1, .int (iI p0))]) hx hb dX5_leastAboard_69 hl (k := 4) rfl (by decide) rfl (fun ls hl => ?_)
                    refine lv_goto (tgt := 4) hx hb dX5_leastAboard_72 (by decide) ?_
                    exact ih4 l2 (l3 + 1) hf ls (lv_sub hl [3, 4, 1, 0] rfl)
                  · have hf := c18f c18
                    refine lv_iload_n hx hb dX5_leastAboard_63 rfl (lv_at hl 4 rfl) ?_
                    refine lv_goto (tgt := 68) hx hb dX5_leastAboard_64 (by decide) ?_
                    refine lv_istore_n (lv' := [(2, .int (iI l3)), (4, .int (iI 1)), (0, .ref (a 0)), (1, .int (iI p0)), (3, .int (iI l3))]) hx hb dX5_leastAboard_68 rfl hl (by decide) rfl (fun ls hl => ?_)
                    refine xk_iinc (lv' := [(3, .int (iI (l3 + 1))), (2, .int (iI l3)), (4, .int (iI 1)), (0, .ref (a 0)), (1, .int (iI p0))]) hx hb dX5_leastAboard_69 hl (k := 4) rfl (by decide) rfl (fun ls hl => ?_)
                    refine lv_goto (tgt := 4) hx hb dX5_leastAboard_72 (by decide) ?_
                    exact ih4 l3 (l3 + 1) hf ls (lv_sub hl [3, 4, 1, 0] rfl)
      · have hf := c3f c3
        refine lv_iload_n hx hb dX5_leastAboard_75 rfl (lv_at hl 2 rfl) ?_
        obtain rfl := Option.some.inj hf
        exact xe_ri hx hb hr hlocks dX5_leastAboard_76 rfl
  exact hL4  xFU (-1) 0 hf ls (lv_sub hl [2, 3, 1, 0] rfl)
theorem cdX5_leastAboard : yX5_leastAboard.cls = RX5 ∧ yX5_leastAboard.cls ≠ "java/lang/invoke/MethodHandle" ∧ yX5_leastAboard.cls ≠ "java/lang/invoke/VarHandle" ∧ (parseMethodDescriptor yX5_leastAboard.desc).map (fun d => d.parameters.length) = some 1 := by decide +kernel

set_option maxHeartbeats 4000000 in
set_option maxRecDepth 100000 in
theorem c5_tries (l : Launch) (dC : Nat → ClassId) (dI : Nat → Nat → Nat) (cs : Nat → ClassId) (a : Nat → Nat) (sz : Nat) (x : ModS) (res : Int × ModS) (hf : f5_tries x = some res) : Met l yX5_tries wsX5_tries ({ frames := 3, cells := 0, slots := 0, locals := 68 } : Room) (va_Pc [.ref (a 0)] (xPW (dC, dI) vwCl (w5 cs a x) (xT cs) sz)) (xQi (dC, dI) vwCl (w5 cs a x) (w5 cs a res.2) sz res.1) 0 0 (va_A (w5 cs a x) sz) := by
  refine Met.ofW (cc := cX5_tries) (maxL := 3) (ret := (some .int)) (by decide) rfl ?_
  intro p e s m args below meth c s₁ B hml hv
  obtain ⟨rfl, hsz, hP, hK, hD0⟩ := hv
  have hx := B.exec
  have hb := B.bytes
  have hr := B.returns
  have hts := atoms_spec (ws := wsX5_tries) B.pre
  have hown : s.vm.findClass RX5 = some m.cls := findClass_of_methodNamed B.named
  have hlocks := B.notSynchronized
  have hin5 : ∀ w ∈ wsX50, w ∈ wsX5_tries := by decide +kernel
  subst hsz
  have hD := hD0.self (sz := s.heap.size)
  have hA : ∀ z9 : Nat, s.heap.size ≤ z9 → va_A (w5 cs a x) s.heap.size z9 := fun z9 h => Or.inr h
  have hS : va_S (va_A (w5 cs a x) s.heap.size) s.heap s.heap [] := va_S.rf
  have hl := lv_entry [.ref (a 0)] (n := 3) (Nat.le_of_ble_eq_true rfl)
  rw [lg_entry_eq]
  generalize (lg_sl [.ref (a 0)] ++ List.replicate (3 - (lg_sl [.ref (a 0)]).length) Slot.unset).toArray = ls at hl ⊢
  have hl : lv_has ls 3 [(0, .ref (a 0))] := hl
  unfold f5_tries at hf
  refine lv_aload_n hx hb dX5_tries_0 rfl (lv_at hl 0 rfl) ?_
  refine va_get (D := (dC, dI)) (ci := 5) (v := .int (iI (g5_lat x))) (C := RX5) (T := TX5) (N := 13) hx hb hts hin5 hown hK hP 0 rfl rfl 9 (by decide) (hts (.fieldLink RX5 168 "BoatRunsModel" "latest" "I") (by decide +kernel)) (fun _ h9 => h9) rfl dX5_tries_1 ?_
  refine xk_iconst hx hb dX5_tries_4 ?_
  obtain ⟨c1a, c1b, c1t, c1f⟩ := x_eqE hf
  refine xk_icmp_ne (tgt := 12) hx hb c1a c1b dX5_tries_5 (by decide) (fun c1 => ?_) (fun c1 => ?_)
  · have hf := c1t c1
    refine xk_iconst hx hb dX5_tries_8 ?_
    refine lv_goto (tgt := 20) hx hb dX5_tries_9 (by decide) ?_
    refine lv_istore_n (lv' := [(1, .int (iI (-1))), (0, .ref (a 0))]) hx hb dX5_tries_20 rfl hl (by decide) rfl (fun ls hl => ?_)
    refine lv_iload_n hx hb dX5_tries_21 rfl (lv_at hl 0 rfl) ?_
    refine xk_iconst hx hb dX5_tries_22 ?_
    refine xk_icmp_ne (tgt := 30) hx hb (by decide) (by decide) dX5_tries_23 (by decide) (fun c2 => ?_) (fun c2 => ?_)
    · refine xk_iconst hx hb dX5_tries_26 ?_
      refine lv_goto (tgt := 31) hx hb dX5_tries_27 (by decide) ?_
      refine lv_istore_n (lv' := [(2, .int (iI 1)), (1, .int (iI (-1))), (0, .ref (a 0))]) hx hb dX5_tries_31 rfl hl (by decide) rfl (fun ls hl => ?_)
      refine lv_iload_n hx hb dX5_tries_32 rfl (lv_at hl 1 rfl) ?_
      refine xk_iconst hx hb dX5_tries_33 ?_
      refine xk_icmp_ne (tgt := 45) hx hb (by decide) (by decide) dX5_tries_34 (by decide) (fun c3 => ?_) (fun c3 => ?_)
      · refine lv_aload_n hx hb dX5_tries_37 rfl (lv_at hl 2 rfl) ?_
        refine xk_iconst hx hb dX5_tries_38 ?_
        obtain ⟨v4, ev4, hf⟩ := x_bind hf
        refine xc_ri (As := [.int (iI (-1))]) (rest := []) ⟨hx, hb, hml, hown, hts⟩ (c5_leastAboard l dC dI cs a x (-1)  _ ev4) (cwV 1 hts gX5_tries_X5_leastAboard rfl rfl rfl cdX5_leastAboard ⟨Nat.le_of_ble_eq_true rfl, Nat.le_of_ble_eq_true rfl⟩) hK hP [0, 1, 2, 3, 4, 5, 6, 7] rfl 0 rfl rfl rfl hl.1 rfl (Nat.le_of_ble_eq_true rfl) dX5_tries_39 ⟨Nat.zero_le _, Nat.zero_le _⟩ ?_
        refine lv_goto (tgt := 46) hx hb dX5_tries_42 (by decide) ?_
        refine lv_istore_n (lv' := [(1, .int (iI v4)), (2, .int (iI 1)), (0, .ref (a 0))]) hx hb dX5_tries_46 rfl hl (by decide) rfl (fun ls hl => ?_)
        refine lv_aload_n hx hb dX5_tries_47 rfl (lv_at hl 2 rfl) ?_
        refine va_get (D := (dC, dI)) (ci := 5) (v := .ref (a 6)) (C := RX5) (T := TX5) (N := 13) hx hb hts hin5 hown hK hP 0 rfl rfl 8 (by decide) (hts (.fieldLink RX5 29 "BoatRunsModel" "aboard" "[Z") (by decide +kernel)) (fun _ h9 => h9) rfl dX5_tries_48 ?_
        refine lv_iload_n hx hb dX5_tries_51 rfl (lv_at hl 0 rfl) ?_
        refine xk_iconst hx hb dX5_tries_52 ?_
        obtain ⟨g5, eg5, hf⟩ := x_bind hf
        refine xk_zast (f := g5_abo x) hx hb hK hP (x_addr hD rfl) hS 6 1 eg5 (by decide) rfl rfl dX5_tries_53 (fun H locs hP hS => ?_)
        have hP : va_P (dC, dI) vwCl (w5C cs a (g5_thr x) (g5_acts x) (g5_typ x) (g5_lat x) (g5_pos x) (g5_wra x) (g5_now x) (g5_put x) (g5_was x) (g5_txt x) (g5_lef x) g5 (g5_ors x)) H := hP
        refine lv_aload_n hx hb dX5_tries_54 rfl (lv_at hl 2 rfl) ?_
        refine lv_iload_n hx hb dX5_tries_55 rfl (lv_at hl 0 rfl) ?_
        refine va_put (D := (dC, dI)) (ci := 5) (v := .int (iI v4)) (ty := .int) (C := RX5) (T := TX5) (N := 13) hx hb hts hin5 tyX5 tyX5_ok nmX5 hown hK hP (x_addr hD rfl) hS 0 rfl rfl 9 (by decide) (hts (.fieldLink RX5 168 "BoatRunsModel" "latest" "I") (by decide +kernel)) (fun _ h9 => h9) rfl (by decide +kernel) rfl rfl (Nat.le_of_ble_eq_true rfl) dX5_tries_56 (fun H locs hP _ hS => ?_)
        have hP : va_P (dC, dI) vwCl (w5C cs a (g5_thr x) (g5_acts x) (g5_typ x) v4 (g5_pos x) (g5_wra x) (g5_now x) (g5_put x) (g5_was x) (g5_txt x) (g5_lef x) g5 (g5_ors x)) H := hP
        refine lv_iload_n hx hb dX5_tries_59 rfl (lv_at hl 1 rfl) ?_
        obtain rfl := Option.some.inj hf
        exact xe_wi hx hb hr hlocks hS hP dX5_tries_60
      · exact absurd c3 (by decide)
    · exact absurd c2 (by decide)
  · have hf := c1f c1
    refine lv_aload_n hx hb dX5_tries_12 rfl (lv_at hl 0 rfl) ?_
    refine lv_aload_n hx hb dX5_tries_13 rfl (lv_at hl 0 rfl) ?_
    refine va_get (D := (dC, dI)) (ci := 5) (v := .int (iI (g5_lat x))) (C := RX5) (T := TX5) (N := 13) hx hb hts hin5 hown hK hP 0 rfl rfl 9 (by decide) (hts (.fieldLink RX5 168 "BoatRunsModel" "latest" "I") (by decide +kernel)) (fun _ h9 => h9) rfl dX5_tries_14 ?_
    obtain ⟨v6, ev6, hf⟩ := x_bind hf
    refine xc_ri (As := [.int (iI (g5_lat x))]) (rest := []) ⟨hx, hb, hml, hown, hts⟩ (c5_leastAboard l dC dI cs a x (g5_lat x)  _ ev6) (cwV 1 hts gX5_tries_X5_leastAboard rfl rfl rfl cdX5_leastAboard ⟨Nat.le_of_ble_eq_true rfl, Nat.le_of_ble_eq_true rfl⟩) hK hP [0, 1, 2, 3, 4, 5, 6, 7] rfl 0 rfl rfl rfl hl.1 rfl (Nat.le_of_ble_eq_true rfl) dX5_tries_17 ⟨Nat.zero_le _, Nat.zero_le _⟩ ?_
    refine lv_istore_n (lv' := [(1, .int (iI v6)), (0, .ref (a 0))]) hx hb dX5_tries_20 rfl hl (by decide) rfl (fun ls hl => ?_)
    refine lv_iload_n hx hb dX5_tries_21 rfl (lv_at hl 0 rfl) ?_
    refine xk_iconst hx hb dX5_tries_22 ?_
    obtain ⟨c7a, c7b, c7t, c7f⟩ := x_eqE hf
    refine xk_icmp_ne (tgt := 30) hx hb c7a c7b dX5_tries_23 (by decide) (fun c7 => ?_) (fun c7 => ?_)
    · have hf := c7t c7
      refine xk_iconst hx hb dX5_tries_26 ?_
      refine lv_goto (tgt := 31) hx hb dX5_tries_27 (by decide) ?_
      refine lv_istore_n (lv' := [(2, .int (iI 1)), (1, .int (iI v6)), (0, .ref (a 0))]) hx hb dX5_tries_31 rfl hl (by decide) rfl (fun ls hl => ?_)
      refine lv_iload_n hx hb dX5_tries_32 rfl (lv_at hl 1 rfl) ?_
      refine xk_iconst hx hb dX5_tries_33 ?_
      obtain ⟨c8a, c8b, c8t, c8f⟩ := x_eqE hf
      refine xk_icmp_ne (tgt := 45) hx hb c8a c8b dX5_tries_34 (by decide) (fun c8 => ?_) (fun c8 => ?_)
      · have hf := c8t c8
        refine lv_aload_n hx hb dX5_tries_37 rfl (lv_at hl 2 rfl) ?_
        refine xk_iconst hx hb dX5_tries_38 ?_
        obtain ⟨v9, ev9, hf⟩ := x_bind hf
        refine xc_ri (As := [.int (iI (-1))]) (rest := []) ⟨hx, hb, hml, hown, hts⟩ (c5_leastAboard l dC dI cs a x (-1)  _ ev9) (cwV 1 hts gX5_tries_X5_leastAboard rfl rfl rfl cdX5_leastAboard ⟨Nat.le_of_ble_eq_true rfl, Nat.le_of_ble_eq_true rfl⟩) hK hP [0, 1, 2, 3, 4, 5, 6, 7] rfl 0 rfl rfl rfl hl.1 rfl (Nat.le_of_ble_eq_true rfl) dX5_tries_39 ⟨Nat.zero_le _, Nat.zero_le _⟩ ?_
        refine lv_goto (tgt := 46) hx hb dX5_tries_42 (by decide) ?_
        refine lv_istore_n (lv' := [(1, .int (iI v9)), (2, .int (iI 1)), (0, .ref (a 0))]) hx hb dX5_tries_46 rfl hl (by decide) rfl (fun ls hl => ?_)
        refine lv_aload_n hx hb dX5_tries_47 rfl (lv_at hl 2 rfl) ?_
        refine va_get (D := (dC, dI)) (ci := 5) (v := .ref (a 6)) (C := RX5) (T := TX5) (N := 13) hx hb hts hin5 hown hK hP 0 rfl rfl 8 (by decide) (hts (.fieldLink RX5 29 "BoatRunsModel" "aboard" "[Z") (by decide +kernel)) (fun _ h9 => h9) rfl dX5_tries_48 ?_
        refine lv_iload_n hx hb dX5_tries_51 rfl (lv_at hl 0 rfl) ?_
        refine xk_iconst hx hb dX5_tries_52 ?_
        obtain ⟨g10, eg10, hf⟩ := x_bind hf
        refine xk_zast (f := g5_abo x) hx hb hK hP (x_addr hD rfl) hS 6 1 eg10 (by decide) rfl rfl dX5_tries_53 (fun H locs hP hS => ?_)
        have hP : va_P (dC, dI) vwCl (w5C cs a (g5_thr x) (g5_acts x) (g5_typ x) (g5_lat x) (g5_pos x) (g5_wra x) (g5_now x) (g5_put x) (g5_was x) (g5_txt x) (g5_lef x) g10 (g5_ors x)) H := hP
        refine lv_aload_n hx hb dX5_tries_54 rfl (lv_at hl 2 rfl) ?_
        refine lv_iload_n hx hb dX5_tries_55 rfl (lv_at hl 0 rfl) ?_
        refine va_put (D := (dC, dI)) (ci := 5) (v := .int (iI v9)) (ty := .int) (C := RX5) (T := TX5) (N := 13) hx hb hts hin5 tyX5 tyX5_ok nmX5 hown hK hP (x_addr hD rfl) hS 0 rfl rfl 9 (by decide) (hts (.fieldLink RX5 168 "BoatRunsModel" "latest" "I") (by decide +kernel)) (fun _ h9 => h9) rfl (by decide +kernel) rfl rfl (Nat.le_of_ble_eq_true rfl) dX5_tries_56 (fun H locs hP _ hS => ?_)
        have hP : va_P (dC, dI) vwCl (w5C cs a (g5_thr x) (g5_acts x) (g5_typ x) v9 (g5_pos x) (g5_wra x) (g5_now x) (g5_put x) (g5_was x) (g5_txt x) (g5_lef x) g10 (g5_ors x)) H := hP
        refine lv_iload_n hx hb dX5_tries_59 rfl (lv_at hl 1 rfl) ?_
        obtain rfl := Option.some.inj hf
        exact xe_wi hx hb hr hlocks hS hP dX5_tries_60
      · have hf := c8f c8
        refine lv_iload_n hx hb dX5_tries_45 rfl (lv_at hl 1 rfl) ?_
        refine lv_istore_n (lv' := [(1, .int (iI v6)), (2, .int (iI 1)), (0, .ref (a 0))]) hx hb dX5_tries_46 rfl hl (by decide) rfl (fun ls hl => ?_)
        refine lv_aload_n hx hb dX5_tries_47 rfl (lv_at hl 2 rfl) ?_
        refine va_get (D := (dC, dI)) (ci := 5) (v := .ref (a 6)) (C := RX5) (T := TX5) (N := 13) hx hb hts hin5 hown hK hP 0 rfl rfl 8 (by decide) (hts (.fieldLink RX5 29 "BoatRunsModel" "aboard" "[Z") (by decide +kernel)) (fun _ h9 => h9) rfl dX5_tries_48 ?_
        refine lv_iload_n hx hb dX5_tries_51 rfl (lv_at hl 0 rfl) ?_
        refine xk_iconst hx hb dX5_tries_52 ?_
        obtain ⟨g11, eg11, hf⟩ := x_bind hf
        refine xk_zast (f := g5_abo x) hx hb hK hP (x_addr hD rfl) hS 6 1 eg11 (by decide) rfl rfl dX5_tries_53 (fun H locs hP hS => ?_)
        have hP : va_P (dC, dI) vwCl (w5C cs a (g5_thr x) (g5_acts x) (g5_typ x) (g5_lat x) (g5_pos x) (g5_wra x) (g5_now x) (g5_put x) (g5_was x) (g5_txt x) (g5_lef x) g11 (g5_ors x)) H := hP
        refine lv_aload_n hx hb dX5_tries_54 rfl (lv_at hl 2 rfl) ?_
        refine lv_iload_n hx hb dX5_tries_55 rfl (lv_at hl 0 rfl) ?_
        refine va_put (D := (dC, dI)) (ci := 5) (v := .int (iI v6)) (ty := .int) (C := RX5) (T := TX5) (N := 13) hx hb hts hin5 tyX5 tyX5_ok nmX5 hown hK hP (x_addr hD rfl) hS 0 rfl rfl 9 (by decide) (hts (.fieldLink RX5 168 "BoatRunsModel" "latest" "I") (by decide +kernel)) (fun _ h9 => h9) rfl (by decide +kernel) rfl rfl (Nat.le_of_ble_eq_true rfl) dX5_tries_56 (fun H locs hP _ hS => ?_)
        have hP : va_P (dC, dI) vwCl (w5C cs a (g5_thr x) (g5_acts x) (g5_typ x) v6 (g5_pos x) (g5_wra x) (g5_now x) (g5_put x) (g5_was x) (g5_txt x) (g5_lef x) g11 (g5_ors x)) H := hP
        refine lv_iload_n hx hb dX5_tries_59 rfl (lv_at hl 1 rfl) ?_
        obtain rfl := Option.some.inj hf
        exact xe_wi hx hb hr hlocks hS hP dX5_tries_60
    · have hf := c7f c7
      refine xk_iconst hx hb dX5_tries_30 ?_
      refine lv_istore_n (lv' := [(2, .int (iI 0)), (1, .int (iI v6)), (0, .ref (a 0))]) hx hb dX5_tries_31 rfl hl (by decide) rfl (fun ls hl => ?_)
      refine lv_iload_n hx hb dX5_tries_32 rfl (lv_at hl 1 rfl) ?_
      refine xk_iconst hx hb dX5_tries_33 ?_
      obtain ⟨c12a, c12b, c12t, c12f⟩ := x_eqE hf
      refine xk_icmp_ne (tgt := 45) hx hb c12a c12b dX5_tries_34 (by decide) (fun c12 => ?_) (fun c12 => ?_)
      · have hf := c12t c12
        refine lv_aload_n hx hb dX5_tries_37 rfl (lv_at hl 2 rfl) ?_
        refine xk_iconst hx hb dX5_tries_38 ?_
        obtain ⟨v13, ev13, hf⟩ := x_bind hf
        refine xc_ri (As := [.int (iI (-1))]) (rest := []) ⟨hx, hb, hml, hown, hts⟩ (c5_leastAboard l dC dI cs a x (-1)  _ ev13) (cwV 1 hts gX5_tries_X5_leastAboard rfl rfl rfl cdX5_leastAboard ⟨Nat.le_of_ble_eq_true rfl, Nat.le_of_ble_eq_true rfl⟩) hK hP [0, 1, 2, 3, 4, 5, 6, 7] rfl 0 rfl rfl rfl hl.1 rfl (Nat.le_of_ble_eq_true rfl) dX5_tries_39 ⟨Nat.zero_le _, Nat.zero_le _⟩ ?_
        refine lv_goto (tgt := 46) hx hb dX5_tries_42 (by decide) ?_
        refine lv_istore_n (lv' := [(1, .int (iI v13)), (2, .int (iI 0)), (0, .ref (a 0))]) hx hb dX5_tries_46 rfl hl (by decide) rfl (fun ls hl => ?_)
        refine lv_aload_n hx hb dX5_tries_47 rfl (lv_at hl 2 rfl) ?_
        refine va_get (D := (dC, dI)) (ci := 5) (v := .ref (a 6)) (C := RX5) (T := TX5) (N := 13) hx hb hts hin5 hown hK hP 0 rfl rfl 8 (by decide) (hts (.fieldLink RX5 29 "BoatRunsModel" "aboard" "[Z") (by decide +kernel)) (fun _ h9 => h9) rfl dX5_tries_48 ?_
        refine lv_iload_n hx hb dX5_tries_51 rfl (lv_at hl 0 rfl) ?_
        refine xk_iconst hx hb dX5_tries_52 ?_
        obtain ⟨g14, eg14, hf⟩ := x_bind hf
        refine xk_zast (f := g5_abo x) hx hb hK hP (x_addr hD rfl) hS 6 1 eg14 (by decide) rfl rfl dX5_tries_53 (fun H locs hP hS => ?_)
        have hP : va_P (dC, dI) vwCl (w5C cs a (g5_thr x) (g5_acts x) (g5_typ x) (g5_lat x) (g5_pos x) (g5_wra x) (g5_now x) (g5_put x) (g5_was x) (g5_txt x) (g5_lef x) g14 (g5_ors x)) H := hP
        refine lv_aload_n hx hb dX5_tries_54 rfl (lv_at hl 2 rfl) ?_
        refine lv_iload_n hx hb dX5_tries_55 rfl (lv_at hl 0 rfl) ?_
        refine va_put (D := (dC, dI)) (ci := 5) (v := .int (iI v13)) (ty := .int) (C := RX5) (T := TX5) (N := 13) hx hb hts hin5 tyX5 tyX5_ok nmX5 hown hK hP (x_addr hD rfl) hS 0 rfl rfl 9 (by decide) (hts (.fieldLink RX5 168 "BoatRunsModel" "latest" "I") (by decide +kernel)) (fun _ h9 => h9) rfl (by decide +kernel) rfl rfl (Nat.le_of_ble_eq_true rfl) dX5_tries_56 (fun H locs hP _ hS => ?_)
        have hP : va_P (dC, dI) vwCl (w5C cs a (g5_thr x) (g5_acts x) (g5_typ x) v13 (g5_pos x) (g5_wra x) (g5_now x) (g5_put x) (g5_was x) (g5_txt x) (g5_lef x) g14 (g5_ors x)) H := hP
        refine lv_iload_n hx hb dX5_tries_59 rfl (lv_at hl 1 rfl) ?_
        obtain rfl := Option.some.inj hf
        exact xe_wi hx hb hr hlocks hS hP dX5_tries_60
      · have hf := c12f c12
        refine lv_iload_n hx hb dX5_tries_45 rfl (lv_at hl 1 rfl) ?_
        refine lv_istore_n (lv' := [(1, .int (iI v6)), (2, .int (iI 0)), (0, .ref (a 0))]) hx hb dX5_tries_46 rfl hl (by decide) rfl (fun ls hl => ?_)
        refine lv_aload_n hx hb dX5_tries_47 rfl (lv_at hl 2 rfl) ?_
        refine va_get (D := (dC, dI)) (ci := 5) (v := .ref (a 6)) (C := RX5) (T := TX5) (N := 13) hx hb hts hin5 hown hK hP 0 rfl rfl 8 (by decide) (hts (.fieldLink RX5 29 "BoatRunsModel" "aboard" "[Z") (by decide +kernel)) (fun _ h9 => h9) rfl dX5_tries_48 ?_
        refine lv_iload_n hx hb dX5_tries_51 rfl (lv_at hl 0 rfl) ?_
        refine xk_iconst hx hb dX5_tries_52 ?_
        obtain ⟨g15, eg15, hf⟩ := x_bind hf
        refine xk_zast (f := g5_abo x) hx hb hK hP (x_addr hD rfl) hS 6 1 eg15 (by decide) rfl rfl dX5_tries_53 (fun H locs hP hS => ?_)
        have hP : va_P (dC, dI) vwCl (w5C cs a (g5_thr x) (g5_acts x) (g5_typ x) (g5_lat x) (g5_pos x) (g5_wra x) (g5_now x) (g5_put x) (g5_was x) (g5_txt x) (g5_lef x) g15 (g5_ors x)) H := hP
        refine lv_aload_n hx hb dX5_tries_54 rfl (lv_at hl 2 rfl) ?_
        refine lv_iload_n hx hb dX5_tries_55 rfl (lv_at hl 0 rfl) ?_
        refine va_put (D := (dC, dI)) (ci := 5) (v := .int (iI v6)) (ty := .int) (C := RX5) (T := TX5) (N := 13) hx hb hts hin5 tyX5 tyX5_ok nmX5 hown hK hP (x_addr hD rfl) hS 0 rfl rfl 9 (by decide) (hts (.fieldLink RX5 168 "BoatRunsModel" "latest" "I") (by decide +kernel)) (fun _ h9 => h9) rfl (by decide +kernel) rfl rfl (Nat.le_of_ble_eq_true rfl) dX5_tries_56 (fun H locs hP _ hS => ?_)
        have hP : va_P (dC, dI) vwCl (w5C cs a (g5_thr x) (g5_acts x) (g5_typ x) v6 (g5_pos x) (g5_wra x) (g5_now x) (g5_put x) (g5_was x) (g5_txt x) (g5_lef x) g15 (g5_ors x)) H := hP
        refine lv_iload_n hx hb dX5_tries_59 rfl (lv_at hl 1 rfl) ?_
        obtain rfl := Option.some.inj hf
        exact xe_wi hx hb hr hlocks hS hP dX5_tries_60
theorem cdX5_tries : yX5_tries.cls = RX5 ∧ yX5_tries.cls ≠ "java/lang/invoke/MethodHandle" ∧ yX5_tries.cls ≠ "java/lang/invoke/VarHandle" ∧ (parseMethodDescriptor yX5_tries.desc).map (fun d => d.parameters.length) = some 0 := by decide +kernel

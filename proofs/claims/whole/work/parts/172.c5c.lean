set_option maxHeartbeats 4000000 in
set_option maxRecDepth 100000 in
theorem c5_dropRun (l : Launch) (dC : Nat → ClassId) (dI : Nat → Nat → Nat) (cs : Nat → ClassId) (a : Nat → Nat) (sz : Nat) (x : ModS) (p0 : Int) (res : ModS) (hf : f5_dropRun x p0 = some res) : Met l yX5_dropRun wsX5_dropRun ({ frames := 0, cells := 0, slots := 0, locals := 0 } : Room) (va_Pc [.ref (a 0), .int (iI p0)] (xPW (dC, dI) vwCl (w5 cs a x) (xT cs) sz)) (xQv (dC, dI) vwCl (w5 cs a x) (w5 cs a res) sz) 0 0 (va_A (w5 cs a x) sz) := by
  refine Met.ofW (cc := cX5_dropRun) (maxL := 3) (ret := none) (by decide) rfl ?_
  intro p e s m args below meth c s₁ B hml hv
  obtain ⟨rfl, hsz, hP, hK, hD0⟩ := hv
  have hx := B.exec
  have hb := B.bytes
  have hr := B.returns
  have hts := atoms_spec (ws := wsX5_dropRun) B.pre
  have hown : s.vm.findClass RX5 = some m.cls := findClass_of_methodNamed B.named
  have hlocks := B.notSynchronized
  have hin5 : ∀ w ∈ wsX50, w ∈ wsX5_dropRun := by decide +kernel
  subst hsz
  have hD := hD0.self (sz := s.heap.size)
  have hA : ∀ z9 : Nat, s.heap.size ≤ z9 → va_A (w5 cs a x) s.heap.size z9 := fun z9 h => Or.inr h
  have hS : va_S (va_A (w5 cs a x) s.heap.size) s.heap s.heap [] := va_S.rf
  have hl := lv_entry [.ref (a 0), .int (iI p0)] (n := 3) (Nat.le_of_ble_eq_true rfl)
  rw [lg_entry_eq]
  generalize (lg_sl [.ref (a 0), .int (iI p0)] ++ List.replicate (3 - (lg_sl [.ref (a 0), .int (iI p0)]).length) Slot.unset).toArray = ls at hl ⊢
  have hl : lv_has ls 3 [(0, .ref (a 0)), (1, .int (iI p0))] := hl
  unfold f5_dropRun at hf
  refine xk_bipush hx hb dX5_dropRun_0 (by decide) ?_
  refine xk_iconst hx hb dX5_dropRun_2 ?_
  refine lv_iload_n hx hb dX5_dropRun_3 rfl (lv_at hl 1 rfl) ?_
  refine xk_imul hx hb dX5_dropRun_4 ?_
  refine xk_iadd hx hb dX5_dropRun_5 ?_
  refine lv_istore_n (lv' := [(2, .int (iI (10 + (2 * p0)))), (0, .ref (a 0)), (1, .int (iI p0))]) hx hb dX5_dropRun_6 rfl hl (by decide) rfl (fun ls hl => ?_)
  have hL7 : ∀ (n2 : Nat) (l2 : Int) (x1 : ModS), f5_dropRun_L7  n2 l2 x1 = some res → ∀ (H : Heap) (locs : List Loc), va_P (dC, dI) vwCl (w5 cs a x1) H → va_S (va_A (w5 cs a x) s.heap.size) s.heap H locs → ∀ (ls : Array Slot), lv_has ls 3 [(0, .ref (a 0)), (2, .int (iI l2))] → W p l e (headSpec wsX5_dropRun ({ frames := 0, cells := 0, slots := 0, locals := 0 } : Room)).room s m ([.ref (a 0), .int (iI p0)] : List Value).toArray below meth c H locs 0 0 (MQ below (xQv (dC, dI) vwCl (w5 cs a x) (w5 cs a res) s.heap.size) ([.ref (a 0), .int (iI p0)] : List Value).toArray s 0 0 (va_A (w5 cs a x) s.heap.size)) (F0 m 7 ls []) := by
    intro  n2
    induction n2 with
    | zero => intro l2 x1 hf; have hf : (none : Option (ModS)) = some res := hf; cases hf
    | succ n2 ih7 =>
      intro l2 x1 hf H locs hP hS ls hl
      rw [f5_dropRun_L7] at hf
      refine lv_iload_n hx hb dX5_dropRun_7 rfl (lv_at hl 1 rfl) ?_
      refine xk_bipush hx hb dX5_dropRun_8 (by decide) ?_
      refine xk_iconst hx hb dX5_dropRun_10 ?_
      refine lv_aload_n hx hb dX5_dropRun_11 rfl (lv_at hl 0 rfl) ?_
      refine va_get (D := (dC, dI)) (ci := 5) (v := .ref (a 1)) (C := RX5) (T := TX5) (N := 13) hx hb hts hin5 hown hK hP 0 rfl rfl 1 (by decide) (hts (.fieldLink RX5 13 "BoatRunsModel" "now" "[I") (by decide +kernel)) (fun _ h9 => h9) rfl dX5_dropRun_12 ?_
      refine xk_bipush hx hb dX5_dropRun_15 (by decide) ?_
      obtain ⟨v3, ev3, hf⟩ := x_bind hf
      refine xk_iald (f := g5_now x1) hx hb hK hP 1 0 ev3 (by decide) rfl rfl dX5_dropRun_17 ?_
      refine xk_imul hx hb dX5_dropRun_18 ?_
      refine xk_iadd hx hb dX5_dropRun_19 ?_
      refine xk_iconst hx hb dX5_dropRun_20 ?_
      refine xk_isub hx hb dX5_dropRun_21 ?_
      obtain ⟨c4a, c4b, c4t, c4f⟩ := x_ltE hf
      refine xk_icmp_ge (tgt := 45) hx hb c4a c4b dX5_dropRun_22 (by decide) (fun c4 => ?_) (fun c4 => ?_)
      · have hf := c4t c4
        refine lv_aload_n hx hb dX5_dropRun_25 rfl (lv_at hl 0 rfl) ?_
        refine va_get (D := (dC, dI)) (ci := 5) (v := .ref (a 1)) (C := RX5) (T := TX5) (N := 13) hx hb hts hin5 hown hK hP 0 rfl rfl 1 (by decide) (hts (.fieldLink RX5 13 "BoatRunsModel" "now" "[I") (by decide +kernel)) (fun _ h9 => h9) rfl dX5_dropRun_26 ?_
        refine lv_iload_n hx hb dX5_dropRun_29 rfl (lv_at hl 1 rfl) ?_
        refine lv_aload_n hx hb dX5_dropRun_30 rfl (lv_at hl 0 rfl) ?_
        refine va_get (D := (dC, dI)) (ci := 5) (v := .ref (a 1)) (C := RX5) (T := TX5) (N := 13) hx hb hts hin5 hown hK hP 0 rfl rfl 1 (by decide) (hts (.fieldLink RX5 13 "BoatRunsModel" "now" "[I") (by decide +kernel)) (fun _ h9 => h9) rfl dX5_dropRun_31 ?_
        refine lv_iload_n hx hb dX5_dropRun_34 rfl (lv_at hl 1 rfl) ?_
        refine xk_iconst hx hb dX5_dropRun_35 ?_
        refine xk_iadd hx hb dX5_dropRun_36 ?_
        obtain ⟨v5, ev5, hf⟩ := x_bind hf
        refine xk_iald (f := g5_now x1) hx hb hK hP 1 0 ev5 (by decide) rfl rfl dX5_dropRun_37 ?_
        obtain ⟨g6, eg6, hf⟩ := x_bind hf
        refine xk_iast (f := g5_now x1) hx hb hK hP (x_addr hD rfl) hS 1 0 eg6 (by decide) rfl rfl dX5_dropRun_38 (fun H locs hP hS => ?_)
        have hP : va_P (dC, dI) vwCl (w5C cs a (g5_thr x1) (g5_acts x1) (g5_typ x1) (g5_lat x1) (g5_pos x1) (g5_wra x1) g6 (g5_put x1) (g5_was x1) (g5_txt x1) (g5_lef x1) (g5_abo x1) (g5_ors x1)) H := hP
        refine xk_iinc (lv' := [(2, .int (iI (l2 + 1))), (0, .ref (a 0))]) hx hb dX5_dropRun_39 hl (k := 1) rfl (by decide) rfl (fun ls hl => ?_)
        refine lv_goto (tgt := 7) hx hb dX5_dropRun_42 (by decide) ?_
        exact ih7 (l2 + 1) (s5_now x1 g6) hf _ _ hP hS ls (lv_sub hl [1, 0] rfl)
      · have hf := c4f c4
        refine lv_aload_n hx hb dX5_dropRun_45 rfl (lv_at hl 0 rfl) ?_
        refine va_get (D := (dC, dI)) (ci := 5) (v := .ref (a 1)) (C := RX5) (T := TX5) (N := 13) hx hb hts hin5 hown hK hP 0 rfl rfl 1 (by decide) (hts (.fieldLink RX5 13 "BoatRunsModel" "now" "[I") (by decide +kernel)) (fun _ h9 => h9) rfl dX5_dropRun_46 ?_
        refine xk_bipush hx hb dX5_dropRun_49 (by decide) ?_
        refine lv_dup2_11 hx hb dX5_dropRun_51 rfl rfl ?_
        obtain ⟨v7, ev7, hf⟩ := x_bind hf
        refine xk_iald (f := g5_now x1) hx hb hK hP 1 0 ev7 (by decide) rfl rfl dX5_dropRun_52 ?_
        refine xk_iconst hx hb dX5_dropRun_53 ?_
        refine xk_isub hx hb dX5_dropRun_54 ?_
        obtain ⟨g8, eg8, hf⟩ := x_bind hf
        refine xk_iast (f := g5_now x1) hx hb hK hP (x_addr hD rfl) hS 1 0 eg8 (by decide) rfl rfl dX5_dropRun_55 (fun H locs hP hS => ?_)
        have hP : va_P (dC, dI) vwCl (w5C cs a (g5_thr x1) (g5_acts x1) (g5_typ x1) (g5_lat x1) (g5_pos x1) (g5_wra x1) g8 (g5_put x1) (g5_was x1) (g5_txt x1) (g5_lef x1) (g5_abo x1) (g5_ors x1)) H := hP
        obtain rfl := Option.some.inj hf
        exact xe_wv hx hb hr hlocks hS hP dX5_dropRun_56
  exact hL7  xFU (10 + (2 * p0)) x hf _ _ hP hS ls (lv_sub hl [1, 0] rfl)
theorem cdX5_dropRun : yX5_dropRun.cls = RX5 ∧ yX5_dropRun.cls ≠ "java/lang/invoke/MethodHandle" ∧ yX5_dropRun.cls ≠ "java/lang/invoke/VarHandle" ∧ (parseMethodDescriptor yX5_dropRun.desc).map (fun d => d.parameters.length) = some 1 := by decide +kernel

set_option maxHeartbeats 4000000 in
set_option maxRecDepth 100000 in
theorem c5_leastInBoat (l : Launch) (dC : Nat → ClassId) (dI : Nat → Nat → Nat) (cs : Nat → ClassId) (a : Nat → Nat) (x : ModS) (p0 : Int) (res : Int) (hf : f5_leastInBoat x p0 = some res) : Met l yX5_leastInBoat wsX5_leastInBoat ({ frames := 2, cells := 0, slots := 0, locals := 44 } : Room) (va_Pc [.ref (a 0), .int (iI p0)] (xPR (dC, dI) vwCl (w5 cs a x) (xT cs))) (vp_Si (fun r => r = iI res)) 0 0 (fun _ => False) := by
  refine Met.ofW (cc := cX5_leastInBoat) (maxL := 5) (ret := (some .int)) (by decide) rfl ?_
  intro p e s m args below meth c s₁ B hml hv
  obtain ⟨rfl, hP, hK⟩ := hv
  have hx := B.exec
  have hb := B.bytes
  have hr := B.returns
  have hts := atoms_spec (ws := wsX5_leastInBoat) B.pre
  have hown : s.vm.findClass RX5 = some m.cls := findClass_of_methodNamed B.named
  have hlocks := B.notSynchronized
  have hin5 : ∀ w ∈ wsX50, w ∈ wsX5_leastInBoat := by decide +kernel
  have hl := lv_entry [.ref (a 0), .int (iI p0)] (n := 5) (Nat.le_of_ble_eq_true rfl)
  rw [lg_entry_eq]
  generalize (lg_sl [.ref (a 0), .int (iI p0)] ++ List.replicate (5 - (lg_sl [.ref (a 0), .int (iI p0)]).length) Slot.unset).toArray = ls at hl ⊢
  have hl : lv_has ls 5 [(0, .ref (a 0)), (1, .int (iI p0))] := hl
  unfold f5_leastInBoat at hf
  refine xk_iconst hx hb dX5_leastInBoat_0 ?_
  refine lv_istore_n (lv' := [(2, .int (iI (-1))), (0, .ref (a 0)), (1, .int (iI p0))]) hx hb dX5_leastInBoat_1 rfl hl (by decide) rfl (fun ls hl => ?_)
  refine xk_iconst hx hb dX5_leastInBoat_2 ?_
  refine lv_istore_n (lv' := [(3, .int (iI 0)), (2, .int (iI (-1))), (0, .ref (a 0)), (1, .int (iI p0))]) hx hb dX5_leastInBoat_3 rfl hl (by decide) rfl (fun ls hl => ?_)
  have hL4 : ∀ (n1 : Nat) (l2 : Int) (l3 : Int), f5_leastInBoat_L4 x p0 n1 l2 l3 = some res → ∀ (ls : Array Slot), lv_has ls 5 [(0, .ref (a 0)), (1, .int (iI p0)), (2, .int (iI l2)), (3, .int (iI l3))] → W p l e (headSpec wsX5_leastInBoat ({ frames := 2, cells := 0, slots := 0, locals := 44 } : Room)).room s m ([.ref (a 0), .int (iI p0)] : List Value).toArray below meth c s.heap [] 0 0 (MQ below (vp_Si (fun r => r = iI res)) ([.ref (a 0), .int (iI p0)] : List Value).toArray s 0 0 (fun _ => False)) (F0 m 4 ls []) := by
    intro  n1
    induction n1 with
    | zero => intro l2 l3 hf; have hf : (none : Option (Int)) = some res := hf; cases hf
    | succ n1 ih4 =>
      intro l2 l3 hf ls hl
      rw [f5_leastInBoat_L4] at hf
      refine lv_iload_n hx hb dX5_leastInBoat_4 rfl (lv_at hl 3 rfl) ?_
      refine lv_aload_n hx hb dX5_leastInBoat_5 rfl (lv_at hl 0 rfl) ?_
      refine va_get (D := (dC, dI)) (ci := 5) (v := .ref (a 1)) (C := RX5) (T := TX5) (N := 13) hx hb hts hin5 hown hK hP 0 rfl rfl 1 (by decide) (hts (.fieldLink RX5 13 "BoatRunsModel" "now" "[I") (by decide +kernel)) (fun _ h9 => h9) rfl dX5_leastInBoat_6 ?_
      refine xk_iconst hx hb dX5_leastInBoat_9 ?_
      obtain ⟨v2, ev2, hf⟩ := x_bind hf
      refine xk_iald (f := g5_now x) hx hb hK hP 1 0 ev2 (by decide) rfl rfl dX5_leastInBoat_10 ?_
      obtain ⟨c3a, c3b, c3t, c3f⟩ := x_ltE hf
      refine xk_icmp_ge (tgt := 75) hx hb c3a c3b dX5_leastInBoat_11 (by decide) (fun c3 => ?_) (fun c3 => ?_)
      · have hf := c3t c3
        refine lv_aload_n hx hb dX5_leastInBoat_14 rfl (lv_at hl 0 rfl) ?_
        refine lv_iload_n hx hb dX5_leastInBoat_15 rfl (lv_at hl 3 rfl) ?_
        refine xk_iconst hx hb dX5_leastInBoat_16 ?_
        obtain ⟨v4, ev4, hf⟩ := x_bind hf
        refine xc_ri (As := [.int (iI l3), .int (iI 2)]) (rest := []) ⟨hx, hb, hml, hown, hts⟩ (c5_of l dC dI cs a x l3 2  _ ev4) (cwV 2 hts gX5_leastInBoat_X5_of rfl rfl rfl cdX5_of ⟨Nat.le_of_ble_eq_true rfl, Nat.le_of_ble_eq_true rfl⟩) hK hP [0, 1, 2, 3, 4, 5, 6, 7] rfl 0 rfl rfl rfl hl.1 rfl (Nat.le_of_ble_eq_true rfl) dX5_leastInBoat_17 ⟨Nat.zero_le _, Nat.zero_le _⟩ ?_
        obtain ⟨c5a, c5b, c5t, c5f⟩ := x_eqE hf
        refine xk_if_ne (tgt := 41) hx hb c5a dX5_leastInBoat_20 (by decide) (fun c5 => ?_) (fun c5 => ?_)
        · have hf := c5t c5
          refine lv_iload_n hx hb dX5_leastInBoat_23 rfl (lv_at hl 1 rfl) ?_
          refine xk_iconst hx hb dX5_leastInBoat_24 ?_
          obtain ⟨c6a, c6b, c6t, c6f⟩ := x_eqE hf
          refine xk_icmp_eq (tgt := 37) hx hb c6a c6b dX5_leastInBoat_25 (by decide) (fun c6 => ?_) (fun c6 => ?_)
          · have hf := c6t c6
            refine xk_iconst hx hb dX5_leastInBoat_37 ?_
            refine lv_goto (tgt := 42) hx hb dX5_leastInBoat_38 (by decide) ?_
            refine lv_istore (lv' := [(4, .int (iI 1)), (0, .ref (a 0)), (1, .int (iI p0)), (2, .int (iI l2)), (3, .int (iI l3))]) hx hb dX5_leastInBoat_42 hl (by decide) rfl (fun ls hl => ?_)
            refine lv_iload hx hb dX5_leastInBoat_44 (lv_at hl 0 rfl) ?_
            refine xk_if_eq (tgt := 67) hx hb (by decide) dX5_leastInBoat_46 (by decide) (fun c7 => ?_) (fun c7 => ?_)
            · exact absurd c7 (by decide)
            · refine lv_iload_n hx hb dX5_leastInBoat_49 rfl (lv_at hl 3 rfl) ?_
              refine xk_iconst hx hb dX5_leastInBoat_50 ?_
              obtain ⟨c8a, c8b, c8t, c8f⟩ := x_eqE hf
              refine xk_icmp_eq (tgt := 63) hx hb c8a c8b dX5_leastInBoat_51 (by decide) (fun c8 => ?_) (fun c8 => ?_)
              · have hf := c8t c8
                refine lv_iload_n hx hb dX5_leastInBoat_63 rfl (lv_at hl 4 rfl) ?_
                refine lv_goto (tgt := 68) hx hb dX5_leastInBoat_64 (by decide) ?_
                refine lv_istore_n (lv' := [(2, .int (iI l3)), (4, .int (iI 1)), (0, .ref (a 0)), (1, .int (iI p0)), (3, .int (iI l3))]) hx hb dX5_leastInBoat_68 rfl hl (by decide) rfl (fun ls hl => ?_)
                refine xk_iinc (lv' := [(3, .int (iI (l3 + 1))), (2, .int (iI l3)), (4, .int (iI 1)), (0, .ref (a 0)), (1, .int (iI p0))]) hx hb dX5_leastInBoat_69 hl (k := 4) rfl (by decide) rfl (fun ls hl => ?_)
                refine lv_goto (tgt := 4) hx hb dX5_leastInBoat_72 (by decide) ?_
                exact ih4 l3 (l3 + 1) hf ls (lv_sub hl [3, 4, 1, 0] rfl)
              · have hf := c8f c8
                refine lv_aload_n hx hb dX5_leastInBoat_54 rfl (lv_at hl 1 rfl) ?_
                refine lv_iload_n hx hb dX5_leastInBoat_55 rfl (lv_at hl 4 rfl) ?_
                refine lv_iload_n hx hb dX5_leastInBoat_56 rfl (lv_at hl 3 rfl) ?_
                obtain ⟨v9, ev9, hf⟩ := x_bind hf
                refine xc_ri (As := [.int (iI l3), .int (iI l2)]) (rest := []) ⟨hx, hb, hml, hown, hts⟩ (c5_isLess l dC dI cs a x l3 l2  _ ev9) (cwV 2 hts gX5_leastInBoat_X5_isLess rfl rfl rfl cdX5_isLess ⟨Nat.le_of_ble_eq_true rfl, Nat.le_of_ble_eq_true rfl⟩) hK hP [0, 1, 2, 3, 4, 5, 6, 7] rfl 0 rfl rfl rfl hl.1 rfl (Nat.le_of_ble_eq_true rfl) dX5_leastInBoat_57 ⟨Nat.zero_le _, Nat.zero_le _⟩ ?_
                obtain ⟨c10a, c10b, c10t, c10f⟩ := x_eqE hf
                refine xk_if_eq (tgt := 67) hx hb c10a dX5_leastInBoat_60 (by decide) (fun c10 => ?_) (fun c10 => ?_)
                · have hf := c10t c10
                  refine lv_iload_n hx hb dX5_leastInBoat_67 rfl (lv_at hl 3 rfl) ?_
                  refine lv_istore_n (lv' := [(2, .int (iI l2)), (4, .int (iI 1)), (0, .ref (a 0)), (1, .int (iI p0)), (3, .int (iI l3))]) hx hb dX5_leastInBoat_68 rfl hl (by decide) rfl (fun ls hl => ?_)
                  refine xk_iinc (lv' := [(3, .int (iI (l3 + 1))), (2, .int (iI l2)), (4, .int (iI 1)), (0, .ref (a 0)), (1, .int (iI p0))]) hx hb dX5_leastInBoat_69 hl (k := 4) rfl (by decide) rfl (fun ls hl => ?_)
                  refine lv_goto (tgt := 4) hx hb dX5_leastInBoat_72 (by decide) ?_
                  exact ih4 l2 (l3 + 1) hf ls (lv_sub hl [3, 4, 1, 0] rfl)
                · have hf := c10f c10
                  refine lv_iload_n hx hb dX5_leastInBoat_63 rfl (lv_at hl 4 rfl) ?_
                  refine lv_goto (tgt := 68) hx hb dX5_leastInBoat_64 (by decide) ?_
                  refine lv_istore_n (lv' := [(2, .int (iI l3)), (4, .int (iI 1)), (0, .ref (a 0)), (1, .int (iI p0)), (3, .int (iI l3))]) hx hb dX5_leastInBoat_68 rfl hl (by decide) rfl (fun ls hl => ?_)
                  refine xk_iinc (lv' := [(3, .int (iI (l3 + 1))), (2, .int (iI l3)), (4, .int (iI 1)), (0, .ref (a 0)), (1, .int (iI p0))]) hx hb dX5_leastInBoat_69 hl (k := 4) rfl (by decide) rfl (fun ls hl => ?_)
                  refine lv_goto (tgt := 4) hx hb dX5_leastInBoat_72 (by decide) ?_
                  exact ih4 l3 (l3 + 1) hf ls (lv_sub hl [3, 4, 1, 0] rfl)
          · have hf := c6f c6
            refine lv_aload_n hx hb dX5_leastInBoat_28 rfl (lv_at hl 0 rfl) ?_
            refine lv_iload_n hx hb dX5_leastInBoat_29 rfl (lv_at hl 1 rfl) ?_
            refine lv_iload_n hx hb dX5_leastInBoat_30 rfl (lv_at hl 3 rfl) ?_
            obtain ⟨v11, ev11, hf⟩ := x_bind hf
            refine xc_ri (As := [.int (iI p0), .int (iI l3)]) (rest := []) ⟨hx, hb, hml, hown, hts⟩ (c5_isLess l dC dI cs a x p0 l3  _ ev11) (cwV 2 hts gX5_leastInBoat_X5_isLess rfl rfl rfl cdX5_isLess ⟨Nat.le_of_ble_eq_true rfl, Nat.le_of_ble_eq_true rfl⟩) hK hP [0, 1, 2, 3, 4, 5, 6, 7] rfl 0 rfl rfl rfl hl.1 rfl (Nat.le_of_ble_eq_true rfl) dX5_leastInBoat_31 ⟨Nat.zero_le _, Nat.zero_le _⟩ ?_
            obtain ⟨c12a, c12b, c12t, c12f⟩ := x_eqE hf
            refine xk_if_eq (tgt := 41) hx hb c12a dX5_leastInBoat_34 (by decide) (fun c12 => ?_) (fun c12 => ?_)
            · have hf := c12t c12
              refine xk_iconst hx hb dX5_leastInBoat_41 ?_
              refine lv_istore (lv' := [(4, .int (iI 0)), (0, .ref (a 0)), (1, .int (iI p0)), (2, .int (iI l2)), (3, .int (iI l3))]) hx hb dX5_leastInBoat_42 hl (by decide) rfl (fun ls hl => ?_)
              refine lv_iload hx hb dX5_leastInBoat_44 (lv_at hl 0 rfl) ?_
              refine xk_if_eq (tgt := 67) hx hb (by decide) dX5_leastInBoat_46 (by decide) (fun c13 => ?_) (fun c13 => ?_)
              · refine lv_iload_n hx hb dX5_leastInBoat_67 rfl (lv_at hl 3 rfl) ?_
                refine lv_istore_n (lv' := [(2, .int (iI l2)), (4, .int (iI 0)), (0, .ref (a 0)), (1, .int (iI p0)), (3, .int (iI l3))]) hx hb dX5_leastInBoat_68 rfl hl (by decide) rfl (fun ls hl => ?_)
                refine xk_iinc (lv' := [(3, .int (iI (l3 + 1))), (2, .int (iI l2)), (4, .int (iI 0)), (0, .ref (a 0)), (1, .int (iI p0))]) hx hb dX5_leastInBoat_69 hl (k := 4) rfl (by decide) rfl (fun ls hl => ?_)
                refine lv_goto (tgt := 4) hx hb dX5_leastInBoat_72 (by decide) ?_
                exact ih4 l2 (l3 + 1) hf ls (lv_sub hl [3, 4, 1, 0] rfl)
              · exact absurd c13 (by decide)
            · have hf := c12f c12
              refine xk_iconst hx hb dX5_leastInBoat_37 ?_
              refine lv_goto (tgt := 42) hx hb dX5_leastInBoat_38 (by decide) ?_
              refine lv_istore (lv' := [(4, .int (iI 1)), (0, .ref (a 0)), (1, .int (iI p0)), (2, .int (iI l2)), (3, .int (iI l3))]) hx hb dX5_leastInBoat_42 hl (by decide) rfl (fun ls hl => ?_)
              refine lv_iload hx hb dX5_leastInBoat_44 (lv_at hl 0 rfl) ?_
              refine xk_if_eq (tgt := 67) hx hb (by decide) dX5_leastInBoat_46 (by decide) (fun c14 => ?_) (fun c14 => ?_)
              · exact absurd c14 (by decide)
              · refine lv_iload_n hx hb dX5_leastInBoat_49 rfl (lv_at hl 3 rfl) ?_
                refine xk_iconst hx hb dX5_leastInBoat_50 ?_
                obtain ⟨c15a, c15b, c15t, c15f⟩ := x_eqE hf
                refine xk_icmp_eq (tgt := 63) hx hb c15a c15b dX5_leastInBoat_51 (by decide) (fun c15 => ?_) (fun c15 => ?_)
                · have hf := c15t c15
                  refine lv_iload_n hx hb dX5_leastInBoat_63 rfl (lv_at hl 4 rfl) ?_
                  refine lv_goto (tgt := 68) hx hb dX5_leastInBoat_64 (by decide) ?_
                  refine lv_istore_n (lv' := [(2, .int (iI l3)), (4, .int (iI 1)), (0, .ref (a 0)), (1, .int (iI p0)), (3, .int (iI l3))]) hx hb dX5_leastInBoat_68 rfl hl (by decide) rfl (fun ls hl => ?_)
                  refine xk_iinc (lv' := [(3, .int (iI (l3 + 1))), (2, .int (iI l3)), (4, .int (iI 1)), (0, .ref (a 0)), (1, .int (iI p0))]) hx hb dX5_leastInBoat_69 hl (k := 4) rfl (by decide) rfl (fun ls hl => ?_)
                  refine lv_goto (tgt := 4) hx hb dX5_leastInBoat_72 (by decide) ?_
                  exact ih4 l3 (l3 + 1) hf ls (lv_sub hl [3, 4, 1, 0] rfl)
                · have hf := c15f c15
                  refine lv_aload_n hx hb dX5_leastInBoat_54 rfl (lv_at hl 1 rfl) ?_
                  refine lv_iload_n hx hb dX5_leastInBoat_55 rfl (lv_at hl 4 rfl) ?_
                  refine lv_iload_n hx hb dX5_leastInBoat_56 rfl (lv_at hl 3 rfl) ?_
                  obtain ⟨v16, ev16, hf⟩ := x_bind hf
                  refine xc_ri (As := [.int (iI l3), .int (iI l2)]) (rest := []) ⟨hx, hb, hml, hown, hts⟩ (c5_isLess l dC dI cs a x l3 l2  _ ev16) (cwV 2 hts gX5_leastInBoat_X5_isLess rfl rfl rfl cdX5_isLess ⟨Nat.le_of_ble_eq_true rfl, Nat.le_of_ble_eq_true rfl⟩) hK hP [0, 1, 2, 3, 4, 5, 6, 7] rfl 0 rfl rfl rfl hl.1 rfl (Nat.le_of_ble_eq_true rfl) dX5_leastInBoat_57 ⟨Nat.zero_le _, Nat.zero_le _⟩ ?_
                  obtain ⟨c17a, c17b, c17t, c17f⟩ := x_eqE hf
                  refine xk_if_eq (tgt := 67) hx hb c17a dX5_leastInBoat_60 (by decide) (fun c17 => ?_) (fun c17 => ?_)
                  · have hf := c17t c17
                    refine lv_iload_n hx hb dX5_leastInBoat_67 rfl (lv_at hl 3 rfl) ?_
                    refine lv_istore_n (lv' := [(2, .int (iI l2)), (4, .int (iI 1)), (0, .ref (a 0)), (1, .int (iI p0)), (3, .int (iI l3))]) hx hb dX5_leastInBoat_68 rfl hl (by decide) rfl (fun ls hl => ?_)
                    refine xk_iinc (lv' := [(3, .int (iI (l3 + 1))), (2, .int (iI l2)), (4, .int (iI 1)), (0, .ref (a 0)), (1, .int (iI p0))]) hx hb dX5_leastInBoat_69 hl (k := 4) rfl (by decide) rfl (fun ls hl => ?_)
                    refine lv_goto (tgt := 4) hx hb dX5_leastInBoat_72 (by decide) ?_
                    exact ih4 l2 (l3 + 1) hf ls (lv_sub hl [3, 4, 1, 0] rfl)
                  · have hf := c17f c17
                    refine lv_iload_n hx hb dX5_leastInBoat_63 rfl (lv_at hl 4 rfl) ?_
                    refine lv_goto (tgt := 68) hx hb dX5_leastInBoat_64 (by decide) ?_
                    refine lv_istore_n (lv' := [(2, .int (iI l3)), (4, .int (iI 1)), (0, .ref (a 0)), (1, .int (iI p0)), (3, .int (iI l3))]) hx hb dX5_leastInBoat_68 rfl hl (by decide) rfl (fun ls hl => ?_)
                    refine xk_iinc (lv' := [(3, .int (iI (l3 + 1))), (2, .int (iI l3)), (4, .int (iI 1)), (0, .ref (a 0)), (1, .int (iI p0))]) hx hb dX5_leastInBoat_69 hl (k := 4) rfl (by decide) rfl (fun ls hl => ?_)
                    refine lv_goto (tgt := 4) hx hb dX5_leastInBoat_72 (by decide) ?_
                    exact ih4 l3 (l3 + 1) hf ls (lv_sub hl [3, 4, 1, 0] rfl)
        · have hf := c5f c5
          refine xk_iconst hx hb dX5_leastInBoat_41 ?_
          refine lv_istore (lv' := [(4, .int (iI 0)), (0, .ref (a 0)), (1, .int (iI p0)), (2, .int (iI l2)), (3, .int (iI l3))]) hx hb dX5_leastInBoat_42 hl (by decide) rfl (fun ls hl => ?_)
          refine lv_iload hx hb dX5_leastInBoat_44 (lv_at hl 0 rfl) ?_
          refine xk_if_eq (tgt := 67) hx hb (by decide) dX5_leastInBoat_46 (by decide) (fun c18 => ?_) (fun c18 => ?_)
          · refine lv_iload_n hx hb dX5_leastInBoat_67 rfl (lv_at hl 3 rfl) ?_
            refine lv_istore_n (lv' := [(2, .int (iI l2)), (4, .int (iI 0)), (0, .ref (a 0)), (1, .int (iI p0)), (3, .int (iI l3))]) hx hb dX5_leastInBoat_68 rfl hl (by decide) rfl (fun ls hl => ?_)
            refine xk_iinc (lv' := [(3, .int (iI (l3 + 1))), (2, .int (iI l2)), (4, .int (iI 0)), (0, .ref (a 0)), (1, .int (iI p0))]) hx hb dX5_leastInBoat_69 hl (k := 4) rfl (by decide) rfl (fun ls hl => ?_)
            refine lv_goto (tgt := 4) hx hb dX5_leastInBoat_72 (by decide) ?_
            exact ih4 l2 (l3 + 1) hf ls (lv_sub hl [3, 4, 1, 0] rfl)
          · exact absurd c18 (by decide)
      · have hf := c3f c3
        refine lv_iload_n hx hb dX5_leastInBoat_75 rfl (lv_at hl 2 rfl) ?_
        obtain rfl := Option.some.inj hf
        exact xe_ri hx hb hr hlocks dX5_leastInBoat_76 rfl
  exact hL4  xFU (-1) 0 hf ls (lv_sub hl [2, 3, 1, 0] rfl)
theorem cdX5_leastInBoat : yX5_leastInBoat.cls = RX5 ∧ yX5_leastInBoat.cls ≠ "java/lang/invoke/MethodHandle" ∧ yX5_leastInBoat.cls ≠ "java/lang/invoke/VarHandle" ∧ (parseMethodDescriptor yX5_leastInBoat.desc).map (fun d => d.parameters.length) = some 1 := by decide +kernel

set_option maxHeartbeats 4000000 in
set_option maxRecDepth 100000 in
theorem c5_fitting (l : Launch) (dC : Nat → ClassId) (dI : Nat → Nat → Nat) (cs : Nat → ClassId) (a : Nat → Nat) (x : ModS) (res : Int) (hf : f5_fitting x = some res) : Met l yX5_fitting wsX5_fitting ({ frames := 3, cells := 0, slots := 0, locals := 68 } : Room) (va_Pc [.ref (a 0)] (xPR (dC, dI) vwCl (w5 cs a x) (xT cs))) (vp_Si (fun r => r = iI res)) 0 0 (fun _ => False) := by
  refine Met.ofW (cc := cX5_fitting) (maxL := 1) (ret := (some .int)) (by decide) rfl ?_
  intro p e s m args below meth c s₁ B hml hv
  obtain ⟨rfl, hP, hK⟩ := hv
  have hx := B.exec
  have hb := B.bytes
  have hr := B.returns
  have hts := atoms_spec (ws := wsX5_fitting) B.pre
  have hown : s.vm.findClass RX5 = some m.cls := findClass_of_methodNamed B.named
  have hlocks := B.notSynchronized
  have hin5 : ∀ w ∈ wsX50, w ∈ wsX5_fitting := by decide +kernel
  have hl := lv_entry [.ref (a 0)] (n := 1) (Nat.le_of_ble_eq_true rfl)
  rw [lg_entry_eq]
  generalize (lg_sl [.ref (a 0)] ++ List.replicate (1 - (lg_sl [.ref (a 0)]).length) Slot.unset).toArray = ls at hl ⊢
  have hl : lv_has ls 1 [(0, .ref (a 0))] := hl
  unfold f5_fitting at hf
  refine lv_aload_n hx hb dX5_fitting_0 rfl (lv_at hl 0 rfl) ?_
  refine va_get (D := (dC, dI)) (ci := 5) (v := .ref (a 1)) (C := RX5) (T := TX5) (N := 13) hx hb hts hin5 hown hK hP 0 rfl rfl 1 (by decide) (hts (.fieldLink RX5 13 "BoatRunsModel" "now" "[I") (by decide +kernel)) (fun _ h9 => h9) rfl dX5_fitting_1 ?_
  refine xk_bipush hx hb dX5_fitting_4 (by decide) ?_
  obtain ⟨v1, ev1, hf⟩ := x_bind hf
  refine xk_iald (f := g5_now x) hx hb hK hP 1 0 ev1 (by decide) rfl rfl dX5_fitting_6 ?_
  refine xk_iconst hx hb dX5_fitting_7 ?_
  obtain ⟨c2a, c2b, c2t, c2f⟩ := x_eqE hf
  refine xk_icmp_ne (tgt := 15) hx hb c2a c2b dX5_fitting_8 (by decide) (fun c2 => ?_) (fun c2 => ?_)
  · have hf := c2t c2
    refine xk_iconst hx hb dX5_fitting_11 ?_
    refine lv_goto (tgt := 30) hx hb dX5_fitting_12 (by decide) ?_
    obtain rfl := Option.some.inj hf
    exact xe_ri hx hb hr hlocks dX5_fitting_30 rfl
  · have hf := c2f c2
    refine lv_aload_n hx hb dX5_fitting_15 rfl (lv_at hl 0 rfl) ?_
    refine lv_aload_n hx hb dX5_fitting_16 rfl (lv_at hl 0 rfl) ?_
    refine lv_aload_n hx hb dX5_fitting_17 rfl (lv_at hl 0 rfl) ?_
    refine va_get (D := (dC, dI)) (ci := 5) (v := .ref (a 1)) (C := RX5) (T := TX5) (N := 13) hx hb hts hin5 hown hK hP 0 rfl rfl 1 (by decide) (hts (.fieldLink RX5 13 "BoatRunsModel" "now" "[I") (by decide +kernel)) (fun _ h9 => h9) rfl dX5_fitting_18 ?_
    refine xk_bipush hx hb dX5_fitting_21 (by decide) ?_
    obtain ⟨v3, ev3, hf⟩ := x_bind hf
    refine xk_iald (f := g5_now x) hx hb hK hP 1 0 ev3 (by decide) rfl rfl dX5_fitting_23 ?_
    obtain ⟨v4, ev4, hf⟩ := x_bind hf
    refine xc_ri (As := [.int (iI v3)]) (rest := [.ref (a 0)]) ⟨hx, hb, hml, hown, hts⟩ (c5_lastOf l dC dI cs a x v3  _ ev4) (cwV 1 hts gX5_fitting_X5_lastOf rfl rfl rfl cdX5_lastOf ⟨Nat.le_of_ble_eq_true rfl, Nat.le_of_ble_eq_true rfl⟩) hK hP [0, 1, 2, 3, 4, 5, 6, 7] rfl 0 rfl rfl rfl hl.1 rfl (Nat.le_of_ble_eq_true rfl) dX5_fitting_24 ⟨Nat.zero_le _, Nat.zero_le _⟩ ?_
    obtain ⟨v5, ev5, hf⟩ := x_bind hf
    refine xc_ri (As := [.int (iI v4)]) (rest := []) ⟨hx, hb, hml, hown, hts⟩ (c5_leastInBoat l dC dI cs a x v4  _ ev5) (cwV 1 hts gX5_fitting_X5_leastInBoat rfl rfl rfl cdX5_leastInBoat ⟨Nat.le_of_ble_eq_true rfl, Nat.le_of_ble_eq_true rfl⟩) hK hP [0, 1, 2, 3, 4, 5, 6, 7] rfl 0 rfl rfl rfl hl.1 rfl (Nat.le_of_ble_eq_true rfl) dX5_fitting_27 ⟨Nat.zero_le _, Nat.zero_le _⟩ ?_
    obtain rfl := Option.some.inj hf
    exact xe_ri hx hb hr hlocks dX5_fitting_30 rfl
theorem cdX5_fitting : yX5_fitting.cls = RX5 ∧ yX5_fitting.cls ≠ "java/lang/invoke/MethodHandle" ∧ yX5_fitting.cls ≠ "java/lang/invoke/VarHandle" ∧ (parseMethodDescriptor yX5_fitting.desc).map (fun d => d.parameters.length) = some 0 := by decide +kernel

set_option maxHeartbeats 4000000 in
set_option maxRecDepth 100000 in
theorem c5_throwOne (l : Launch) (dC : Nat → ClassId) (dI : Nat → Nat → Nat) (cs : Nat → ClassId) (a : Nat → Nat) (sz : Nat) (x : ModS) (res : Int × ModS) (hf : f5_throwOne x = some res) : Met l yX5_throwOne wsX5_throwOne ({ frames := 4, cells := 0, slots := 0, locals := 88 } : Room) (va_Pc [.ref (a 0)] (xPW (dC, dI) vwCl (w5 cs a x) (xT cs) sz)) (xQi (dC, dI) vwCl (w5 cs a x) (w5 cs a res.2) sz res.1) 0 0 (va_A (w5 cs a x) sz) := by
  refine Met.ofW (cc := cX5_throwOne) (maxL := 2) (ret := (some .int)) (by decide) rfl ?_
  intro p e s m args below meth c s₁ B hml hv
  obtain ⟨rfl, hsz, hP, hK, hD0⟩ := hv
  have hx := B.exec
  have hb := B.bytes
  have hr := B.returns
  have hts := atoms_spec (ws := wsX5_throwOne) B.pre
  have hown : s.vm.findClass RX5 = some m.cls := findClass_of_methodNamed B.named
  have hlocks := B.notSynchronized
  have hin5 : ∀ w ∈ wsX50, w ∈ wsX5_throwOne := by decide +kernel
  subst hsz
  have hD := hD0.self (sz := s.heap.size)
  have hA : ∀ z9 : Nat, s.heap.size ≤ z9 → va_A (w5 cs a x) s.heap.size z9 := fun z9 h => Or.inr h
  have hS : va_S (va_A (w5 cs a x) s.heap.size) s.heap s.heap [] := va_S.rf
  have hl := lv_entry [.ref (a 0)] (n := 2) (Nat.le_of_ble_eq_true rfl)
  rw [lg_entry_eq]
  generalize (lg_sl [.ref (a 0)] ++ List.replicate (2 - (lg_sl [.ref (a 0)]).length) Slot.unset).toArray = ls at hl ⊢
  have hl : lv_has ls 2 [(0, .ref (a 0))] := hl
  unfold f5_throwOne at hf
  refine lv_aload_n hx hb dX5_throwOne_0 rfl (lv_at hl 0 rfl) ?_
  obtain ⟨v1, ev1, hf⟩ := x_bind hf
  refine xc_ri (As := []) (rest := []) ⟨hx, hb, hml, hown, hts⟩ (c5_fitting l dC dI cs a x  _ ev1) (cwV 0 hts gX5_throwOne_X5_fitting rfl rfl rfl cdX5_fitting ⟨Nat.le_of_ble_eq_true rfl, Nat.le_of_ble_eq_true rfl⟩) hK hP [0, 1, 2, 3, 4, 5, 6, 7] rfl 0 rfl rfl rfl hl.1 rfl (Nat.le_of_ble_eq_true rfl) dX5_throwOne_1 ⟨Nat.zero_le _, Nat.zero_le _⟩ ?_
  refine lv_istore_n (lv' := [(1, .int (iI v1)), (0, .ref (a 0))]) hx hb dX5_throwOne_4 rfl hl (by decide) rfl (fun ls hl => ?_)
  refine lv_iload_n hx hb dX5_throwOne_5 rfl (lv_at hl 0 rfl) ?_
  refine xk_iconst hx hb dX5_throwOne_6 ?_
  obtain ⟨c2a, c2b, c2t, c2f⟩ := x_eqE hf
  refine xk_icmp_ne (tgt := 27) hx hb c2a c2b dX5_throwOne_7 (by decide) (fun c2 => ?_) (fun c2 => ?_)
  · have hf := c2t c2
    refine lv_aload_n hx hb dX5_throwOne_10 rfl (lv_at hl 1 rfl) ?_
    refine xk_iconst hx hb dX5_throwOne_11 ?_
    obtain ⟨v3, ev3, hf⟩ := x_bind hf
    refine xc_ri (As := [.int (iI (-1))]) (rest := []) ⟨hx, hb, hml, hown, hts⟩ (c5_leastInBoat l dC dI cs a x (-1)  _ ev3) (cwV 1 hts gX5_throwOne_X5_leastInBoat rfl rfl rfl cdX5_leastInBoat ⟨Nat.le_of_ble_eq_true rfl, Nat.le_of_ble_eq_true rfl⟩) hK hP [0, 1, 2, 3, 4, 5, 6, 7] rfl 0 rfl rfl rfl hl.1 rfl (Nat.le_of_ble_eq_true rfl) dX5_throwOne_12 ⟨Nat.zero_le _, Nat.zero_le _⟩ ?_
    refine lv_istore_n (lv' := [(1, .int (iI v3)), (0, .ref (a 0))]) hx hb dX5_throwOne_15 rfl hl (by decide) rfl (fun ls hl => ?_)
    refine lv_aload_n hx hb dX5_throwOne_16 rfl (lv_at hl 1 rfl) ?_
    refine va_get (D := (dC, dI)) (ci := 5) (v := .ref (a 1)) (C := RX5) (T := TX5) (N := 13) hx hb hts hin5 hown hK hP 0 rfl rfl 1 (by decide) (hts (.fieldLink RX5 13 "BoatRunsModel" "now" "[I") (by decide +kernel)) (fun _ h9 => h9) rfl dX5_throwOne_17 ?_
    refine xk_bipush hx hb dX5_throwOne_20 (by decide) ?_
    refine lv_aload_n hx hb dX5_throwOne_22 rfl (lv_at hl 1 rfl) ?_
    obtain ⟨⟨v5, x4⟩, ex4, hf⟩ := x_bind hf
    refine xc_wi (As := []) (rest := [.int (iI 6), .ref (a 1)]) ⟨hx, hb, hml, hown, hts⟩ (c5_newRun l dC dI cs a _ x  _ ex4) (cwV 0 hts gX5_throwOne_X5_newRun rfl rfl rfl cdX5_newRun ⟨Nat.le_of_ble_eq_true rfl, Nat.le_of_ble_eq_true rfl⟩) hK hP (x_addr hD rfl) hS hA [0, 1, 2, 3, 4, 5, 6, 7] rfl (by decide) rfl 0 rfl rfl rfl hl.1 rfl (Nat.le_of_ble_eq_true rfl) dX5_throwOne_23 ⟨Nat.zero_le _, Nat.zero_le _⟩ (fun H locs hP hS => ?_)
    have hP : va_P (dC, dI) vwCl (w5 cs a x4) H := hP
    obtain ⟨g7, eg7, hf⟩ := x_bind hf
    refine xk_iast (f := g5_now x4) hx hb hK hP (x_addr hD rfl) hS 1 0 eg7 (by decide) rfl rfl dX5_throwOne_26 (fun H locs hP hS => ?_)
    have hP : va_P (dC, dI) vwCl (w5C cs a (g5_thr x4) (g5_acts x4) (g5_typ x4) (g5_lat x4) (g5_pos x4) (g5_wra x4) g7 (g5_put x4) (g5_was x4) (g5_txt x4) (g5_lef x4) (g5_abo x4) (g5_ors x4)) H := hP
    refine lv_aload_n hx hb dX5_throwOne_27 rfl (lv_at hl 1 rfl) ?_
    refine lv_iload_n hx hb dX5_throwOne_28 rfl (lv_at hl 0 rfl) ?_
    refine xk_iconst hx hb dX5_throwOne_29 ?_
    refine xk_iconst hx hb dX5_throwOne_30 ?_
    obtain ⟨x8, ex8, hf⟩ := x_bind hf
    refine xc_wv (As := [.int (iI v3), .int (iI 2), .int (iI 1)]) (rest := []) ⟨hx, hb, hml, hown, hts⟩ (c5_be l dC dI cs a _ (s5_now x4 g7) v3 2 1  _ ex8) (cwV 3 hts gX5_throwOne_X5_be rfl rfl rfl cdX5_be ⟨Nat.le_of_ble_eq_true rfl, Nat.le_of_ble_eq_true rfl⟩) hK hP (x_addr hD rfl) hS hA [0, 1, 2, 3, 4, 5, 6, 7] rfl (by decide) rfl 0 rfl rfl rfl hl.1 rfl (Nat.le_of_ble_eq_true rfl) dX5_throwOne_31 ⟨Nat.zero_le _, Nat.zero_le _⟩ (fun H locs hP hS => ?_)
    have hP : va_P (dC, dI) vwCl (w5 cs a x8) H := hP
    refine lv_aload_n hx hb dX5_throwOne_34 rfl (lv_at hl 1 rfl) ?_
    refine lv_iload_n hx hb dX5_throwOne_35 rfl (lv_at hl 0 rfl) ?_
    refine xk_iconst hx hb dX5_throwOne_36 ?_
    refine lv_aload_n hx hb dX5_throwOne_37 rfl (lv_at hl 1 rfl) ?_
    refine va_get (D := (dC, dI)) (ci := 5) (v := .ref (a 1)) (C := RX5) (T := TX5) (N := 13) hx hb hts hin5 hown hK hP 0 rfl rfl 1 (by decide) (hts (.fieldLink RX5 13 "BoatRunsModel" "now" "[I") (by decide +kernel)) (fun _ h9 => h9) rfl dX5_throwOne_38 ?_
    refine xk_bipush hx hb dX5_throwOne_41 (by decide) ?_
    obtain ⟨v9, ev9, hf⟩ := x_bind hf
    refine xk_iald (f := g5_now x8) hx hb hK hP 1 0 ev9 (by decide) rfl rfl dX5_throwOne_43 ?_
    obtain ⟨x10, ex10, hf⟩ := x_bind hf
    refine xc_wv (As := [.int (iI v3), .int (iI 3), .int (iI v9)]) (rest := []) ⟨hx, hb, hml, hown, hts⟩ (c5_be l dC dI cs a _ x8 v3 3 v9  _ ex10) (cwV 3 hts gX5_throwOne_X5_be rfl rfl rfl cdX5_be ⟨Nat.le_of_ble_eq_true rfl, Nat.le_of_ble_eq_true rfl⟩) hK hP (x_addr hD rfl) hS hA [0, 1, 2, 3, 4, 5, 6, 7] rfl (by decide) rfl 0 rfl rfl rfl hl.1 rfl (Nat.le_of_ble_eq_true rfl) dX5_throwOne_44 ⟨Nat.zero_le _, Nat.zero_le _⟩ (fun H locs hP hS => ?_)
    have hP : va_P (dC, dI) vwCl (w5 cs a x10) H := hP
    refine lv_aload_n hx hb dX5_throwOne_47 rfl (lv_at hl 1 rfl) ?_
    refine va_get (D := (dC, dI)) (ci := 5) (v := .ref (a 1)) (C := RX5) (T := TX5) (N := 13) hx hb hts hin5 hown hK hP 0 rfl rfl 1 (by decide) (hts (.fieldLink RX5 13 "BoatRunsModel" "now" "[I") (by decide +kernel)) (fun _ h9 => h9) rfl dX5_throwOne_48 ?_
    refine xk_bipush hx hb dX5_throwOne_51 (by decide) ?_
    obtain ⟨v11, ev11, hf⟩ := x_bind hf
    refine xk_iald (f := g5_now x10) hx hb hK hP 1 0 ev11 (by decide) rfl rfl dX5_throwOne_53 ?_
    obtain rfl := Option.some.inj hf
    exact xe_wi hx hb hr hlocks hS hP dX5_throwOne_54
  · have hf := c2f c2
    refine lv_aload_n hx hb dX5_throwOne_27 rfl (lv_at hl 1 rfl) ?_
    refine lv_iload_n hx hb dX5_throwOne_28 rfl (lv_at hl 0 rfl) ?_
    refine xk_iconst hx hb dX5_throwOne_29 ?_
    refine xk_iconst hx hb dX5_throwOne_30 ?_
    obtain ⟨x12, ex12, hf⟩ := x_bind hf
    refine xc_wv (As := [.int (iI v1), .int (iI 2), .int (iI 1)]) (rest := []) ⟨hx, hb, hml, hown, hts⟩ (c5_be l dC dI cs a _ x v1 2 1  _ ex12) (cwV 3 hts gX5_throwOne_X5_be rfl rfl rfl cdX5_be ⟨Nat.le_of_ble_eq_true rfl, Nat.le_of_ble_eq_true rfl⟩) hK hP (x_addr hD rfl) hS hA [0, 1, 2, 3, 4, 5, 6, 7] rfl (by decide) rfl 0 rfl rfl rfl hl.1 rfl (Nat.le_of_ble_eq_true rfl) dX5_throwOne_31 ⟨Nat.zero_le _, Nat.zero_le _⟩ (fun H locs hP hS => ?_)
    have hP : va_P (dC, dI) vwCl (w5 cs a x12) H := hP
    refine lv_aload_n hx hb dX5_throwOne_34 rfl (lv_at hl 1 rfl) ?_
    refine lv_iload_n hx hb dX5_throwOne_35 rfl (lv_at hl 0 rfl) ?_
    refine xk_iconst hx hb dX5_throwOne_36 ?_
    refine lv_aload_n hx hb dX5_throwOne_37 rfl (lv_at hl 1 rfl) ?_
    refine va_get (D := (dC, dI)) (ci := 5) (v := .ref (a 1)) (C := RX5) (T := TX5) (N := 13) hx hb hts hin5 hown hK hP 0 rfl rfl 1 (by decide) (hts (.fieldLink RX5 13 "BoatRunsModel" "now" "[I") (by decide +kernel)) (fun _ h9 => h9) rfl dX5_throwOne_38 ?_
    refine xk_bipush hx hb dX5_throwOne_41 (by decide) ?_
    obtain ⟨v13, ev13, hf⟩ := x_bind hf
    refine xk_iald (f := g5_now x12) hx hb hK hP 1 0 ev13 (by decide) rfl rfl dX5_throwOne_43 ?_
    obtain ⟨x14, ex14, hf⟩ := x_bind hf
    refine xc_wv (As := [.int (iI v1), .int (iI 3), .int (iI v13)]) (rest := []) ⟨hx, hb, hml, hown, hts⟩ (c5_be l dC dI cs a _ x12 v1 3 v13  _ ex14) (cwV 3 hts gX5_throwOne_X5_be rfl rfl rfl cdX5_be ⟨Nat.le_of_ble_eq_true rfl, Nat.le_of_ble_eq_true rfl⟩) hK hP (x_addr hD rfl) hS hA [0, 1, 2, 3, 4, 5, 6, 7] rfl (by decide) rfl 0 rfl rfl rfl hl.1 rfl (Nat.le_of_ble_eq_true rfl) dX5_throwOne_44 ⟨Nat.zero_le _, Nat.zero_le _⟩ (fun H locs hP hS => ?_)
    have hP : va_P (dC, dI) vwCl (w5 cs a x14) H := hP
    refine lv_aload_n hx hb dX5_throwOne_47 rfl (lv_at hl 1 rfl) ?_
    refine va_get (D := (dC, dI)) (ci := 5) (v := .ref (a 1)) (C := RX5) (T := TX5) (N := 13) hx hb hts hin5 hown hK hP 0 rfl rfl 1 (by decide) (hts (.fieldLink RX5 13 "BoatRunsModel" "now" "[I") (by decide +kernel)) (fun _ h9 => h9) rfl dX5_throwOne_48 ?_
    refine xk_bipush hx hb dX5_throwOne_51 (by decide) ?_
    obtain ⟨v15, ev15, hf⟩ := x_bind hf
    refine xk_iald (f := g5_now x14) hx hb hK hP 1 0 ev15 (by decide) rfl rfl dX5_throwOne_53 ?_
    obtain rfl := Option.some.inj hf
    exact xe_wi hx hb hr hlocks hS hP dX5_throwOne_54
theorem cdX5_throwOne : yX5_throwOne.cls = RX5 ∧ yX5_throwOne.cls ≠ "java/lang/invoke/MethodHandle" ∧ yX5_throwOne.cls ≠ "java/lang/invoke/VarHandle" ∧ (parseMethodDescriptor yX5_throwOne.desc).map (fun d => d.parameters.length) = some 0 := by decide +kernel

set_option maxHeartbeats 4000000 in
set_option maxRecDepth 100000 in
theorem c5_loadOne (l : Launch) (dC : Nat → ClassId) (dI : Nat → Nat → Nat) (cs : Nat → ClassId) (a : Nat → Nat) (sz : Nat) (x : ModS) (p0 : Int) (p1 : Int) (res : Int × ModS) (hf : f5_loadOne x p0 p1 = some res) : Met l yX5_loadOne wsX5_loadOne ({ frames := 5, cells := 0, slots := 0, locals := 109 } : Room) (va_Pc [.ref (a 0), .int (iI p0), .int (iI p1)] (xPW (dC, dI) vwCl (w5 cs a x) (xT cs) sz)) (xQi (dC, dI) vwCl (w5 cs a x) (w5 cs a res.2) sz res.1) 0 0 (va_A (w5 cs a x) sz) := by
  refine Met.ofW (cc := cX5_loadOne) (maxL := 5) (ret := (some .int)) (by decide) rfl ?_
  intro p e s m args below meth c s₁ B hml hv
  obtain ⟨rfl, hsz, hP, hK, hD0⟩ := hv
  have hx := B.exec
  have hb := B.bytes
  have hr := B.returns
  have hts := atoms_spec (ws := wsX5_loadOne) B.pre
  have hown : s.vm.findClass RX5 = some m.cls := findClass_of_methodNamed B.named
  have hlocks := B.notSynchronized
  have hin5 : ∀ w ∈ wsX50, w ∈ wsX5_loadOne := by decide +kernel
  subst hsz
  have hD := hD0.self (sz := s.heap.size)
  have hA : ∀ z9 : Nat, s.heap.size ≤ z9 → va_A (w5 cs a x) s.heap.size z9 := fun z9 h => Or.inr h
  have hS : va_S (va_A (w5 cs a x) s.heap.size) s.heap s.heap [] := va_S.rf
  have hl := lv_entry [.ref (a 0), .int (iI p0), .int (iI p1)] (n := 5) (Nat.le_of_ble_eq_true rfl)
  rw [lg_entry_eq]
  generalize (lg_sl [.ref (a 0), .int (iI p0), .int (iI p1)] ++ List.replicate (5 - (lg_sl [.ref (a 0), .int (iI p0), .int (iI p1)]).length) Slot.unset).toArray = ls at hl ⊢
  have hl : lv_has ls 5 [(0, .ref (a 0)), (1, .int (iI p0)), (2, .int (iI p1))] := hl
  unfold f5_loadOne at hf
  refine lv_aload_n hx hb dX5_loadOne_0 rfl (lv_at hl 0 rfl) ?_
  refine xk_iconst hx hb dX5_loadOne_1 ?_
  obtain ⟨v1, ev1, hf⟩ := x_bind hf
  refine xc_ri (As := [.int (iI 0)]) (rest := []) ⟨hx, hb, hml, hown, hts⟩ (c5_many l dC dI cs a x 0  _ ev1) (cwV 1 hts gX5_loadOne_X5_many rfl rfl rfl cdX5_many ⟨Nat.le_of_ble_eq_true rfl, Nat.le_of_ble_eq_true rfl⟩) hK hP [0, 1, 2, 3, 4, 5, 6, 7] rfl 0 rfl rfl rfl hl.1 rfl (Nat.le_of_ble_eq_true rfl) dX5_loadOne_2 ⟨Nat.zero_le _, Nat.zero_le _⟩ ?_
  refine lv_aload_n hx hb dX5_loadOne_5 rfl (lv_at hl 0 rfl) ?_
  refine va_get (D := (dC, dI)) (ci := 5) (v := .ref (a 1)) (C := RX5) (T := TX5) (N := 13) hx hb hts hin5 hown hK hP 0 rfl rfl 1 (by decide) (hts (.fieldLink RX5 13 "BoatRunsModel" "now" "[I") (by decide +kernel)) (fun _ h9 => h9) rfl dX5_loadOne_6 ?_
  refine xk_iconst hx hb dX5_loadOne_9 ?_
  obtain ⟨v2, ev2, hf⟩ := x_bind hf
  refine xk_iald (f := g5_now x) hx hb hK hP 1 0 ev2 (by decide) rfl rfl dX5_loadOne_10 ?_
  obtain ⟨c3a, c3b, c3t, c3f⟩ := x_eqE hf
  refine xk_icmp_ne (tgt := 21) hx hb c3a c3b dX5_loadOne_11 (by decide) (fun c3 => ?_) (fun c3 => ?_)
  · have hf := c3t c3
    refine lv_aload_n hx hb dX5_loadOne_14 rfl (lv_at hl 0 rfl) ?_
    obtain ⟨⟨v5, x4⟩, ex4, hf⟩ := x_bind hf
    refine xc_wi (As := []) (rest := []) ⟨hx, hb, hml, hown, hts⟩ (c5_throwOne l dC dI cs a _ x  _ ex4) (cwV 0 hts gX5_loadOne_X5_throwOne rfl rfl rfl cdX5_throwOne ⟨Nat.le_of_ble_eq_true rfl, Nat.le_of_ble_eq_true rfl⟩) hK hP (x_addr hD rfl) hS hA [0, 1, 2, 3, 4, 5, 6, 7] rfl (by decide) rfl 0 rfl rfl rfl hl.1 rfl (Nat.le_of_ble_eq_true rfl) dX5_loadOne_15 ⟨Nat.zero_le _, Nat.zero_le _⟩ (fun H locs hP hS => ?_)
    have hP : va_P (dC, dI) vwCl (w5 cs a x4) H := hP
    refine lv_goto (tgt := 22) hx hb dX5_loadOne_18 (by decide) ?_
    refine lv_istore_n (lv' := [(3, .int (iI v5)), (0, .ref (a 0)), (1, .int (iI p0)), (2, .int (iI p1))]) hx hb dX5_loadOne_22 rfl hl (by decide) rfl (fun ls hl => ?_)
    refine lv_aload_n hx hb dX5_loadOne_23 rfl (lv_at hl 1 rfl) ?_
    refine va_get (D := (dC, dI)) (ci := 5) (v := .ref (a 1)) (C := RX5) (T := TX5) (N := 13) hx hb hts hin5 hown hK hP 0 rfl rfl 1 (by decide) (hts (.fieldLink RX5 13 "BoatRunsModel" "now" "[I") (by decide +kernel)) (fun _ h9 => h9) rfl dX5_loadOne_24 ?_
    refine xk_iconst hx hb dX5_loadOne_27 ?_
    obtain ⟨v7, ev7, hf⟩ := x_bind hf
    refine xk_iald (f := g5_now x4) hx hb hK hP 1 0 ev7 (by decide) rfl rfl dX5_loadOne_28 ?_
    refine lv_istore (lv' := [(4, .int (iI v7)), (3, .int (iI v5)), (0, .ref (a 0)), (1, .int (iI p0)), (2, .int (iI p1))]) hx hb dX5_loadOne_29 hl (by decide) rfl (fun ls hl => ?_)
    refine lv_aload_n hx hb dX5_loadOne_31 rfl (lv_at hl 2 rfl) ?_
    refine lv_iload hx hb dX5_loadOne_32 (lv_at hl 0 rfl) ?_
    refine xk_iconst hx hb dX5_loadOne_34 ?_
    refine lv_iload_n hx hb dX5_loadOne_35 rfl (lv_at hl 3 rfl) ?_
    obtain ⟨x8, ex8, hf⟩ := x_bind hf
    refine xc_wv (As := [.int (iI v7), .int (iI 0), .int (iI p0)]) (rest := []) ⟨hx, hb, hml, hown, hts⟩ (c5_be l dC dI cs a _ x4 v7 0 p0  _ ex8) (cwV 3 hts gX5_loadOne_X5_be rfl rfl rfl cdX5_be ⟨Nat.le_of_ble_eq_true rfl, Nat.le_of_ble_eq_true rfl⟩) hK hP (x_addr hD rfl) hS hA [0, 1, 2, 3, 4, 5, 6, 7] rfl (by decide) rfl 0 rfl rfl rfl hl.1 rfl (Nat.le_of_ble_eq_true rfl) dX5_loadOne_36 ⟨Nat.zero_le _, Nat.zero_le _⟩ (fun H locs hP hS => ?_)
    have hP : va_P (dC, dI) vwCl (w5 cs a x8) H := hP
    refine lv_aload_n hx hb dX5_loadOne_39 rfl (lv_at hl 2 rfl) ?_
    refine lv_iload hx hb dX5_loadOne_40 (lv_at hl 0 rfl) ?_
    refine xk_iconst hx hb dX5_loadOne_42 ?_
    refine lv_iload_n hx hb dX5_loadOne_43 rfl (lv_at hl 4 rfl) ?_
    obtain ⟨x9, ex9, hf⟩ := x_bind hf
    refine xc_wv (As := [.int (iI v7), .int (iI 1), .int (iI p1)]) (rest := []) ⟨hx, hb, hml, hown, hts⟩ (c5_be l dC dI cs a _ x8 v7 1 p1  _ ex9) (cwV 3 hts gX5_loadOne_X5_be rfl rfl rfl cdX5_be ⟨Nat.le_of_ble_eq_true rfl, Nat.le_of_ble_eq_true rfl⟩) hK hP (x_addr hD rfl) hS hA [0, 1, 2, 3, 4, 5, 6, 7] rfl (by decide) rfl 0 rfl rfl rfl hl.1 rfl (Nat.le_of_ble_eq_true rfl) dX5_loadOne_44 ⟨Nat.zero_le _, Nat.zero_le _⟩ (fun H locs hP hS => ?_)
    have hP : va_P (dC, dI) vwCl (w5 cs a x9) H := hP
    refine lv_aload_n hx hb dX5_loadOne_47 rfl (lv_at hl 2 rfl) ?_
    refine lv_iload hx hb dX5_loadOne_48 (lv_at hl 0 rfl) ?_
    refine xk_iconst hx hb dX5_loadOne_50 ?_
    refine xk_iconst hx hb dX5_loadOne_51 ?_
    obtain ⟨x10, ex10, hf⟩ := x_bind hf
    refine xc_wv (As := [.int (iI v7), .int (iI 2), .int (iI 0)]) (rest := []) ⟨hx, hb, hml, hown, hts⟩ (c5_be l dC dI cs a _ x9 v7 2 0  _ ex10) (cwV 3 hts gX5_loadOne_X5_be rfl rfl rfl cdX5_be ⟨Nat.le_of_ble_eq_true rfl, Nat.le_of_ble_eq_true rfl⟩) hK hP (x_addr hD rfl) hS hA [0, 1, 2, 3, 4, 5, 6, 7] rfl (by decide) rfl 0 rfl rfl rfl hl.1 rfl (Nat.le_of_ble_eq_true rfl) dX5_loadOne_52 ⟨Nat.zero_le _, Nat.zero_le _⟩ (fun H locs hP hS => ?_)
    have hP : va_P (dC, dI) vwCl (w5 cs a x10) H := hP
    refine lv_aload_n hx hb dX5_loadOne_55 rfl (lv_at hl 2 rfl) ?_
    refine lv_iload hx hb dX5_loadOne_56 (lv_at hl 0 rfl) ?_
    refine xk_iconst hx hb dX5_loadOne_58 ?_
    refine xk_iconst hx hb dX5_loadOne_59 ?_
    obtain ⟨x11, ex11, hf⟩ := x_bind hf
    refine xc_wv (As := [.int (iI v7), .int (iI 3), .int (iI (-1))]) (rest := []) ⟨hx, hb, hml, hown, hts⟩ (c5_be l dC dI cs a _ x10 v7 3 (-1)  _ ex11) (cwV 3 hts gX5_loadOne_X5_be rfl rfl rfl cdX5_be ⟨Nat.le_of_ble_eq_true rfl, Nat.le_of_ble_eq_true rfl⟩) hK hP (x_addr hD rfl) hS hA [0, 1, 2, 3, 4, 5, 6, 7] rfl (by decide) rfl 0 rfl rfl rfl hl.1 rfl (Nat.le_of_ble_eq_true rfl) dX5_loadOne_60 ⟨Nat.zero_le _, Nat.zero_le _⟩ (fun H locs hP hS => ?_)
    have hP : va_P (dC, dI) vwCl (w5 cs a x11) H := hP
    refine lv_aload_n hx hb dX5_loadOne_63 rfl (lv_at hl 2 rfl) ?_
    refine va_get (D := (dC, dI)) (ci := 5) (v := .ref (a 1)) (C := RX5) (T := TX5) (N := 13) hx hb hts hin5 hown hK hP 0 rfl rfl 1 (by decide) (hts (.fieldLink RX5 13 "BoatRunsModel" "now" "[I") (by decide +kernel)) (fun _ h9 => h9) rfl dX5_loadOne_64 ?_
    refine xk_iconst hx hb dX5_loadOne_67 ?_
    refine lv_dup2_11 hx hb dX5_loadOne_68 rfl rfl ?_
    obtain ⟨v12, ev12, hf⟩ := x_bind hf
    refine xk_iald (f := g5_now x11) hx hb hK hP 1 0 ev12 (by decide) rfl rfl dX5_loadOne_69 ?_
    refine xk_iconst hx hb dX5_loadOne_70 ?_
    refine xk_iadd hx hb dX5_loadOne_71 ?_
    obtain ⟨g13, eg13, hf⟩ := x_bind hf
    refine xk_iast (f := g5_now x11) hx hb hK hP (x_addr hD rfl) hS 1 0 eg13 (by decide) rfl rfl dX5_loadOne_72 (fun H locs hP hS => ?_)
    have hP : va_P (dC, dI) vwCl (w5C cs a (g5_thr x11) (g5_acts x11) (g5_typ x11) (g5_lat x11) (g5_pos x11) (g5_wra x11) g13 (g5_put x11) (g5_was x11) (g5_txt x11) (g5_lef x11) (g5_abo x11) (g5_ors x11)) H := hP
    refine lv_iload_n hx hb dX5_loadOne_73 rfl (lv_at hl 1 rfl) ?_
    obtain rfl := Option.some.inj hf
    exact xe_wi hx hb hr hlocks hS hP dX5_loadOne_74
  · have hf := c3f c3
    refine xk_iconst hx hb dX5_loadOne_21 ?_
    refine lv_istore_n (lv' := [(3, .int (iI (-1))), (0, .ref (a 0)), (1, .int (iI p0)), (2, .int (iI p1))]) hx hb dX5_loadOne_22 rfl hl (by decide) rfl (fun ls hl => ?_)
    refine lv_aload_n hx hb dX5_loadOne_23 rfl (lv_at hl 1 rfl) ?_
    refine va_get (D := (dC, dI)) (ci := 5) (v := .ref (a 1)) (C := RX5) (T := TX5) (N := 13) hx hb hts hin5 hown hK hP 0 rfl rfl 1 (by decide) (hts (.fieldLink RX5 13 "BoatRunsModel" "now" "[I") (by decide +kernel)) (fun _ h9 => h9) rfl dX5_loadOne_24 ?_
    refine xk_iconst hx hb dX5_loadOne_27 ?_
    obtain ⟨v14, ev14, hf⟩ := x_bind hf
    refine xk_iald (f := g5_now x) hx hb hK hP 1 0 ev14 (by decide) rfl rfl dX5_loadOne_28 ?_
    refine lv_istore (lv' := [(4, .int (iI v14)), (3, .int (iI (-1))), (0, .ref (a 0)), (1, .int (iI p0)), (2, .int (iI p1))]) hx hb dX5_loadOne_29 hl (by decide) rfl (fun ls hl => ?_)
    refine lv_aload_n hx hb dX5_loadOne_31 rfl (lv_at hl 2 rfl) ?_
    refine lv_iload hx hb dX5_loadOne_32 (lv_at hl 0 rfl) ?_
    refine xk_iconst hx hb dX5_loadOne_34 ?_
    refine lv_iload_n hx hb dX5_loadOne_35 rfl (lv_at hl 3 rfl) ?_
    obtain ⟨x15, ex15, hf⟩ := x_bind hf
    refine xc_wv (As := [.int (iI v14), .int (iI 0), .int (iI p0)]) (rest := []) ⟨hx, hb, hml, hown, hts⟩ (c5_be l dC dI cs a _ x v14 0 p0  _ ex15) (cwV 3 hts gX5_loadOne_X5_be rfl rfl rfl cdX5_be ⟨Nat.le_of_ble_eq_true rfl, Nat.le_of_ble_eq_true rfl⟩) hK hP (x_addr hD rfl) hS hA [0, 1, 2, 3, 4, 5, 6, 7] rfl (by decide) rfl 0 rfl rfl rfl hl.1 rfl (Nat.le_of_ble_eq_true rfl) dX5_loadOne_36 ⟨Nat.zero_le _, Nat.zero_le _⟩ (fun H locs hP hS => ?_)
    have hP : va_P (dC, dI) vwCl (w5 cs a x15) H := hP
    refine lv_aload_n hx hb dX5_loadOne_39 rfl (lv_at hl 2 rfl) ?_
    refine lv_iload hx hb dX5_loadOne_40 (lv_at hl 0 rfl) ?_
    refine xk_iconst hx hb dX5_loadOne_42 ?_
    refine lv_iload_n hx hb dX5_loadOne_43 rfl (lv_at hl 4 rfl) ?_
    obtain ⟨x16, ex16, hf⟩ := x_bind hf
    refine xc_wv (As := [.int (iI v14), .int (iI 1), .int (iI p1)]) (rest := []) ⟨hx, hb, hml, hown, hts⟩ (c5_be l dC dI cs a _ x15 v14 1 p1  _ ex16) (cwV 3 hts gX5_loadOne_X5_be rfl rfl rfl cdX5_be ⟨Nat.le_of_ble_eq_true rfl, Nat.le_of_ble_eq_true rfl⟩) hK hP (x_addr hD rfl) hS hA [0, 1, 2, 3, 4, 5, 6, 7] rfl (by decide) rfl 0 rfl rfl rfl hl.1 rfl (Nat.le_of_ble_eq_true rfl) dX5_loadOne_44 ⟨Nat.zero_le _, Nat.zero_le _⟩ (fun H locs hP hS => ?_)
    have hP : va_P (dC, dI) vwCl (w5 cs a x16) H := hP
    refine lv_aload_n hx hb dX5_loadOne_47 rfl (lv_at hl 2 rfl) ?_
    refine lv_iload hx hb dX5_loadOne_48 (lv_at hl 0 rfl) ?_
    refine xk_iconst hx hb dX5_loadOne_50 ?_
    refine xk_iconst hx hb dX5_loadOne_51 ?_
    obtain ⟨x17, ex17, hf⟩ := x_bind hf
    refine xc_wv (As := [.int (iI v14), .int (iI 2), .int (iI 0)]) (rest := []) ⟨hx, hb, hml, hown, hts⟩ (c5_be l dC dI cs a _ x16 v14 2 0  _ ex17) (cwV 3 hts gX5_loadOne_X5_be rfl rfl rfl cdX5_be ⟨Nat.le_of_ble_eq_true rfl, Nat.le_of_ble_eq_true rfl⟩) hK hP (x_addr hD rfl) hS hA [0, 1, 2, 3, 4, 5, 6, 7] rfl (by decide) rfl 0 rfl rfl rfl hl.1 rfl (Nat.le_of_ble_eq_true rfl) dX5_loadOne_52 ⟨Nat.zero_le _, Nat.zero_le _⟩ (fun H locs hP hS => ?_)
    have hP : va_P (dC, dI) vwCl (w5 cs a x17) H := hP
    refine lv_aload_n hx hb dX5_loadOne_55 rfl (lv_at hl 2 rfl) ?_
    refine lv_iload hx hb dX5_loadOne_56 (lv_at hl 0 rfl) ?_
    refine xk_iconst hx hb dX5_loadOne_58 ?_
    refine xk_iconst hx hb dX5_loadOne_59 ?_
    obtain ⟨x18, ex18, hf⟩ := x_bind hf
    refine xc_wv (As := [.int (iI v14), .int (iI 3), .int (iI (-1))]) (rest := []) ⟨hx, hb, hml, hown, hts⟩ (c5_be l dC dI cs a _ x17 v14 3 (-1)  _ ex18) (cwV 3 hts gX5_loadOne_X5_be rfl rfl rfl cdX5_be ⟨Nat.le_of_ble_eq_true rfl, Nat.le_of_ble_eq_true rfl⟩) hK hP (x_addr hD rfl) hS hA [0, 1, 2, 3, 4, 5, 6, 7] rfl (by decide) rfl 0 rfl rfl rfl hl.1 rfl (Nat.le_of_ble_eq_true rfl) dX5_loadOne_60 ⟨Nat.zero_le _, Nat.zero_le _⟩ (fun H locs hP hS => ?_)
    have hP : va_P (dC, dI) vwCl (w5 cs a x18) H := hP
    refine lv_aload_n hx hb dX5_loadOne_63 rfl (lv_at hl 2 rfl) ?_
    refine va_get (D := (dC, dI)) (ci := 5) (v := .ref (a 1)) (C := RX5) (T := TX5) (N := 13) hx hb hts hin5 hown hK hP 0 rfl rfl 1 (by decide) (hts (.fieldLink RX5 13 "BoatRunsModel" "now" "[I") (by decide +kernel)) (fun _ h9 => h9) rfl dX5_loadOne_64 ?_
    refine xk_iconst hx hb dX5_loadOne_67 ?_
    refine lv_dup2_11 hx hb dX5_loadOne_68 rfl rfl ?_
    obtain ⟨v19, ev19, hf⟩ := x_bind hf
    refine xk_iald (f := g5_now x18) hx hb hK hP 1 0 ev19 (by decide) rfl rfl dX5_loadOne_69 ?_
    refine xk_iconst hx hb dX5_loadOne_70 ?_
    refine xk_iadd hx hb dX5_loadOne_71 ?_
    obtain ⟨g20, eg20, hf⟩ := x_bind hf
    refine xk_iast (f := g5_now x18) hx hb hK hP (x_addr hD rfl) hS 1 0 eg20 (by decide) rfl rfl dX5_loadOne_72 (fun H locs hP hS => ?_)
    have hP : va_P (dC, dI) vwCl (w5C cs a (g5_thr x18) (g5_acts x18) (g5_typ x18) (g5_lat x18) (g5_pos x18) (g5_wra x18) g20 (g5_put x18) (g5_was x18) (g5_txt x18) (g5_lef x18) (g5_abo x18) (g5_ors x18)) H := hP
    refine lv_iload_n hx hb dX5_loadOne_73 rfl (lv_at hl 1 rfl) ?_
    obtain rfl := Option.some.inj hf
    exact xe_wi hx hb hr hlocks hS hP dX5_loadOne_74
theorem cdX5_loadOne : yX5_loadOne.cls = RX5 ∧ yX5_loadOne.cls ≠ "java/lang/invoke/MethodHandle" ∧ yX5_loadOne.cls ≠ "java/lang/invoke/VarHandle" ∧ (parseMethodDescriptor yX5_loadOne.desc).map (fun d => d.parameters.length) = some 2 := by decide +kernel

set_option maxHeartbeats 4000000 in
set_option maxRecDepth 100000 in
theorem c5_whyNoMerge (l : Launch) (dC : Nat → ClassId) (dI : Nat → Nat → Nat) (cs : Nat → ClassId) (a : Nat → Nat) (x : ModS) (p0 : Int) (p1 : Int) (res : Int) (hf : f5_whyNoMerge x p0 p1 = some res) : Met l yX5_whyNoMerge wsX5_whyNoMerge ({ frames := 2, cells := 0, slots := 0, locals := 43 } : Room) (va_Pc [.ref (a 0), .int (iI p0), .int (iI p1)] (xPR (dC, dI) vwCl (w5 cs a x) (xT cs))) (vp_Si (fun r => r = iI res)) 0 0 (fun _ => False) := by
  refine Met.ofW (cc := cX5_whyNoMerge) (maxL := 3) (ret := (some .int)) (by decide) rfl ?_
  intro p e s m args below meth c s₁ B hml hv
  obtain ⟨rfl, hP, hK⟩ := hv
  have hx := B.exec
  have hb := B.bytes
  have hr := B.returns
  have hts := atoms_spec (ws := wsX5_whyNoMerge) B.pre
  have hown : s.vm.findClass RX5 = some m.cls := findClass_of_methodNamed B.named
  have hlocks := B.notSynchronized
  have hl := lv_entry [.ref (a 0), .int (iI p0), .int (iI p1)] (n := 3) (Nat.le_of_ble_eq_true rfl)
  rw [lg_entry_eq]
  generalize (lg_sl [.ref (a 0), .int (iI p0), .int (iI p1)] ++ List.replicate (3 - (lg_sl [.ref (a 0), .int (iI p0), .int (iI p1)]).length) Slot.unset).toArray = ls at hl ⊢
  have hl : lv_has ls 3 [(0, .ref (a 0)), (1, .int (iI p0)), (2, .int (iI p1))] := hl
  unfold f5_whyNoMerge at hf
  refine lv_aload_n hx hb dX5_whyNoMerge_0 rfl (lv_at hl 0 rfl) ?_
  refine lv_iload_n hx hb dX5_whyNoMerge_1 rfl (lv_at hl 1 rfl) ?_
  obtain ⟨v1, ev1, hf⟩ := x_bind hf
  refine xc_ri (As := [.int (iI p0)]) (rest := []) ⟨hx, hb, hml, hown, hts⟩ (c5_placeOf l dC dI cs a x p0  _ ev1) (cwV 1 hts gX5_whyNoMerge_X5_placeOf rfl rfl rfl cdX5_placeOf ⟨Nat.le_of_ble_eq_true rfl, Nat.le_of_ble_eq_true rfl⟩) hK hP [0, 1, 2, 3, 4, 5, 6, 7] rfl 0 rfl rfl rfl hl.1 rfl (Nat.le_of_ble_eq_true rfl) dX5_whyNoMerge_2 ⟨Nat.zero_le _, Nat.zero_le _⟩ ?_
  refine xk_iconst hx hb dX5_whyNoMerge_5 ?_
  obtain ⟨c2a, c2b, c2t, c2f⟩ := x_eqE hf
  refine xk_icmp_eq (tgt := 18) hx hb c2a c2b dX5_whyNoMerge_6 (by decide) (fun c2 => ?_) (fun c2 => ?_)
  · have hf := c2t c2
    refine xk_iconst hx hb dX5_whyNoMerge_18 ?_
    refine lv_goto (tgt := 32) hx hb dX5_whyNoMerge_19 (by decide) ?_
    obtain rfl := Option.some.inj hf
    exact xe_ri hx hb hr hlocks dX5_whyNoMerge_32 rfl
  · have hf := c2f c2
    refine lv_aload_n hx hb dX5_whyNoMerge_9 rfl (lv_at hl 0 rfl) ?_
    refine lv_iload_n hx hb dX5_whyNoMerge_10 rfl (lv_at hl 2 rfl) ?_
    obtain ⟨v3, ev3, hf⟩ := x_bind hf
    refine xc_ri (As := [.int (iI p1)]) (rest := []) ⟨hx, hb, hml, hown, hts⟩ (c5_placeOf l dC dI cs a x p1  _ ev3) (cwV 1 hts gX5_whyNoMerge_X5_placeOf rfl rfl rfl cdX5_placeOf ⟨Nat.le_of_ble_eq_true rfl, Nat.le_of_ble_eq_true rfl⟩) hK hP [0, 1, 2, 3, 4, 5, 6, 7] rfl 0 rfl rfl rfl hl.1 rfl (Nat.le_of_ble_eq_true rfl) dX5_whyNoMerge_11 ⟨Nat.zero_le _, Nat.zero_le _⟩ ?_
    refine xk_iconst hx hb dX5_whyNoMerge_14 ?_
    obtain ⟨c4a, c4b, c4t, c4f⟩ := x_eqE hf
    refine xk_icmp_ne (tgt := 22) hx hb c4a c4b dX5_whyNoMerge_15 (by decide) (fun c4 => ?_) (fun c4 => ?_)
    · have hf := c4t c4
      refine xk_iconst hx hb dX5_whyNoMerge_18 ?_
      refine lv_goto (tgt := 32) hx hb dX5_whyNoMerge_19 (by decide) ?_
      obtain rfl := Option.some.inj hf
      exact xe_ri hx hb hr hlocks dX5_whyNoMerge_32 rfl
    · have hf := c4f c4
      refine lv_iload_n hx hb dX5_whyNoMerge_22 rfl (lv_at hl 1 rfl) ?_
      refine lv_iload_n hx hb dX5_whyNoMerge_23 rfl (lv_at hl 2 rfl) ?_
      obtain ⟨c5a, c5b, c5t, c5f⟩ := x_eqE hf
      refine xk_icmp_ne (tgt := 31) hx hb c5a c5b dX5_whyNoMerge_24 (by decide) (fun c5 => ?_) (fun c5 => ?_)
      · have hf := c5t c5
        refine xk_iconst hx hb dX5_whyNoMerge_27 ?_
        refine lv_goto (tgt := 32) hx hb dX5_whyNoMerge_28 (by decide) ?_
        obtain rfl := Option.some.inj hf
        exact xe_ri hx hb hr hlocks dX5_whyNoMerge_32 rfl
      · have hf := c5f c5
        refine xk_iconst hx hb dX5_whyNoMerge_31 ?_
        obtain rfl := Option.some.inj hf
        exact xe_ri hx hb hr hlocks dX5_whyNoMerge_32 rfl
theorem cdX5_whyNoMerge : yX5_whyNoMerge.cls = RX5 ∧ yX5_whyNoMerge.cls ≠ "java/lang/invoke/MethodHandle" ∧ yX5_whyNoMerge.cls ≠ "java/lang/invoke/VarHandle" ∧ (parseMethodDescriptor yX5_whyNoMerge.desc).map (fun d => d.parameters.length) = some 2 := by decide +kernel

set_option maxHeartbeats 4000000 in
set_option maxRecDepth 100000 in
theorem c5_merge (l : Launch) (dC : Nat → ClassId) (dI : Nat → Nat → Nat) (cs : Nat → ClassId) (a : Nat → Nat) (sz : Nat) (x : ModS) (p0 : Int) (p1 : Int) (res : Int × ModS) (hf : f5_merge x p0 p1 = some res) : Met l yX5_merge wsX5_merge ({ frames := 4, cells := 0, slots := 0, locals := 92 } : Room) (va_Pc [.ref (a 0), .int (iI p0), .int (iI p1)] (xPW (dC, dI) vwCl (w5 cs a x) (xT cs) sz)) (xQi (dC, dI) vwCl (w5 cs a x) (w5 cs a res.2) sz res.1) 0 0 (va_A (w5 cs a x) sz) := by
  refine Met.ofW (cc := cX5_merge) (maxL := 3) (ret := (some .int)) (by decide) rfl ?_
  intro p e s m args below meth c s₁ B hml hv
  obtain ⟨rfl, hsz, hP, hK, hD0⟩ := hv
  have hx := B.exec
  have hb := B.bytes
  have hr := B.returns
  have hts := atoms_spec (ws := wsX5_merge) B.pre
  have hown : s.vm.findClass RX5 = some m.cls := findClass_of_methodNamed B.named
  have hlocks := B.notSynchronized
  have hin5 : ∀ w ∈ wsX50, w ∈ wsX5_merge := by decide +kernel
  subst hsz
  have hD := hD0.self (sz := s.heap.size)
  have hA : ∀ z9 : Nat, s.heap.size ≤ z9 → va_A (w5 cs a x) s.heap.size z9 := fun z9 h => Or.inr h
  have hS : va_S (va_A (w5 cs a x) s.heap.size) s.heap s.heap [] := va_S.rf
  have hl := lv_entry [.ref (a 0), .int (iI p0), .int (iI p1)] (n := 3) (Nat.le_of_ble_eq_true rfl)
  rw [lg_entry_eq]
  generalize (lg_sl [.ref (a 0), .int (iI p0), .int (iI p1)] ++ List.replicate (3 - (lg_sl [.ref (a 0), .int (iI p0), .int (iI p1)]).length) Slot.unset).toArray = ls at hl ⊢
  have hl : lv_has ls 3 [(0, .ref (a 0)), (1, .int (iI p0)), (2, .int (iI p1))] := hl
  unfold f5_merge at hf
  refine lv_aload_n hx hb dX5_merge_0 rfl (lv_at hl 0 rfl) ?_
  refine lv_aload_n hx hb dX5_merge_1 rfl (lv_at hl 0 rfl) ?_
  refine lv_iload_n hx hb dX5_merge_2 rfl (lv_at hl 1 rfl) ?_
  refine lv_iload_n hx hb dX5_merge_3 rfl (lv_at hl 2 rfl) ?_
  obtain ⟨v1, ev1, hf⟩ := x_bind hf
  refine xc_ri (As := [.int (iI p0), .int (iI p1)]) (rest := [.ref (a 0)]) ⟨hx, hb, hml, hown, hts⟩ (c5_whyNoMerge l dC dI cs a x p0 p1  _ ev1) (cwV 2 hts gX5_merge_X5_whyNoMerge rfl rfl rfl cdX5_whyNoMerge ⟨Nat.le_of_ble_eq_true rfl, Nat.le_of_ble_eq_true rfl⟩) hK hP [0, 1, 2, 3, 4, 5, 6, 7] rfl 0 rfl rfl rfl hl.1 rfl (Nat.le_of_ble_eq_true rfl) dX5_merge_4 ⟨Nat.zero_le _, Nat.zero_le _⟩ ?_
  refine va_put (D := (dC, dI)) (ci := 5) (v := .int (iI v1)) (ty := .int) (C := RX5) (T := TX5) (N := 13) hx hb hts hin5 tyX5 tyX5_ok nmX5 hown hK hP (x_addr hD rfl) hS 0 rfl rfl 0 (by decide) (hts (.fieldLink RX5 1 "BoatRunsModel" "thrown" "I") (by decide +kernel)) (fun _ h9 => h9) rfl (by decide +kernel) rfl rfl (Nat.le_of_ble_eq_true rfl) dX5_merge_7 (fun H locs hP _ hS => ?_)
  have hP : va_P (dC, dI) vwCl (w5C cs a v1 (g5_acts x) (g5_typ x) (g5_lat x) (g5_pos x) (g5_wra x) (g5_now x) (g5_put x) (g5_was x) (g5_txt x) (g5_lef x) (g5_abo x) (g5_ors x)) H := hP
  refine lv_aload_n hx hb dX5_merge_10 rfl (lv_at hl 0 rfl) ?_
  refine va_get (D := (dC, dI)) (ci := 5) (v := .int (iI v1)) (C := RX5) (T := TX5) (N := 13) hx hb hts hin5 hown hK hP 0 rfl rfl 0 (by decide) (hts (.fieldLink RX5 1 "BoatRunsModel" "thrown" "I") (by decide +kernel)) (fun _ h9 => h9) rfl dX5_merge_11 ?_
  obtain ⟨c2a, c2b, c2t, c2f⟩ := x_ltE hf
  refine xk_if_le (tgt := 19) hx hb c2b dX5_merge_14 (by decide) (fun c2 => ?_) (fun c2 => ?_)
  · have hf := c2t c2
    refine xk_iconst hx hb dX5_merge_17 ?_
    obtain rfl := Option.some.inj hf
    exact xe_wi hx hb hr hlocks hS hP dX5_merge_18
  · have hf := c2f c2
    refine lv_aload_n hx hb dX5_merge_19 rfl (lv_at hl 0 rfl) ?_
    obtain ⟨x3, ex3, hf⟩ := x_bind hf
    refine xc_wv (As := []) (rest := []) ⟨hx, hb, hml, hown, hts⟩ (c5_save l dC dI cs a _ (s5_thr x v1)  _ ex3) (cwV 0 hts gX5_merge_X5_save rfl rfl rfl cdX5_save ⟨Nat.le_of_ble_eq_true rfl, Nat.le_of_ble_eq_true rfl⟩) hK hP (x_addr hD rfl) hS hA [0, 1, 2, 3, 4, 5, 6, 7] rfl (by decide) rfl 0 rfl rfl rfl hl.1 rfl (Nat.le_of_ble_eq_true rfl) dX5_merge_20 ⟨Nat.zero_le _, Nat.zero_le _⟩ (fun H locs hP hS => ?_)
    have hP : va_P (dC, dI) vwCl (w5 cs a x3) H := hP
    refine lv_aload_n hx hb dX5_merge_23 rfl (lv_at hl 0 rfl) ?_
    refine lv_iload_n hx hb dX5_merge_24 rfl (lv_at hl 1 rfl) ?_
    refine lv_iload_n hx hb dX5_merge_25 rfl (lv_at hl 2 rfl) ?_
    obtain ⟨⟨v5, x4⟩, ex4, hf⟩ := x_bind hf
    refine xc_wi (As := [.int (iI p0), .int (iI p1)]) (rest := []) ⟨hx, hb, hml, hown, hts⟩ (c5_mergeBoth l dC dI cs a _ x3 p0 p1  _ ex4) (cwV 2 hts gX5_merge_X5_mergeBoth rfl rfl rfl cdX5_mergeBoth ⟨Nat.le_of_ble_eq_true rfl, Nat.le_of_ble_eq_true rfl⟩) hK hP (x_addr hD rfl) hS hA [0, 1, 2, 3, 4, 5, 6, 7] rfl (by decide) rfl 0 rfl rfl rfl hl.1 rfl (Nat.le_of_ble_eq_true rfl) dX5_merge_26 ⟨Nat.zero_le _, Nat.zero_le _⟩ (fun H locs hP hS => ?_)
    have hP : va_P (dC, dI) vwCl (w5 cs a x4) H := hP
    obtain rfl := Option.some.inj hf
    exact xe_wi hx hb hr hlocks hS hP dX5_merge_29
theorem cdX5_merge : yX5_merge.cls = RX5 ∧ yX5_merge.cls ≠ "java/lang/invoke/MethodHandle" ∧ yX5_merge.cls ≠ "java/lang/invoke/VarHandle" ∧ (parseMethodDescriptor yX5_merge.desc).map (fun d => d.parameters.length) = some 2 := by decide +kernel

set_option maxHeartbeats 4000000 in
set_option maxRecDepth 100000 in
theorem c5_lightest (l : Launch) (dC : Nat → ClassId) (dI : Nat → Nat → Nat) (cs : Nat → ClassId) (a : Nat → Nat) (x : ModS) (p0 : Int) (res : Int) (hf : f5_lightest x p0 = some res) : Met l yX5_lightest wsX5_lightest ({ frames := 3, cells := 0, slots := 0, locals := 67 } : Room) (va_Pc [.ref (a 0), .int (iI p0)] (xPR (dC, dI) vwCl (w5 cs a x) (xT cs))) (vp_Si (fun r => r = iI res)) 0 0 (fun _ => False) := by
  refine Met.ofW (cc := cX5_lightest) (maxL := 5) (ret := (some .int)) (by decide) rfl ?_
  intro p e s m args below meth c s₁ B hml hv
  obtain ⟨rfl, hP, hK⟩ := hv
  have hx := B.exec
  have hb := B.bytes
  have hr := B.returns
  have hts := atoms_spec (ws := wsX5_lightest) B.pre
  have hown : s.vm.findClass RX5 = some m.cls := findClass_of_methodNamed B.named
  have hlocks := B.notSynchronized
  have hin5 : ∀ w ∈ wsX50, w ∈ wsX5_lightest := by decide +kernel
  have hl := lv_entry [.ref (a 0), .int (iI p0)] (n := 5) (Nat.le_of_ble_eq_true rfl)
  rw [lg_entry_eq]
  generalize (lg_sl [.ref (a 0), .int (iI p0)] ++ List.replicate (5 - (lg_sl [.ref (a 0), .int (iI p0)]).length) Slot.unset).toArray = ls at hl ⊢
  have hl : lv_has ls 5 [(0, .ref (a 0)), (1, .int (iI p0))] := hl
  unfold f5_lightest at hf
  refine xk_iconst hx hb dX5_lightest_0 ?_
  refine lv_istore_n (lv' := [(2, .int (iI (-1))), (0, .ref (a 0)), (1, .int (iI p0))]) hx hb dX5_lightest_1 rfl hl (by decide) rfl (fun ls hl => ?_)
  refine xk_iconst hx hb dX5_lightest_2 ?_
  refine lv_istore_n (lv' := [(3, .int (iI 0)), (2, .int (iI (-1))), (0, .ref (a 0)), (1, .int (iI p0))]) hx hb dX5_lightest_3 rfl hl (by decide) rfl (fun ls hl => ?_)
  have hL4 : ∀ (n1 : Nat) (l2 : Int) (l3 : Int), f5_lightest_L4 x p0 n1 l2 l3 = some res → ∀ (ls : Array Slot), lv_has ls 5 [(0, .ref (a 0)), (1, .int (iI p0)), (2, .int (iI l2)), (3, .int (iI l3))] → W p l e (headSpec wsX5_lightest ({ frames := 3, cells := 0, slots := 0, locals := 67 } : Room)).room s m ([.ref (a 0), .int (iI p0)] : List Value).toArray below meth c s.heap [] 0 0 (MQ below (vp_Si (fun r => r = iI res)) ([.ref (a 0), .int (iI p0)] : List Value).toArray s 0 0 (fun _ => False)) (F0 m 4 ls []) := by
    intro  n1
    induction n1 with
    | zero => intro l2 l3 hf; have hf : (none : Option (Int)) = some res := hf; cases hf
    | succ n1 ih4 =>
      intro l2 l3 hf ls hl
      rw [f5_lightest_L4] at hf
      refine lv_iload_n hx hb dX5_lightest_4 rfl (lv_at hl 3 rfl) ?_
      refine lv_aload_n hx hb dX5_lightest_5 rfl (lv_at hl 0 rfl) ?_
      refine va_get (D := (dC, dI)) (ci := 5) (v := .ref (a 1)) (C := RX5) (T := TX5) (N := 13) hx hb hts hin5 hown hK hP 0 rfl rfl 1 (by decide) (hts (.fieldLink RX5 13 "BoatRunsModel" "now" "[I") (by decide +kernel)) (fun _ h9 => h9) rfl dX5_lightest_6 ?_
      refine xk_bipush hx hb dX5_lightest_9 (by decide) ?_
      obtain ⟨v2, ev2, hf⟩ := x_bind hf
      refine xk_iald (f := g5_now x) hx hb hK hP 1 0 ev2 (by decide) rfl rfl dX5_lightest_11 ?_
      obtain ⟨c3a, c3b, c3t, c3f⟩ := x_ltE hf
      refine xk_icmp_ge (tgt := 74) hx hb c3a c3b dX5_lightest_12 (by decide) (fun c3 => ?_) (fun c3 => ?_)
      · have hf := c3t c3
        refine lv_aload_n hx hb dX5_lightest_15 rfl (lv_at hl 0 rfl) ?_
        refine lv_iload_n hx hb dX5_lightest_16 rfl (lv_at hl 3 rfl) ?_
        obtain ⟨v4, ev4, hf⟩ := x_bind hf
        refine xc_ri (As := [.int (iI l3)]) (rest := []) ⟨hx, hb, hml, hown, hts⟩ (c5_numberAt l dC dI cs a x l3  _ ev4) (cwV 1 hts gX5_lightest_X5_numberAt rfl rfl rfl cdX5_numberAt ⟨Nat.le_of_ble_eq_true rfl, Nat.le_of_ble_eq_true rfl⟩) hK hP [0, 1, 2, 3, 4, 5, 6, 7] rfl 0 rfl rfl rfl hl.1 rfl (Nat.le_of_ble_eq_true rfl) dX5_lightest_17 ⟨Nat.zero_le _, Nat.zero_le _⟩ ?_
        refine lv_iload_n hx hb dX5_lightest_20 rfl (lv_at hl 1 rfl) ?_
        obtain ⟨c5a, c5b, c5t, c5f⟩ := x_eqE hf
        refine xk_icmp_eq (tgt := 50) hx hb c5a c5b dX5_lightest_21 (by decide) (fun c5 => ?_) (fun c5 => ?_)
        · have hf := c5t c5
          refine xk_iconst hx hb dX5_lightest_50 ?_
          refine lv_istore (lv' := [(4, .int (iI 0)), (0, .ref (a 0)), (1, .int (iI p0)), (2, .int (iI l2)), (3, .int (iI l3))]) hx hb dX5_lightest_51 hl (by decide) rfl (fun ls hl => ?_)
          refine lv_iload hx hb dX5_lightest_53 (lv_at hl 0 rfl) ?_
          refine xk_if_eq (tgt := 66) hx hb (by decide) dX5_lightest_55 (by decide) (fun c6 => ?_) (fun c6 => ?_)
          · refine lv_iload_n hx hb dX5_lightest_66 rfl (lv_at hl 3 rfl) ?_
            refine lv_istore_n (lv' := [(2, .int (iI l2)), (4, .int (iI 0)), (0, .ref (a 0)), (1, .int (iI p0)), (3, .int (iI l3))]) hx hb dX5_lightest_67 rfl hl (by decide) rfl (fun ls hl => ?_)
            refine xk_iinc (lv' := [(3, .int (iI (l3 + 1))), (2, .int (iI l2)), (4, .int (iI 0)), (0, .ref (a 0)), (1, .int (iI p0))]) hx hb dX5_lightest_68 hl (k := 4) rfl (by decide) rfl (fun ls hl => ?_)
            refine lv_goto (tgt := 4) hx hb dX5_lightest_71 (by decide) ?_
            exact ih4 l2 (l3 + 1) hf ls (lv_sub hl [3, 4, 1, 0] rfl)
          · exact absurd c6 (by decide)
        · have hf := c5f c5
          refine lv_iload_n hx hb dX5_lightest_24 rfl (lv_at hl 2 rfl) ?_
          refine xk_iconst hx hb dX5_lightest_25 ?_
          obtain ⟨c7a, c7b, c7t, c7f⟩ := x_eqE hf
          refine xk_icmp_eq (tgt := 46) hx hb c7a c7b dX5_lightest_26 (by decide) (fun c7 => ?_) (fun c7 => ?_)
          · have hf := c7t c7
            refine xk_iconst hx hb dX5_lightest_46 ?_
            refine lv_goto (tgt := 51) hx hb dX5_lightest_47 (by decide) ?_
            refine lv_istore (lv' := [(4, .int (iI 1)), (0, .ref (a 0)), (1, .int (iI p0)), (2, .int (iI l2)), (3, .int (iI l3))]) hx hb dX5_lightest_51 hl (by decide) rfl (fun ls hl => ?_)
            refine lv_iload hx hb dX5_lightest_53 (lv_at hl 0 rfl) ?_
            refine xk_if_eq (tgt := 66) hx hb (by decide) dX5_lightest_55 (by decide) (fun c8 => ?_) (fun c8 => ?_)
            · exact absurd c8 (by decide)
            · refine lv_aload_n hx hb dX5_lightest_58 rfl (lv_at hl 1 rfl) ?_
              refine lv_iload_n hx hb dX5_lightest_59 rfl (lv_at hl 4 rfl) ?_
              obtain ⟨v9, ev9, hf⟩ := x_bind hf
              refine xc_ri (As := [.int (iI l3)]) (rest := []) ⟨hx, hb, hml, hown, hts⟩ (c5_numberAt l dC dI cs a x l3  _ ev9) (cwV 1 hts gX5_lightest_X5_numberAt rfl rfl rfl cdX5_numberAt ⟨Nat.le_of_ble_eq_true rfl, Nat.le_of_ble_eq_true rfl⟩) hK hP [0, 1, 2, 3, 4, 5, 6, 7] rfl 0 rfl rfl rfl hl.1 rfl (Nat.le_of_ble_eq_true rfl) dX5_lightest_60 ⟨Nat.zero_le _, Nat.zero_le _⟩ ?_
              refine lv_goto (tgt := 67) hx hb dX5_lightest_63 (by decide) ?_
              refine lv_istore_n (lv' := [(2, .int (iI v9)), (4, .int (iI 1)), (0, .ref (a 0)), (1, .int (iI p0)), (3, .int (iI l3))]) hx hb dX5_lightest_67 rfl hl (by decide) rfl (fun ls hl => ?_)
              refine xk_iinc (lv' := [(3, .int (iI (l3 + 1))), (2, .int (iI v9)), (4, .int (iI 1)), (0, .ref (a 0)), (1, .int (iI p0))]) hx hb dX5_lightest_68 hl (k := 4) rfl (by decide) rfl (fun ls hl => ?_)
              refine lv_goto (tgt := 4) hx hb dX5_lightest_71 (by decide) ?_
              exact ih4 v9 (l3 + 1) hf ls (lv_sub hl [3, 4, 1, 0] rfl)
          · have hf := c7f c7
            refine lv_aload_n hx hb dX5_lightest_29 rfl (lv_at hl 0 rfl) ?_
            refine lv_aload_n hx hb dX5_lightest_30 rfl (lv_at hl 0 rfl) ?_
            refine lv_iload_n hx hb dX5_lightest_31 rfl (lv_at hl 3 rfl) ?_
            obtain ⟨v10, ev10, hf⟩ := x_bind hf
            refine xc_ri (As := [.int (iI l3)]) (rest := [.ref (a 0)]) ⟨hx, hb, hml, hown, hts⟩ (c5_numberAt l dC dI cs a x l3  _ ev10) (cwV 1 hts gX5_lightest_X5_numberAt rfl rfl rfl cdX5_numberAt ⟨Nat.le_of_ble_eq_true rfl, Nat.le_of_ble_eq_true rfl⟩) hK hP [0, 1, 2, 3, 4, 5, 6, 7] rfl 0 rfl rfl rfl hl.1 rfl (Nat.le_of_ble_eq_true rfl) dX5_lightest_32 ⟨Nat.zero_le _, Nat.zero_le _⟩ ?_
            obtain ⟨v11, ev11, hf⟩ := x_bind hf
            refine xc_ri (As := [.int (iI v10)]) (rest := []) ⟨hx, hb, hml, hown, hts⟩ (c5_weightOf l dC dI cs a x v10  _ ev11) (cwV 1 hts gX5_lightest_X5_weightOf rfl rfl rfl cdX5_weightOf ⟨Nat.le_of_ble_eq_true rfl, Nat.le_of_ble_eq_true rfl⟩) hK hP [0, 1, 2, 3, 4, 5, 6, 7] rfl 0 rfl rfl rfl hl.1 rfl (Nat.le_of_ble_eq_true rfl) dX5_lightest_35 ⟨Nat.zero_le _, Nat.zero_le _⟩ ?_
            refine lv_aload_n hx hb dX5_lightest_38 rfl (lv_at hl 0 rfl) ?_
            refine lv_iload_n hx hb dX5_lightest_39 rfl (lv_at hl 2 rfl) ?_
            obtain ⟨v12, ev12, hf⟩ := x_bind hf
            refine xc_ri (As := [.int (iI l2)]) (rest := [.int (iI v11)]) ⟨hx, hb, hml, hown, hts⟩ (c5_weightOf l dC dI cs a x l2  _ ev12) (cwV 1 hts gX5_lightest_X5_weightOf rfl rfl rfl cdX5_weightOf ⟨Nat.le_of_ble_eq_true rfl, Nat.le_of_ble_eq_true rfl⟩) hK hP [0, 1, 2, 3, 4, 5, 6, 7] rfl 0 rfl rfl rfl hl.1 rfl (Nat.le_of_ble_eq_true rfl) dX5_lightest_40 ⟨Nat.zero_le _, Nat.zero_le _⟩ ?_
            obtain ⟨c13a, c13b, c13t, c13f⟩ := x_ltE hf
            refine xk_icmp_ge (tgt := 50) hx hb c13a c13b dX5_lightest_43 (by decide) (fun c13 => ?_) (fun c13 => ?_)
            · have hf := c13t c13
              refine xk_iconst hx hb dX5_lightest_46 ?_
              refine lv_goto (tgt := 51) hx hb dX5_lightest_47 (by decide) ?_
              refine lv_istore (lv' := [(4, .int (iI 1)), (0, .ref (a 0)), (1, .int (iI p0)), (2, .int (iI l2)), (3, .int (iI l3))]) hx hb dX5_lightest_51 hl (by decide) rfl (fun ls hl => ?_)
              refine lv_iload hx hb dX5_lightest_53 (lv_at hl 0 rfl) ?_
              refine xk_if_eq (tgt := 66) hx hb (by decide) dX5_lightest_55 (by decide) (fun c14 => ?_) (fun c14 => ?_)
              · exact absurd c14 (by decide)
              · refine lv_aload_n hx hb dX5_lightest_58 rfl (lv_at hl 1 rfl) ?_
                refine lv_iload_n hx hb dX5_lightest_59 rfl (lv_at hl 4 rfl) ?_
                obtain ⟨v15, ev15, hf⟩ := x_bind hf
                refine xc_ri (As := [.int (iI l3)]) (rest := []) ⟨hx, hb, hml, hown, hts⟩ (c5_numberAt l dC dI cs a x l3  _ ev15) (cwV 1 hts gX5_lightest_X5_numberAt rfl rfl rfl cdX5_numberAt ⟨Nat.le_of_ble_eq_true rfl, Nat.le_of_ble_eq_true rfl⟩) hK hP [0, 1, 2, 3, 4, 5, 6, 7] rfl 0 rfl rfl rfl hl.1 rfl (Nat.le_of_ble_eq_true rfl) dX5_lightest_60 ⟨Nat.zero_le _, Nat.zero_le _⟩ ?_
                refine lv_goto (tgt := 67) hx hb dX5_lightest_63 (by decide) ?_
                refine lv_istore_n (lv' := [(2, .int (iI v15)), (4, .int (iI 1)), (0, .ref (a 0)), (1, .int (iI p0)), (3, .int (iI l3))]) hx hb dX5_lightest_67 rfl hl (by decide) rfl (fun ls hl => ?_)
                refine xk_iinc (lv' := [(3, .int (iI (l3 + 1))), (2, .int (iI v15)), (4, .int (iI 1)), (0, .ref (a 0)), (1, .int (iI p0))]) hx hb dX5_lightest_68 hl (k := 4) rfl (by decide) rfl (fun ls hl => ?_)
                refine lv_goto (tgt := 4) hx hb dX5_lightest_71 (by decide) ?_
                exact ih4 v15 (l3 + 1) hf ls (lv_sub hl [3, 4, 1, 0] rfl)
            · have hf := c13f c13
              refine xk_iconst hx hb dX5_lightest_50 ?_
              refine lv_istore (lv' := [(4, .int (iI 0)), (0, .ref (a 0)), (1, .int (iI p0)), (2, .int (iI l2)), (3, .int (iI l3))]) hx hb dX5_lightest_51 hl (by decide) rfl (fun ls hl => ?_)
              refine lv_iload hx hb dX5_lightest_53 (lv_at hl 0 rfl) ?_
              refine xk_if_eq (tgt := 66) hx hb (by decide) dX5_lightest_55 (by decide) (fun c16 => ?_) (fun c16 => ?_)
              · refine lv_iload_n hx hb dX5_lightest_66 rfl (lv_at hl 3 rfl) ?_
                refine lv_istore_n (lv' := [(2, .int (iI l2)), (4, .int (iI 0)), (0, .ref (a 0)), (1, .int (iI p0)), (3, .int (iI l3))]) hx hb dX5_lightest_67 rfl hl (by decide) rfl (fun ls hl => ?_)
                refine xk_iinc (lv' := [(3, .int (iI (l3 + 1))), (2, .int (iI l2)), (4, .int (iI 0)), (0, .ref (a 0)), (1, .int (iI p0))]) hx hb dX5_lightest_68 hl (k := 4) rfl (by decide) rfl (fun ls hl => ?_)
                refine lv_goto (tgt := 4) hx hb dX5_lightest_71 (by decide) ?_
                exact ih4 l2 (l3 + 1) hf ls (lv_sub hl [3, 4, 1, 0] rfl)
              · exact absurd c16 (by decide)
      · have hf := c3f c3
        refine lv_iload_n hx hb dX5_lightest_74 rfl (lv_at hl 2 rfl) ?_
        obtain rfl := Option.some.inj hf
        exact xe_ri hx hb hr hlocks dX5_lightest_75 rfl
  exact hL4  xFU (-1) 0 hf ls (lv_sub hl [2, 3, 1, 0] rfl)
theorem cdX5_lightest : yX5_lightest.cls = RX5 ∧ yX5_lightest.cls ≠ "java/lang/invoke/MethodHandle" ∧ yX5_lightest.cls ≠ "java/lang/invoke/VarHandle" ∧ (parseMethodDescriptor yX5_lightest.desc).map (fun d => d.parameters.length) = some 1 := by decide +kernel

set_option maxHeartbeats 4000000 in
set_option maxRecDepth 100000 in
theorem c5_mergeLight (l : Launch) (dC : Nat → ClassId) (dI : Nat → Nat → Nat) (cs : Nat → ClassId) (a : Nat → Nat) (sz : Nat) (x : ModS) (res : Int × ModS) (hf : f5_mergeLight x = some res) : Met l yX5_mergeLight wsX5_mergeLight ({ frames := 4, cells := 0, slots := 0, locals := 92 } : Room) (va_Pc [.ref (a 0)] (xPW (dC, dI) vwCl (w5 cs a x) (xT cs) sz)) (xQi (dC, dI) vwCl (w5 cs a x) (w5 cs a res.2) sz res.1) 0 0 (va_A (w5 cs a x) sz) := by
  refine Met.ofW (cc := cX5_mergeLight) (maxL := 4) (ret := (some .int)) (by decide) rfl ?_
  intro p e s m args below meth c s₁ B hml hv
  obtain ⟨rfl, hsz, hP, hK, hD0⟩ := hv
  have hx := B.exec
  have hb := B.bytes
  have hr := B.returns
  have hts := atoms_spec (ws := wsX5_mergeLight) B.pre
  have hown : s.vm.findClass RX5 = some m.cls := findClass_of_methodNamed B.named
  have hlocks := B.notSynchronized
  subst hsz
  have hD := hD0.self (sz := s.heap.size)
  have hA : ∀ z9 : Nat, s.heap.size ≤ z9 → va_A (w5 cs a x) s.heap.size z9 := fun z9 h => Or.inr h
  have hS : va_S (va_A (w5 cs a x) s.heap.size) s.heap s.heap [] := va_S.rf
  have hl := lv_entry [.ref (a 0)] (n := 4) (Nat.le_of_ble_eq_true rfl)
  rw [lg_entry_eq]
  generalize (lg_sl [.ref (a 0)] ++ List.replicate (4 - (lg_sl [.ref (a 0)]).length) Slot.unset).toArray = ls at hl ⊢
  have hl : lv_has ls 4 [(0, .ref (a 0))] := hl
  unfold f5_mergeLight at hf
  refine lv_aload_n hx hb dX5_mergeLight_0 rfl (lv_at hl 0 rfl) ?_
  refine xk_iconst hx hb dX5_mergeLight_1 ?_
  obtain ⟨v1, ev1, hf⟩ := x_bind hf
  refine xc_ri (As := [.int (iI (-1))]) (rest := []) ⟨hx, hb, hml, hown, hts⟩ (c5_lightest l dC dI cs a x (-1)  _ ev1) (cwV 1 hts gX5_mergeLight_X5_lightest rfl rfl rfl cdX5_lightest ⟨Nat.le_of_ble_eq_true rfl, Nat.le_of_ble_eq_true rfl⟩) hK hP [0, 1, 2, 3, 4, 5, 6, 7] rfl 0 rfl rfl rfl hl.1 rfl (Nat.le_of_ble_eq_true rfl) dX5_mergeLight_2 ⟨Nat.zero_le _, Nat.zero_le _⟩ ?_
  refine lv_istore_n (lv' := [(1, .int (iI v1)), (0, .ref (a 0))]) hx hb dX5_mergeLight_5 rfl hl (by decide) rfl (fun ls hl => ?_)
  refine lv_aload_n hx hb dX5_mergeLight_6 rfl (lv_at hl 1 rfl) ?_
  refine lv_iload_n hx hb dX5_mergeLight_7 rfl (lv_at hl 0 rfl) ?_
  obtain ⟨v2, ev2, hf⟩ := x_bind hf
  refine xc_ri (As := [.int (iI v1)]) (rest := []) ⟨hx, hb, hml, hown, hts⟩ (c5_lightest l dC dI cs a x v1  _ ev2) (cwV 1 hts gX5_mergeLight_X5_lightest rfl rfl rfl cdX5_lightest ⟨Nat.le_of_ble_eq_true rfl, Nat.le_of_ble_eq_true rfl⟩) hK hP [0, 1, 2, 3, 4, 5, 6, 7] rfl 0 rfl rfl rfl hl.1 rfl (Nat.le_of_ble_eq_true rfl) dX5_mergeLight_8 ⟨Nat.zero_le _, Nat.zero_le _⟩ ?_
  refine lv_istore_n (lv' := [(2, .int (iI v2)), (1, .int (iI v1)), (0, .ref (a 0))]) hx hb dX5_mergeLight_11 rfl hl (by decide) rfl (fun ls hl => ?_)
  refine lv_aload_n hx hb dX5_mergeLight_12 rfl (lv_at hl 2 rfl) ?_
  refine lv_iload_n hx hb dX5_mergeLight_13 rfl (lv_at hl 1 rfl) ?_
  refine lv_iload_n hx hb dX5_mergeLight_14 rfl (lv_at hl 0 rfl) ?_
  obtain ⟨⟨v4, x3⟩, ex3, hf⟩ := x_bind hf
  refine xc_wi (As := [.int (iI v1), .int (iI v2)]) (rest := []) ⟨hx, hb, hml, hown, hts⟩ (c5_mergeBoth l dC dI cs a _ x v1 v2  _ ex3) (cwV 2 hts gX5_mergeLight_X5_mergeBoth rfl rfl rfl cdX5_mergeBoth ⟨Nat.le_of_ble_eq_true rfl, Nat.le_of_ble_eq_true rfl⟩) hK hP (x_addr hD rfl) hS hA [0, 1, 2, 3, 4, 5, 6, 7] rfl (by decide) rfl 0 rfl rfl rfl hl.1 rfl (Nat.le_of_ble_eq_true rfl) dX5_mergeLight_15 ⟨Nat.zero_le _, Nat.zero_le _⟩ (fun H locs hP hS => ?_)
  have hP : va_P (dC, dI) vwCl (w5 cs a x3) H := hP
  refine lv_istore_n (lv' := [(3, .int (iI v4)), (2, .int (iI v2)), (1, .int (iI v1)), (0, .ref (a 0))]) hx hb dX5_mergeLight_18 rfl hl (by decide) rfl (fun ls hl => ?_)
  refine lv_iload_n hx hb dX5_mergeLight_19 rfl (lv_at hl 0 rfl) ?_
  obtain ⟨c6a, c6b, c6t, c6f⟩ := x_ltE hf
  refine xk_if_le (tgt := 32) hx hb c6b dX5_mergeLight_20 (by decide) (fun c6 => ?_) (fun c6 => ?_)
  · have hf := c6t c6
    refine lv_iload_n hx hb dX5_mergeLight_23 rfl (lv_at hl 2 rfl) ?_
    refine lv_iload_n hx hb dX5_mergeLight_24 rfl (lv_at hl 1 rfl) ?_
    obtain ⟨c7a, c7b, c7t, c7f⟩ := x_ltE hf
    refine xk_icmp_ge (tgt := 32) hx hb c7a c7b dX5_mergeLight_25 (by decide) (fun c7 => ?_) (fun c7 => ?_)
    · have hf := c7t c7
      refine lv_iload_n hx hb dX5_mergeLight_28 rfl (lv_at hl 2 rfl) ?_
      refine lv_goto (tgt := 33) hx hb dX5_mergeLight_29 (by decide) ?_
      obtain rfl := Option.some.inj hf
      exact xe_wi hx hb hr hlocks hS hP dX5_mergeLight_33
    · have hf := c7f c7
      refine lv_iload_n hx hb dX5_mergeLight_32 rfl (lv_at hl 1 rfl) ?_
      obtain rfl := Option.some.inj hf
      exact xe_wi hx hb hr hlocks hS hP dX5_mergeLight_33
  · have hf := c6f c6
    refine lv_iload_n hx hb dX5_mergeLight_32 rfl (lv_at hl 1 rfl) ?_
    obtain rfl := Option.some.inj hf
    exact xe_wi hx hb hr hlocks hS hP dX5_mergeLight_33
theorem cdX5_mergeLight : yX5_mergeLight.cls = RX5 ∧ yX5_mergeLight.cls ≠ "java/lang/invoke/MethodHandle" ∧ yX5_mergeLight.cls ≠ "java/lang/invoke/VarHandle" ∧ (parseMethodDescriptor yX5_mergeLight.desc).map (fun d => d.parameters.length) = some 0 := by decide +kernel

set_option maxHeartbeats 4000000 in
set_option maxRecDepth 100000 in
theorem c5_mergeLightest (l : Launch) (dC : Nat → ClassId) (dI : Nat → Nat → Nat) (cs : Nat → ClassId) (a : Nat → Nat) (sz : Nat) (x : ModS) (res : Int × ModS) (hf : f5_mergeLightest x = some res) : Met l yX5_mergeLightest wsX5_mergeLightest ({ frames := 5, cells := 0, slots := 0, locals := 115 } : Room) (va_Pc [.ref (a 0)] (xPW (dC, dI) vwCl (w5 cs a x) (xT cs) sz)) (xQi (dC, dI) vwCl (w5 cs a x) (w5 cs a res.2) sz res.1) 0 0 (va_A (w5 cs a x) sz) := by
  refine Met.ofW (cc := cX5_mergeLightest) (maxL := 1) (ret := (some .int)) (by decide) rfl ?_
  intro p e s m args below meth c s₁ B hml hv
  obtain ⟨rfl, hsz, hP, hK, hD0⟩ := hv
  have hx := B.exec
  have hb := B.bytes
  have hr := B.returns
  have hts := atoms_spec (ws := wsX5_mergeLightest) B.pre
  have hown : s.vm.findClass RX5 = some m.cls := findClass_of_methodNamed B.named
  have hlocks := B.notSynchronized
  have hin5 : ∀ w ∈ wsX50, w ∈ wsX5_mergeLightest := by decide +kernel
  subst hsz
  have hD := hD0.self (sz := s.heap.size)
  have hA : ∀ z9 : Nat, s.heap.size ≤ z9 → va_A (w5 cs a x) s.heap.size z9 := fun z9 h => Or.inr h
  have hS : va_S (va_A (w5 cs a x) s.heap.size) s.heap s.heap [] := va_S.rf
  have hl := lv_entry [.ref (a 0)] (n := 1) (Nat.le_of_ble_eq_true rfl)
  rw [lg_entry_eq]
  generalize (lg_sl [.ref (a 0)] ++ List.replicate (1 - (lg_sl [.ref (a 0)]).length) Slot.unset).toArray = ls at hl ⊢
  have hl : lv_has ls 1 [(0, .ref (a 0))] := hl
  unfold f5_mergeLightest at hf
  refine lv_aload_n hx hb dX5_mergeLightest_0 rfl (lv_at hl 0 rfl) ?_
  refine lv_aload_n hx hb dX5_mergeLightest_1 rfl (lv_at hl 0 rfl) ?_
  refine va_get (D := (dC, dI)) (ci := 5) (v := .ref (a 1)) (C := RX5) (T := TX5) (N := 13) hx hb hts hin5 hown hK hP 0 rfl rfl 1 (by decide) (hts (.fieldLink RX5 13 "BoatRunsModel" "now" "[I") (by decide +kernel)) (fun _ h9 => h9) rfl dX5_mergeLightest_2 ?_
  refine xk_bipush hx hb dX5_mergeLightest_5 (by decide) ?_
  obtain ⟨v1, ev1, hf⟩ := x_bind hf
  refine xk_iald (f := g5_now x) hx hb hK hP 1 0 ev1 (by decide) rfl rfl dX5_mergeLightest_7 ?_
  refine xk_iconst hx hb dX5_mergeLightest_8 ?_
  obtain ⟨c2a, c2b, c2t, c2f⟩ := x_ltE hf
  refine xk_icmp_ge (tgt := 16) hx hb c2a c2b dX5_mergeLightest_9 (by decide) (fun c2 => ?_) (fun c2 => ?_)
  · have hf := c2t c2
    refine xk_iconst hx hb dX5_mergeLightest_12 ?_
    refine lv_goto (tgt := 17) hx hb dX5_mergeLightest_13 (by decide) ?_
    refine va_put (D := (dC, dI)) (ci := 5) (v := .int (iI 1)) (ty := .int) (C := RX5) (T := TX5) (N := 13) hx hb hts hin5 tyX5 tyX5_ok nmX5 hown hK hP (x_addr hD rfl) hS 0 rfl rfl 0 (by decide) (hts (.fieldLink RX5 1 "BoatRunsModel" "thrown" "I") (by decide +kernel)) (fun _ h9 => h9) rfl (by decide +kernel) rfl rfl (Nat.le_of_ble_eq_true rfl) dX5_mergeLightest_17 (fun H locs hP _ hS => ?_)
    have hP : va_P (dC, dI) vwCl (w5C cs a 1 (g5_acts x) (g5_typ x) (g5_lat x) (g5_pos x) (g5_wra x) (g5_now x) (g5_put x) (g5_was x) (g5_txt x) (g5_lef x) (g5_abo x) (g5_ors x)) H := hP
    refine lv_aload_n hx hb dX5_mergeLightest_20 rfl (lv_at hl 0 rfl) ?_
    refine va_get (D := (dC, dI)) (ci := 5) (v := .int (iI 1)) (C := RX5) (T := TX5) (N := 13) hx hb hts hin5 hown hK hP 0 rfl rfl 0 (by decide) (hts (.fieldLink RX5 1 "BoatRunsModel" "thrown" "I") (by decide +kernel)) (fun _ h9 => h9) rfl dX5_mergeLightest_21 ?_
    refine xk_if_le (tgt := 29) hx hb (by decide) dX5_mergeLightest_24 (by decide) (fun c3 => ?_) (fun c3 => ?_)
    · refine xk_iconst hx hb dX5_mergeLightest_27 ?_
      obtain rfl := Option.some.inj hf
      exact xe_wi hx hb hr hlocks hS hP dX5_mergeLightest_28
    · exact absurd c3 (by decide)
  · have hf := c2f c2
    refine xk_iconst hx hb dX5_mergeLightest_16 ?_
    refine va_put (D := (dC, dI)) (ci := 5) (v := .int (iI 0)) (ty := .int) (C := RX5) (T := TX5) (N := 13) hx hb hts hin5 tyX5 tyX5_ok nmX5 hown hK hP (x_addr hD rfl) hS 0 rfl rfl 0 (by decide) (hts (.fieldLink RX5 1 "BoatRunsModel" "thrown" "I") (by decide +kernel)) (fun _ h9 => h9) rfl (by decide +kernel) rfl rfl (Nat.le_of_ble_eq_true rfl) dX5_mergeLightest_17 (fun H locs hP _ hS => ?_)
    have hP : va_P (dC, dI) vwCl (w5C cs a 0 (g5_acts x) (g5_typ x) (g5_lat x) (g5_pos x) (g5_wra x) (g5_now x) (g5_put x) (g5_was x) (g5_txt x) (g5_lef x) (g5_abo x) (g5_ors x)) H := hP
    refine lv_aload_n hx hb dX5_mergeLightest_20 rfl (lv_at hl 0 rfl) ?_
    refine va_get (D := (dC, dI)) (ci := 5) (v := .int (iI 0)) (C := RX5) (T := TX5) (N := 13) hx hb hts hin5 hown hK hP 0 rfl rfl 0 (by decide) (hts (.fieldLink RX5 1 "BoatRunsModel" "thrown" "I") (by decide +kernel)) (fun _ h9 => h9) rfl dX5_mergeLightest_21 ?_
    refine xk_if_le (tgt := 29) hx hb (by decide) dX5_mergeLightest_24 (by decide) (fun c4 => ?_) (fun c4 => ?_)
    · exact absurd c4 (by decide)
    · refine lv_aload_n hx hb dX5_mergeLightest_29 rfl (lv_at hl 0 rfl) ?_
      obtain ⟨x5, ex5, hf⟩ := x_bind hf
      refine xc_wv (As := []) (rest := []) ⟨hx, hb, hml, hown, hts⟩ (c5_save l dC dI cs a _ (s5_thr x 0)  _ ex5) (cwV 0 hts gX5_mergeLightest_X5_save rfl rfl rfl cdX5_save ⟨Nat.le_of_ble_eq_true rfl, Nat.le_of_ble_eq_true rfl⟩) hK hP (x_addr hD rfl) hS hA [0, 1, 2, 3, 4, 5, 6, 7] rfl (by decide) rfl 0 rfl rfl rfl hl.1 rfl (Nat.le_of_ble_eq_true rfl) dX5_mergeLightest_30 ⟨Nat.zero_le _, Nat.zero_le _⟩ (fun H locs hP hS => ?_)
      have hP : va_P (dC, dI) vwCl (w5 cs a x5) H := hP
      refine lv_aload_n hx hb dX5_mergeLightest_33 rfl (lv_at hl 0 rfl) ?_
      obtain ⟨⟨v7, x6⟩, ex6, hf⟩ := x_bind hf
      refine xc_wi (As := []) (rest := []) ⟨hx, hb, hml, hown, hts⟩ (c5_mergeLight l dC dI cs a _ x5  _ ex6) (cwV 0 hts gX5_mergeLightest_X5_mergeLight rfl rfl rfl cdX5_mergeLight ⟨Nat.le_of_ble_eq_true rfl, Nat.le_of_ble_eq_true rfl⟩) hK hP (x_addr hD rfl) hS hA [0, 1, 2, 3, 4, 5, 6, 7] rfl (by decide) rfl 0 rfl rfl rfl hl.1 rfl (Nat.le_of_ble_eq_true rfl) dX5_mergeLightest_34 ⟨Nat.zero_le _, Nat.zero_le _⟩ (fun H locs hP hS => ?_)
      have hP : va_P (dC, dI) vwCl (w5 cs a x6) H := hP
      obtain rfl := Option.some.inj hf
      exact xe_wi hx hb hr hlocks hS hP dX5_mergeLightest_37
theorem cdX5_mergeLightest : yX5_mergeLightest.cls = RX5 ∧ yX5_mergeLightest.cls ≠ "java/lang/invoke/MethodHandle" ∧ yX5_mergeLightest.cls ≠ "java/lang/invoke/VarHandle" ∧ (parseMethodDescriptor yX5_mergeLightest.desc).map (fun d => d.parameters.length) = some 0 := by decide +kernel

set_option maxHeartbeats 4000000 in
set_option maxRecDepth 100000 in
theorem c5_stormBy (l : Launch) (dC : Nat → ClassId) (dI : Nat → Nat → Nat) (cs : Nat → ClassId) (a : Nat → Nat) (sz : Nat) (x : ModS) (p0 : Int) (res : Int × ModS) (hf : f5_stormBy x p0 = some res) : Met l yX5_stormBy wsX5_stormBy ({ frames := 3, cells := 0, slots := 0, locals := 67 } : Room) (va_Pc [.ref (a 0), .int (iI p0)] (xPW (dC, dI) vwCl (w5 cs a x) (xT cs) sz)) (xQi (dC, dI) vwCl (w5 cs a x) (w5 cs a res.2) sz res.1) 0 0 (va_A (w5 cs a x) sz) := by
  refine Met.ofW (cc := cX5_stormBy) (maxL := 9) (ret := (some .int)) (by decide) rfl ?_
  intro p e s m args below meth c s₁ B hml hv
  obtain ⟨rfl, hsz, hP, hK, hD0⟩ := hv
  have hx := B.exec
  have hb := B.bytes
  have hr := B.returns
  have hts := atoms_spec (ws := wsX5_stormBy) B.pre
  have hown : s.vm.findClass RX5 = some m.cls := findClass_of_methodNamed B.named
  have hlocks := B.notSynchronized
  have hin5 : ∀ w ∈ wsX50, w ∈ wsX5_stormBy := by decide +kernel
  subst hsz
  have hD := hD0.self (sz := s.heap.size)
  have hA : ∀ z9 : Nat, s.heap.size ≤ z9 → va_A (w5 cs a x) s.heap.size z9 := fun z9 h => Or.inr h
  have hS : va_S (va_A (w5 cs a x) s.heap.size) s.heap s.heap [] := va_S.rf
  have hl := lv_entry [.ref (a 0), .int (iI p0)] (n := 9) (Nat.le_of_ble_eq_true rfl)
  rw [lg_entry_eq]
  generalize (lg_sl [.ref (a 0), .int (iI p0)] ++ List.replicate (9 - (lg_sl [.ref (a 0), .int (iI p0)]).length) Slot.unset).toArray = ls at hl ⊢
  have hl : lv_has ls 9 [(0, .ref (a 0)), (1, .int (iI p0))] := hl
  unfold f5_stormBy at hf
  refine lv_aload_n hx hb dX5_stormBy_0 rfl (lv_at hl 0 rfl) ?_
  refine va_get (D := (dC, dI)) (ci := 5) (v := .ref (a 1)) (C := RX5) (T := TX5) (N := 13) hx hb hts hin5 hown hK hP 0 rfl rfl 1 (by decide) (hts (.fieldLink RX5 13 "BoatRunsModel" "now" "[I") (by decide +kernel)) (fun _ h9 => h9) rfl dX5_stormBy_1 ?_
  refine xk_bipush hx hb dX5_stormBy_4 (by decide) ?_
  obtain ⟨v1, ev1, hf⟩ := x_bind hf
  refine xk_iald (f := g5_now x) hx hb hK hP 1 0 ev1 (by decide) rfl rfl dX5_stormBy_6 ?_
  refine lv_istore_n (lv' := [(2, .int (iI v1)), (0, .ref (a 0)), (1, .int (iI p0))]) hx hb dX5_stormBy_7 rfl hl (by decide) rfl (fun ls hl => ?_)
  refine xk_iconst hx hb dX5_stormBy_8 ?_
  refine lv_istore_n (lv' := [(3, .int (iI 0)), (2, .int (iI v1)), (0, .ref (a 0)), (1, .int (iI p0))]) hx hb dX5_stormBy_9 rfl hl (by decide) rfl (fun ls hl => ?_)
  refine xk_iconst hx hb dX5_stormBy_10 ?_
  refine lv_istore (lv' := [(4, .int (iI 0)), (3, .int (iI 0)), (2, .int (iI v1)), (0, .ref (a 0)), (1, .int (iI p0))]) hx hb dX5_stormBy_11 hl (by decide) rfl (fun ls hl => ?_)
  have hL13 : ∀ (n3 : Nat) (l3 : Int) (l4 : Int) (x2 : ModS), f5_stormBy_L13 p0 v1 n3 l3 l4 x2 = some res → ∀ (H : Heap) (locs : List Loc), va_P (dC, dI) vwCl (w5 cs a x2) H → va_S (va_A (w5 cs a x) s.heap.size) s.heap H locs → ∀ (ls : Array Slot), lv_has ls 9 [(0, .ref (a 0)), (1, .int (iI p0)), (2, .int (iI v1)), (3, .int (iI l3)), (4, .int (iI l4))] → W p l e (headSpec wsX5_stormBy ({ frames := 3, cells := 0, slots := 0, locals := 67 } : Room)).room s m ([.ref (a 0), .int (iI p0)] : List Value).toArray below meth c H locs 0 0 (MQ below (xQi (dC, dI) vwCl (w5 cs a x) (w5 cs a res.2) s.heap.size res.1) ([.ref (a 0), .int (iI p0)] : List Value).toArray s 0 0 (va_A (w5 cs a x) s.heap.size)) (F0 m 13 ls []) := by
    intro  n3
    induction n3 with
    | zero => intro l3 l4 x2 hf; have hf : (none : Option (Int × ModS)) = some res := hf; cases hf
    | succ n3 ih13 =>
      intro l3 l4 x2 hf H locs hP hS ls hl
      rw [f5_stormBy_L13] at hf
      refine lv_iload hx hb dX5_stormBy_13 (lv_at hl 4 rfl) ?_
      refine lv_iload_n hx hb dX5_stormBy_15 rfl (lv_at hl 2 rfl) ?_
      obtain ⟨c4a, c4b, c4t, c4f⟩ := x_ltE hf
      refine xk_icmp_ge (tgt := 105) hx hb c4a c4b dX5_stormBy_16 (by decide) (fun c4 => ?_) (fun c4 => ?_)
      · have hf := c4t c4
        refine lv_aload_n hx hb dX5_stormBy_19 rfl (lv_at hl 0 rfl) ?_
        refine lv_iload hx hb dX5_stormBy_20 (lv_at hl 4 rfl) ?_
        obtain ⟨v5, ev5, hf⟩ := x_bind hf
        refine xc_ri (As := [.int (iI l4)]) (rest := []) ⟨hx, hb, hml, hown, hts⟩ (c5_numberAt l dC dI cs a x2 l4  _ ev5) (cwV 1 hts gX5_stormBy_X5_numberAt rfl rfl rfl cdX5_numberAt ⟨Nat.le_of_ble_eq_true rfl, Nat.le_of_ble_eq_true rfl⟩) hK hP [0, 1, 2, 3, 4, 5, 6, 7] rfl 0 rfl rfl rfl hl.1 rfl (Nat.le_of_ble_eq_true rfl) dX5_stormBy_22 ⟨Nat.zero_le _, Nat.zero_le _⟩ ?_
        refine lv_istore (lv' := [(5, .int (iI v5)), (0, .ref (a 0)), (1, .int (iI p0)), (2, .int (iI v1)), (3, .int (iI l3)), (4, .int (iI l4))]) hx hb dX5_stormBy_25 hl (by decide) rfl (fun ls hl => ?_)
        refine lv_aload_n hx hb dX5_stormBy_27 rfl (lv_at hl 1 rfl) ?_
        refine lv_iload hx hb dX5_stormBy_28 (lv_at hl 0 rfl) ?_
        obtain ⟨v6, ev6, hf⟩ := x_bind hf
        refine xc_ri (As := [.int (iI v5)]) (rest := []) ⟨hx, hb, hml, hown, hts⟩ (c5_manyOf l dC dI cs a x2 v5  _ ev6) (cwV 1 hts gX5_stormBy_X5_manyOf rfl rfl rfl cdX5_manyOf ⟨Nat.le_of_ble_eq_true rfl, Nat.le_of_ble_eq_true rfl⟩) hK hP [0, 1, 2, 3, 4, 5, 6, 7] rfl 0 rfl rfl rfl hl.1 rfl (Nat.le_of_ble_eq_true rfl) dX5_stormBy_30 ⟨Nat.zero_le _, Nat.zero_le _⟩ ?_
        refine lv_istore (lv' := [(6, .int (iI v6)), (5, .int (iI v5)), (0, .ref (a 0)), (1, .int (iI p0)), (2, .int (iI v1)), (3, .int (iI l3)), (4, .int (iI l4))]) hx hb dX5_stormBy_33 hl (by decide) rfl (fun ls hl => ?_)
        refine lv_iload hx hb dX5_stormBy_35 (lv_at hl 0 rfl) ?_
        refine xk_iconst hx hb dX5_stormBy_37 ?_
        obtain ⟨c7a, c7b, c7t, c7f⟩ := x_ltE hf
        refine xk_icmp_le (tgt := 99) hx hb c7b c7a dX5_stormBy_38 (by decide) (fun c7 => ?_) (fun c7 => ?_)
        · have hf := c7t c7
          refine lv_aload_n hx hb dX5_stormBy_41 rfl (lv_at hl 2 rfl) ?_
          refine va_get (D := (dC, dI)) (ci := 5) (v := .ref (a 1)) (C := RX5) (T := TX5) (N := 13) hx hb hts hin5 hown hK hP 0 rfl rfl 1 (by decide) (hts (.fieldLink RX5 13 "BoatRunsModel" "now" "[I") (by decide +kernel)) (fun _ h9 => h9) rfl dX5_stormBy_42 ?_
          refine xk_bipush hx hb dX5_stormBy_45 (by decide) ?_
          refine xk_iconst hx hb dX5_stormBy_47 ?_
          refine lv_iload hx hb dX5_stormBy_48 (lv_at hl 6 rfl) ?_
          refine xk_imul hx hb dX5_stormBy_50 ?_
          refine xk_iadd hx hb dX5_stormBy_51 ?_
          refine xk_iconst hx hb dX5_stormBy_52 ?_
          refine xk_iadd hx hb dX5_stormBy_53 ?_
          obtain ⟨v8, ev8, hf⟩ := x_bind hf
          refine xk_iald (f := g5_now x2) hx hb hK hP 1 0 ev8 (by decide) rfl rfl dX5_stormBy_54 ?_
          refine lv_iload_n hx hb dX5_stormBy_55 rfl (lv_at hl 3 rfl) ?_
          obtain ⟨c9a, c9b, c9t, c9f⟩ := x_ltE hf
          refine xk_icmp_ge (tgt := 99) hx hb c9a c9b dX5_stormBy_56 (by decide) (fun c9 => ?_) (fun c9 => ?_)
          · have hf := c9t c9
            refine lv_aload_n hx hb dX5_stormBy_59 rfl (lv_at hl 2 rfl) ?_
            obtain ⟨⟨v11, x10⟩, ex10, hf⟩ := x_bind hf
            refine xc_wi (As := []) (rest := []) ⟨hx, hb, hml, hown, hts⟩ (c5_newRun l dC dI cs a _ x2  _ ex10) (cwV 0 hts gX5_stormBy_X5_newRun rfl rfl rfl cdX5_newRun ⟨Nat.le_of_ble_eq_true rfl, Nat.le_of_ble_eq_true rfl⟩) hK hP (x_addr hD rfl) hS hA [0, 1, 2, 3, 4, 5, 6, 7] rfl (by decide) rfl 0 rfl rfl rfl hl.1 rfl (Nat.le_of_ble_eq_true rfl) dX5_stormBy_60 ⟨Nat.zero_le _, Nat.zero_le _⟩ (fun H locs hP hS => ?_)
            have hP : va_P (dC, dI) vwCl (w5 cs a x10) H := hP
            refine lv_istore (lv' := [(7, .int (iI v11)), (6, .int (iI v6)), (5, .int (iI v5)), (0, .ref (a 0)), (1, .int (iI p0)), (2, .int (iI v1)), (3, .int (iI l3)), (4, .int (iI l4))]) hx hb dX5_stormBy_63 hl (by decide) rfl (fun ls hl => ?_)
            refine xk_iinc (lv' := [(3, .int (iI (l3 + 1))), (7, .int (iI v11)), (6, .int (iI v6)), (5, .int (iI v5)), (0, .ref (a 0)), (1, .int (iI p0)), (2, .int (iI v1)), (4, .int (iI l4))]) hx hb dX5_stormBy_65 hl (k := 6) rfl (by decide) rfl (fun ls hl => ?_)
            refine xk_iconst hx hb dX5_stormBy_68 ?_
            refine lv_istore (lv' := [(8, .int (iI 0)), (3, .int (iI (l3 + 1))), (7, .int (iI v11)), (6, .int (iI v6)), (5, .int (iI v5)), (0, .ref (a 0)), (1, .int (iI p0)), (2, .int (iI v1)), (4, .int (iI l4))]) hx hb dX5_stormBy_69 hl (by decide) rfl (fun ls hl => ?_)
            have hL71 : ∀ (n14 : Nat) (l8 : Int) (x13 : ModS), f5_stormBy_L71 l3 l4 v5 v6 v11 (f5_stormBy_L13 p0 v1 n3) n14 l8 x13 = some res → ∀ (H : Heap) (locs : List Loc), va_P (dC, dI) vwCl (w5 cs a x13) H → va_S (va_A (w5 cs a x) s.heap.size) s.heap H locs → ∀ (ls : Array Slot), lv_has ls 9 [(0, .ref (a 0)), (1, .int (iI p0)), (2, .int (iI v1)), (3, .int (iI (l3 + 1))), (4, .int (iI l4)), (5, .int (iI v5)), (6, .int (iI v6)), (7, .int (iI v11)), (8, .int (iI l8))] → W p l e (headSpec wsX5_stormBy ({ frames := 3, cells := 0, slots := 0, locals := 67 } : Room)).room s m ([.ref (a 0), .int (iI p0)] : List Value).toArray below meth c H locs 0 0 (MQ below (xQi (dC, dI) vwCl (w5 cs a x) (w5 cs a res.2) s.heap.size res.1) ([.ref (a 0), .int (iI p0)] : List Value).toArray s 0 0 (va_A (w5 cs a x) s.heap.size)) (F0 m 71 ls []) := by
              intro  n14
              induction n14 with
              | zero => intro l8 x13 hf; have hf : (none : Option (Int × ModS)) = some res := hf; cases hf
              | succ n14 ih71 =>
                intro l8 x13 hf H locs hP hS ls hl
                rw [f5_stormBy_L71] at hf
                refine lv_iload hx hb dX5_stormBy_71 (lv_at hl 8 rfl) ?_
                refine lv_iload hx hb dX5_stormBy_73 (lv_at hl 6 rfl) ?_
                refine xk_iconst hx hb dX5_stormBy_75 ?_
                obtain ⟨v15, ev15, hf⟩ := x_bind hf
                refine xk_idiv hx hb ev15 dX5_stormBy_76 ?_
                obtain ⟨c16a, c16b, c16t, c16f⟩ := x_ltE hf
                refine xk_icmp_ge (tgt := 99) hx hb c16a c16b dX5_stormBy_77 (by decide) (fun c16 => ?_) (fun c16 => ?_)
                · have hf := c16t c16
                  refine lv_aload_n hx hb dX5_stormBy_80 rfl (lv_at hl 0 rfl) ?_
                  refine lv_aload_n hx hb dX5_stormBy_81 rfl (lv_at hl 0 rfl) ?_
                  refine lv_iload hx hb dX5_stormBy_82 (lv_at hl 5 rfl) ?_
                  obtain ⟨v17, ev17, hf⟩ := x_bind hf
                  refine xc_ri (As := [.int (iI v5)]) (rest := [.ref (a 0)]) ⟨hx, hb, hml, hown, hts⟩ (c5_lastOf l dC dI cs a x13 v5  _ ev17) (cwV 1 hts gX5_stormBy_X5_lastOf rfl rfl rfl cdX5_lastOf ⟨Nat.le_of_ble_eq_true rfl, Nat.le_of_ble_eq_true rfl⟩) hK hP [0, 1, 2, 3, 4, 5, 6, 7] rfl 0 rfl rfl rfl hl.1 rfl (Nat.le_of_ble_eq_true rfl) dX5_stormBy_84 ⟨Nat.zero_le _, Nat.zero_le _⟩ ?_
                  refine xk_iconst hx hb dX5_stormBy_87 ?_
                  refine lv_iload hx hb dX5_stormBy_88 (lv_at hl 7 rfl) ?_
                  obtain ⟨x18, ex18, hf⟩ := x_bind hf
                  refine xc_wv (As := [.int (iI v17), .int (iI 3), .int (iI v11)]) (rest := []) ⟨hx, hb, hml, hown, hts⟩ (c5_be l dC dI cs a _ x13 v17 3 v11  _ ex18) (cwV 3 hts gX5_stormBy_X5_be rfl rfl rfl cdX5_be ⟨Nat.le_of_ble_eq_true rfl, Nat.le_of_ble_eq_true rfl⟩) hK hP (x_addr hD rfl) hS hA [0, 1, 2, 3, 4, 5, 6, 7] rfl (by decide) rfl 0 rfl rfl rfl hl.1 rfl (Nat.le_of_ble_eq_true rfl) dX5_stormBy_90 ⟨Nat.zero_le _, Nat.zero_le _⟩ (fun H locs hP hS => ?_)
                  have hP : va_P (dC, dI) vwCl (w5 cs a x18) H := hP
                  refine xk_iinc (lv' := [(8, .int (iI (l8 + 1))), (0, .ref (a 0)), (1, .int (iI p0)), (2, .int (iI v1)), (3, .int (iI (l3 + 1))), (4, .int (iI l4)), (5, .int (iI v5)), (6, .int (iI v6)), (7, .int (iI v11))]) hx hb dX5_stormBy_93 hl (k := 8) rfl (by decide) rfl (fun ls hl => ?_)
                  refine lv_goto (tgt := 71) hx hb dX5_stormBy_96 (by decide) ?_
                  exact ih71 (l8 + 1) x18 hf _ _ hP hS ls (lv_sub hl [1, 2, 3, 4, 5, 6, 7, 8, 0] rfl)
                · have hf := c16f c16
                  refine xk_iinc (lv' := [(4, .int (iI (l4 + 1))), (0, .ref (a 0)), (1, .int (iI p0)), (2, .int (iI v1)), (3, .int (iI (l3 + 1))), (5, .int (iI v5)), (6, .int (iI v6)), (7, .int (iI v11)), (8, .int (iI l8))]) hx hb dX5_stormBy_99 hl (k := 4) rfl (by decide) rfl (fun ls hl => ?_)
                  refine lv_goto (tgt := 13) hx hb dX5_stormBy_102 (by decide) ?_
                  exact ih13 (l3 + 1) (l4 + 1) x13 hf _ _ hP hS ls (lv_sub hl [1, 2, 3, 4, 0] rfl)
            exact hL71  xFU 0 x10 hf _ _ hP hS ls (lv_sub hl [5, 6, 7, 1, 8, 4, 3, 2, 0] rfl)
          · have hf := c9f c9
            refine xk_iinc (lv' := [(4, .int (iI (l4 + 1))), (6, .int (iI v6)), (5, .int (iI v5)), (0, .ref (a 0)), (1, .int (iI p0)), (2, .int (iI v1)), (3, .int (iI l3))]) hx hb dX5_stormBy_99 hl (k := 6) rfl (by decide) rfl (fun ls hl => ?_)
            refine lv_goto (tgt := 13) hx hb dX5_stormBy_102 (by decide) ?_
            exact ih13 l3 (l4 + 1) x2 hf _ _ hP hS ls (lv_sub hl [3, 4, 5, 6, 0] rfl)
        · have hf := c7f c7
          refine xk_iinc (lv' := [(4, .int (iI (l4 + 1))), (6, .int (iI v6)), (5, .int (iI v5)), (0, .ref (a 0)), (1, .int (iI p0)), (2, .int (iI v1)), (3, .int (iI l3))]) hx hb dX5_stormBy_99 hl (k := 6) rfl (by decide) rfl (fun ls hl => ?_)
          refine lv_goto (tgt := 13) hx hb dX5_stormBy_102 (by decide) ?_
          exact ih13 l3 (l4 + 1) x2 hf _ _ hP hS ls (lv_sub hl [3, 4, 5, 6, 0] rfl)
      · have hf := c4f c4
        refine xk_iconst hx hb dX5_stormBy_105 ?_
        refine lv_istore (lv' := [(4, .int (iI 0)), (0, .ref (a 0)), (1, .int (iI p0)), (2, .int (iI v1)), (3, .int (iI l3))]) hx hb dX5_stormBy_106 hl (by decide) rfl (fun ls hl => ?_)
        have hL108 : ∀ (n20 : Nat) (l4x : Int) (x19 : ModS), f5_stormBy_L108 v1 l3 n20 l4x x19 = some res → ∀ (H : Heap) (locs : List Loc), va_P (dC, dI) vwCl (w5 cs a x19) H → va_S (va_A (w5 cs a x) s.heap.size) s.heap H locs → ∀ (ls : Array Slot), lv_has ls 9 [(0, .ref (a 0)), (2, .int (iI v1)), (3, .int (iI l3)), (4, .int (iI l4x))] → W p l e (headSpec wsX5_stormBy ({ frames := 3, cells := 0, slots := 0, locals := 67 } : Room)).room s m ([.ref (a 0), .int (iI p0)] : List Value).toArray below meth c H locs 0 0 (MQ below (xQi (dC, dI) vwCl (w5 cs a x) (w5 cs a res.2) s.heap.size res.1) ([.ref (a 0), .int (iI p0)] : List Value).toArray s 0 0 (va_A (w5 cs a x) s.heap.size)) (F0 m 108 ls []) := by
          intro  n20
          induction n20 with
          | zero => intro l4x x19 hf; have hf : (none : Option (Int × ModS)) = some res := hf; cases hf
          | succ n20 ih108 =>
            intro l4x x19 hf H locs hP hS ls hl
            rw [f5_stormBy_L108] at hf
            refine lv_iload hx hb dX5_stormBy_108 (lv_at hl 3 rfl) ?_
            refine lv_iload_n hx hb dX5_stormBy_110 rfl (lv_at hl 1 rfl) ?_
            obtain ⟨c21a, c21b, c21t, c21f⟩ := x_ltE hf
            refine xk_icmp_ge (tgt := 161) hx hb c21a c21b dX5_stormBy_111 (by decide) (fun c21 => ?_) (fun c21 => ?_)
            · have hf := c21t c21
              refine xk_bipush hx hb dX5_stormBy_114 (by decide) ?_
              refine xk_iconst hx hb dX5_stormBy_116 ?_
              refine lv_iload hx hb dX5_stormBy_117 (lv_at hl 3 rfl) ?_
              refine xk_imul hx hb dX5_stormBy_119 ?_
              refine xk_iadd hx hb dX5_stormBy_120 ?_
              refine xk_iconst hx hb dX5_stormBy_121 ?_
              refine xk_iadd hx hb dX5_stormBy_122 ?_
              refine lv_istore (lv' := [(5, .int (iI ((10 + (2 * l4x)) + 1))), (0, .ref (a 0)), (2, .int (iI v1)), (3, .int (iI l3)), (4, .int (iI l4x))]) hx hb dX5_stormBy_123 hl (by decide) rfl (fun ls hl => ?_)
              refine lv_aload_n hx hb dX5_stormBy_125 rfl (lv_at hl 1 rfl) ?_
              refine va_get (D := (dC, dI)) (ci := 5) (v := .ref (a 1)) (C := RX5) (T := TX5) (N := 13) hx hb hts hin5 hown hK hP 0 rfl rfl 1 (by decide) (hts (.fieldLink RX5 13 "BoatRunsModel" "now" "[I") (by decide +kernel)) (fun _ h9 => h9) rfl dX5_stormBy_126 ?_
              refine lv_iload hx hb dX5_stormBy_129 (lv_at hl 0 rfl) ?_
              refine lv_aload_n hx hb dX5_stormBy_131 rfl (lv_at hl 1 rfl) ?_
              refine va_get (D := (dC, dI)) (ci := 5) (v := .ref (a 1)) (C := RX5) (T := TX5) (N := 13) hx hb hts hin5 hown hK hP 0 rfl rfl 1 (by decide) (hts (.fieldLink RX5 13 "BoatRunsModel" "now" "[I") (by decide +kernel)) (fun _ h9 => h9) rfl dX5_stormBy_132 ?_
              refine lv_iload hx hb dX5_stormBy_135 (lv_at hl 0 rfl) ?_
              obtain ⟨v22, ev22, hf⟩ := x_bind hf
              refine xk_iald (f := g5_now x19) hx hb hK hP 1 0 ev22 (by decide) rfl rfl dX5_stormBy_137 ?_
              obtain ⟨c23a, c23b, c23t, c23f⟩ := x_ltE hf
              refine xk_if_le (tgt := 153) hx hb c23b dX5_stormBy_138 (by decide) (fun c23 => ?_) (fun c23 => ?_)
              · have hf := c23t c23
                refine lv_aload_n hx hb dX5_stormBy_141 rfl (lv_at hl 1 rfl) ?_
                refine va_get (D := (dC, dI)) (ci := 5) (v := .ref (a 1)) (C := RX5) (T := TX5) (N := 13) hx hb hts hin5 hown hK hP 0 rfl rfl 1 (by decide) (hts (.fieldLink RX5 13 "BoatRunsModel" "now" "[I") (by decide +kernel)) (fun _ h9 => h9) rfl dX5_stormBy_142 ?_
                refine lv_iload hx hb dX5_stormBy_145 (lv_at hl 0 rfl) ?_
                obtain ⟨v24, ev24, hf⟩ := x_bind hf
                refine xk_iald (f := g5_now x19) hx hb hK hP 1 0 ev24 (by decide) rfl rfl dX5_stormBy_147 ?_
                refine xk_iconst hx hb dX5_stormBy_148 ?_
                refine xk_isub hx hb dX5_stormBy_149 ?_
                refine lv_goto (tgt := 154) hx hb dX5_stormBy_150 (by decide) ?_
                obtain ⟨g25, eg25, hf⟩ := x_bind hf
                refine xk_iast (f := g5_now x19) hx hb hK hP (x_addr hD rfl) hS 1 0 eg25 (by decide) rfl rfl dX5_stormBy_154 (fun H locs hP hS => ?_)
                have hP : va_P (dC, dI) vwCl (w5C cs a (g5_thr x19) (g5_acts x19) (g5_typ x19) (g5_lat x19) (g5_pos x19) (g5_wra x19) g25 (g5_put x19) (g5_was x19) (g5_txt x19) (g5_lef x19) (g5_abo x19) (g5_ors x19)) H := hP
                refine xk_iinc (lv' := [(4, .int (iI (l4x + 1))), (5, .int (iI ((10 + (2 * l4x)) + 1))), (0, .ref (a 0)), (2, .int (iI v1)), (3, .int (iI l3))]) hx hb dX5_stormBy_155 hl (k := 4) rfl (by decide) rfl (fun ls hl => ?_)
                refine lv_goto (tgt := 108) hx hb dX5_stormBy_158 (by decide) ?_
                exact ih108 (l4x + 1) (s5_now x19 g25) hf _ _ hP hS ls (lv_sub hl [2, 3, 4, 0] rfl)
              · have hf := c23f c23
                refine xk_iconst hx hb dX5_stormBy_153 ?_
                obtain ⟨g26, eg26, hf⟩ := x_bind hf
                refine xk_iast (f := g5_now x19) hx hb hK hP (x_addr hD rfl) hS 1 0 eg26 (by decide) rfl rfl dX5_stormBy_154 (fun H locs hP hS => ?_)
                have hP : va_P (dC, dI) vwCl (w5C cs a (g5_thr x19) (g5_acts x19) (g5_typ x19) (g5_lat x19) (g5_pos x19) (g5_wra x19) g26 (g5_put x19) (g5_was x19) (g5_txt x19) (g5_lef x19) (g5_abo x19) (g5_ors x19)) H := hP
                refine xk_iinc (lv' := [(4, .int (iI (l4x + 1))), (5, .int (iI ((10 + (2 * l4x)) + 1))), (0, .ref (a 0)), (2, .int (iI v1)), (3, .int (iI l3))]) hx hb dX5_stormBy_155 hl (k := 4) rfl (by decide) rfl (fun ls hl => ?_)
                refine lv_goto (tgt := 108) hx hb dX5_stormBy_158 (by decide) ?_
                exact ih108 (l4x + 1) (s5_now x19 g26) hf _ _ hP hS ls (lv_sub hl [2, 3, 4, 0] rfl)
            · have hf := c21f c21
              refine lv_aload_n hx hb dX5_stormBy_161 rfl (lv_at hl 0 rfl) ?_
              refine va_get (D := (dC, dI)) (ci := 5) (v := .ref (a 1)) (C := RX5) (T := TX5) (N := 13) hx hb hts hin5 hown hK hP 0 rfl rfl 1 (by decide) (hts (.fieldLink RX5 13 "BoatRunsModel" "now" "[I") (by decide +kernel)) (fun _ h9 => h9) rfl dX5_stormBy_162 ?_
              refine xk_bipush hx hb dX5_stormBy_165 (by decide) ?_
              refine xk_iconst hx hb dX5_stormBy_167 ?_
              obtain ⟨g27, eg27, hf⟩ := x_bind hf
              refine xk_iast (f := g5_now x19) hx hb hK hP (x_addr hD rfl) hS 1 0 eg27 (by decide) rfl rfl dX5_stormBy_168 (fun H locs hP hS => ?_)
              have hP : va_P (dC, dI) vwCl (w5C cs a (g5_thr x19) (g5_acts x19) (g5_typ x19) (g5_lat x19) (g5_pos x19) (g5_wra x19) g27 (g5_put x19) (g5_was x19) (g5_txt x19) (g5_lef x19) (g5_abo x19) (g5_ors x19)) H := hP
              refine lv_aload_n hx hb dX5_stormBy_169 rfl (lv_at hl 0 rfl) ?_
              refine va_get (D := (dC, dI)) (ci := 5) (v := .ref (a 1)) (C := RX5) (T := TX5) (N := 13) hx hb hts hin5 hown hK hP 0 rfl rfl 1 (by decide) (hts (.fieldLink RX5 13 "BoatRunsModel" "now" "[I") (by decide +kernel)) (fun _ h9 => h9) rfl dX5_stormBy_170 ?_
              refine xk_iconst hx hb dX5_stormBy_173 ?_
              refine lv_dup2_11 hx hb dX5_stormBy_174 rfl rfl ?_
              obtain ⟨v28, ev28, hf⟩ := x_bind hf
              refine xk_iald (f := g27) hx hb hK hP 1 0 ev28 (by decide) rfl rfl dX5_stormBy_175 ?_
              refine xk_iconst hx hb dX5_stormBy_176 ?_
              refine xk_iadd hx hb dX5_stormBy_177 ?_
              obtain ⟨g29, eg29, hf⟩ := x_bind hf
              refine xk_iast (f := g27) hx hb hK hP (x_addr hD rfl) hS 1 0 eg29 (by decide) rfl rfl dX5_stormBy_178 (fun H locs hP hS => ?_)
              have hP : va_P (dC, dI) vwCl (w5C cs a (g5_thr x19) (g5_acts x19) (g5_typ x19) (g5_lat x19) (g5_pos x19) (g5_wra x19) g29 (g5_put x19) (g5_was x19) (g5_txt x19) (g5_lef x19) (g5_abo x19) (g5_ors x19)) H := hP
              refine lv_aload_n hx hb dX5_stormBy_179 rfl (lv_at hl 0 rfl) ?_
              refine va_get (D := (dC, dI)) (ci := 5) (v := .ref (a 1)) (C := RX5) (T := TX5) (N := 13) hx hb hts hin5 hown hK hP 0 rfl rfl 1 (by decide) (hts (.fieldLink RX5 13 "BoatRunsModel" "now" "[I") (by decide +kernel)) (fun _ h9 => h9) rfl dX5_stormBy_180 ?_
              refine xk_iconst hx hb dX5_stormBy_183 ?_
              refine lv_dup2_11 hx hb dX5_stormBy_184 rfl rfl ?_
              obtain ⟨v30, ev30, hf⟩ := x_bind hf
              refine xk_iald (f := g29) hx hb hK hP 1 0 ev30 (by decide) rfl rfl dX5_stormBy_185 ?_
              refine lv_iload_n hx hb dX5_stormBy_186 rfl (lv_at hl 2 rfl) ?_
              refine xk_iadd hx hb dX5_stormBy_187 ?_
              obtain ⟨g31, eg31, hf⟩ := x_bind hf
              refine xk_iast (f := g29) hx hb hK hP (x_addr hD rfl) hS 1 0 eg31 (by decide) rfl rfl dX5_stormBy_188 (fun H locs hP hS => ?_)
              have hP : va_P (dC, dI) vwCl (w5C cs a (g5_thr x19) (g5_acts x19) (g5_typ x19) (g5_lat x19) (g5_pos x19) (g5_wra x19) g31 (g5_put x19) (g5_was x19) (g5_txt x19) (g5_lef x19) (g5_abo x19) (g5_ors x19)) H := hP
              refine lv_iload_n hx hb dX5_stormBy_189 rfl (lv_at hl 2 rfl) ?_
              obtain rfl := Option.some.inj hf
              exact xe_wi hx hb hr hlocks hS hP dX5_stormBy_190
        exact hL108  xFU 0 x2 hf _ _ hP hS ls (lv_sub hl [1, 3, 4, 0] rfl)
  exact hL13  xFU 0 0 x hf _ _ hP hS ls (lv_sub hl [3, 4, 2, 1, 0] rfl)
theorem cdX5_stormBy : yX5_stormBy.cls = RX5 ∧ yX5_stormBy.cls ≠ "java/lang/invoke/MethodHandle" ∧ yX5_stormBy.cls ≠ "java/lang/invoke/VarHandle" ∧ (parseMethodDescriptor yX5_stormBy.desc).map (fun d => d.parameters.length) = some 1 := by decide +kernel

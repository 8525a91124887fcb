set_option maxHeartbeats 4000000 in
set_option maxRecDepth 100000 in
theorem c5_thrown (l : Launch) (dC : Nat → ClassId) (dI : Nat → Nat → Nat) (cs : Nat → ClassId) (a : Nat → Nat) (x : ModS) (res : Int) (hf : f5_thrown x = some res) : Met l yX5_thrown wsX5_thrown ({ frames := 0, cells := 0, slots := 0, locals := 0 } : Room) (va_Pc [.ref (a 0)] (xPR (dC, dI) vwCl (w5 cs a x) (xT cs))) (vp_Si (fun r => r = iI res)) 0 0 (fun _ => False) := by
  refine Met.ofW (cc := cX5_thrown) (maxL := 1) (ret := (some .int)) (by decide) rfl ?_
  intro p e s m args below meth c s₁ B hml hv
  obtain ⟨rfl, hP, hK⟩ := hv
  have hx := B.exec
  have hb := B.bytes
  have hr := B.returns
  have hts := atoms_spec (ws := wsX5_thrown) B.pre
  have hown : s.vm.findClass RX5 = some m.cls := findClass_of_methodNamed B.named
  have hlocks := B.notSynchronized
  have hin5 : ∀ w ∈ wsX50, w ∈ wsX5_thrown := by decide +kernel
  have hl := lv_entry [.ref (a 0)] (n := 1) (Nat.le_of_ble_eq_true rfl)
  rw [lg_entry_eq]
  generalize (lg_sl [.ref (a 0)] ++ List.replicate (1 - (lg_sl [.ref (a 0)]).length) Slot.unset).toArray = ls at hl ⊢
  have hl : lv_has ls 1 [(0, .ref (a 0))] := hl
  unfold f5_thrown at hf
  refine lv_aload_n hx hb dX5_thrown_0 rfl (lv_at hl 0 rfl) ?_
  refine va_get (D := (dC, dI)) (ci := 5) (v := .int (iI (g5_thr x))) (C := RX5) (T := TX5) (N := 13) hx hb hts hin5 hown hK hP 0 rfl rfl 0 (by decide) (hts (.fieldLink RX5 1 "BoatRunsModel" "thrown" "I") (by decide +kernel)) (fun _ h9 => h9) rfl dX5_thrown_1 ?_
  obtain rfl := Option.some.inj hf
  exact xe_ri hx hb hr hlocks dX5_thrown_4 rfl
theorem cdX5_thrown : yX5_thrown.cls = RX5 ∧ yX5_thrown.cls ≠ "java/lang/invoke/MethodHandle" ∧ yX5_thrown.cls ≠ "java/lang/invoke/VarHandle" ∧ (parseMethodDescriptor yX5_thrown.desc).map (fun d => d.parameters.length) = some 0 := by decide +kernel

set_option maxHeartbeats 4000000 in
set_option maxRecDepth 100000 in
theorem c5_in (l : Launch) (p0 : Int) (p1 : Int) (p2 : Int) (res : Int) (hf : f5_in p0 p1 p2 = some res) : Met l yX5_in wsX5_in ({ frames := 0, cells := 0, slots := 0, locals := 0 } : Room) (va_Pc [.int (iI p0), .int (iI p1), .int (iI p2)] (fun _ => True)) (vp_Si (fun r => r = iI res)) 0 0 (fun _ => False) := by
  refine Met.ofW (cc := cX5_in) (maxL := 3) (ret := (some .boolean)) (by decide) rfl ?_
  intro p e s m args below meth c s₁ B hml hv
  obtain ⟨rfl, -⟩ := hv
  have hx := B.exec
  have hb := B.bytes
  have hr := B.returns
  have hts := atoms_spec (ws := wsX5_in) B.pre
  have hown : s.vm.findClass RX5 = some m.cls := findClass_of_methodNamed B.named
  have hlocks := B.notSynchronized
  have hl := lv_entry [.int (iI p0), .int (iI p1), .int (iI p2)] (n := 3) (Nat.le_of_ble_eq_true rfl)
  rw [lg_entry_eq]
  generalize (lg_sl [.int (iI p0), .int (iI p1), .int (iI p2)] ++ List.replicate (3 - (lg_sl [.int (iI p0), .int (iI p1), .int (iI p2)]).length) Slot.unset).toArray = ls at hl ⊢
  have hl : lv_has ls 3 [(0, .int (iI p0)), (1, .int (iI p1)), (2, .int (iI p2))] := hl
  unfold f5_in at hf
  refine lv_iload_n hx hb dX5_in_0 rfl (lv_at hl 0 rfl) ?_
  refine lv_iload_n hx hb dX5_in_1 rfl (lv_at hl 1 rfl) ?_
  obtain ⟨c1a, c1b, c1t, c1f⟩ := x_ltE hf
  refine xk_icmp_lt (tgt := 14) hx hb c1a c1b dX5_in_2 (by decide) (fun c1 => ?_) (fun c1 => ?_)
  · have hf := c1t c1
    refine xk_iconst hx hb dX5_in_14 ?_
    obtain rfl := Option.some.inj hf
    exact xe_rz hx hb hr (Or.inl rfl) hlocks dX5_in_15 rfl
  · have hf := c1f c1
    refine lv_iload_n hx hb dX5_in_5 rfl (lv_at hl 0 rfl) ?_
    refine lv_iload_n hx hb dX5_in_6 rfl (lv_at hl 2 rfl) ?_
    obtain ⟨c2a, c2b, c2t, c2f⟩ := x_ltE hf
    refine xk_icmp_gt (tgt := 14) hx hb c2b c2a dX5_in_7 (by decide) (fun c2 => ?_) (fun c2 => ?_)
    · have hf := c2t c2
      refine xk_iconst hx hb dX5_in_14 ?_
      obtain rfl := Option.some.inj hf
      exact xe_rz hx hb hr (Or.inl rfl) hlocks dX5_in_15 rfl
    · have hf := c2f c2
      refine xk_iconst hx hb dX5_in_10 ?_
      refine lv_goto (tgt := 15) hx hb dX5_in_11 (by decide) ?_
      obtain rfl := Option.some.inj hf
      exact xe_rz hx hb hr (Or.inr rfl) hlocks dX5_in_15 rfl
theorem cdX5_in : yX5_in.cls ≠ "java/lang/invoke/MethodHandle" ∧ yX5_in.cls ≠ "java/lang/invoke/VarHandle" ∧ (parseMethodDescriptor yX5_in.desc).map (fun d => d.parameters.length) = some 3 := by decide +kernel

set_option maxHeartbeats 4000000 in
set_option maxRecDepth 100000 in
theorem c5_anew (l : Launch) (dC : Nat → ClassId) (dI : Nat → Nat → Nat) (cs : Nat → ClassId) (a : Nat → Nat) (sz : Nat) (x : ModS) (p0 : Int) (res : ModS) (hf : f5_anew x p0 = some res) : Met l yX5_anew wsX5_anew ({ frames := 0, cells := 0, slots := 0, locals := 0 } : Room) (va_Pc [.ref (a 0), .int (iI p0)] (xPW (dC, dI) vwCl (w5 cs a x) (xT cs) sz)) (xQv (dC, dI) vwCl (w5 cs a x) (w5 cs a res) sz) 0 0 (va_A (w5 cs a x) sz) := by
  refine Met.ofW (cc := cX5_anew) (maxL := 3) (ret := none) (by decide) rfl ?_
  intro p e s m args below meth c s₁ B hml hv
  obtain ⟨rfl, hsz, hP, hK, hD0⟩ := hv
  have hx := B.exec
  have hb := B.bytes
  have hr := B.returns
  have hts := atoms_spec (ws := wsX5_anew) B.pre
  have hown : s.vm.findClass RX5 = some m.cls := findClass_of_methodNamed B.named
  have hlocks := B.notSynchronized
  have hin5 : ∀ w ∈ wsX50, w ∈ wsX5_anew := by decide +kernel
  subst hsz
  have hD := hD0.self (sz := s.heap.size)
  have hA : ∀ z9 : Nat, s.heap.size ≤ z9 → va_A (w5 cs a x) s.heap.size z9 := fun z9 h => Or.inr h
  have hS : va_S (va_A (w5 cs a x) s.heap.size) s.heap s.heap [] := va_S.rf
  have hl := lv_entry [.ref (a 0), .int (iI p0)] (n := 3) (Nat.le_of_ble_eq_true rfl)
  rw [lg_entry_eq]
  generalize (lg_sl [.ref (a 0), .int (iI p0)] ++ List.replicate (3 - (lg_sl [.ref (a 0), .int (iI p0)]).length) Slot.unset).toArray = ls at hl ⊢
  have hl : lv_has ls 3 [(0, .ref (a 0)), (1, .int (iI p0))] := hl
  unfold f5_anew at hf
  refine xk_iconst hx hb dX5_anew_0 ?_
  refine lv_istore_n (lv' := [(2, .int (iI 0)), (0, .ref (a 0)), (1, .int (iI p0))]) hx hb dX5_anew_1 rfl hl (by decide) rfl (fun ls hl => ?_)
  have hL2 : ∀ (n2 : Nat) (l2 : Int) (x1 : ModS), f5_anew_L2 p0 n2 l2 x1 = some res → ∀ (H : Heap) (locs : List Loc), va_P (dC, dI) vwCl (w5 cs a x1) H → va_S (va_A (w5 cs a x) s.heap.size) s.heap H locs → ∀ (ls : Array Slot), lv_has ls 3 [(0, .ref (a 0)), (1, .int (iI p0)), (2, .int (iI l2))] → W p l e (headSpec wsX5_anew ({ frames := 0, cells := 0, slots := 0, locals := 0 } : Room)).room s m ([.ref (a 0), .int (iI p0)] : List Value).toArray below meth c H locs 0 0 (MQ below (xQv (dC, dI) vwCl (w5 cs a x) (w5 cs a res) s.heap.size) ([.ref (a 0), .int (iI p0)] : List Value).toArray s 0 0 (va_A (w5 cs a x) s.heap.size)) (F0 m 2 ls []) := by
    intro  n2
    induction n2 with
    | zero => intro l2 x1 hf; have hf : (none : Option (ModS)) = some res := hf; cases hf
    | succ n2 ih2 =>
      intro l2 x1 hf H locs hP hS ls hl
      rw [f5_anew_L2] at hf
      refine lv_iload_n hx hb dX5_anew_2 rfl (lv_at hl 2 rfl) ?_
      refine xk_sipush hx hb dX5_anew_3 (by decide) ?_
      obtain ⟨c3a, c3b, c3t, c3f⟩ := x_ltE hf
      refine xk_icmp_ge (tgt := 22) hx hb c3a c3b dX5_anew_6 (by decide) (fun c3 => ?_) (fun c3 => ?_)
      · have hf := c3t c3
        refine lv_aload_n hx hb dX5_anew_9 rfl (lv_at hl 0 rfl) ?_
        refine va_get (D := (dC, dI)) (ci := 5) (v := .ref (a 1)) (C := RX5) (T := TX5) (N := 13) hx hb hts hin5 hown hK hP 0 rfl rfl 1 (by decide) (hts (.fieldLink RX5 13 "BoatRunsModel" "now" "[I") (by decide +kernel)) (fun _ h9 => h9) rfl dX5_anew_10 ?_
        refine lv_iload_n hx hb dX5_anew_13 rfl (lv_at hl 2 rfl) ?_
        refine xk_iconst hx hb dX5_anew_14 ?_
        obtain ⟨g4, eg4, hf⟩ := x_bind hf
        refine xk_iast (f := g5_now x1) hx hb hK hP (x_addr hD rfl) hS 1 0 eg4 (by decide) rfl rfl dX5_anew_15 (fun H locs hP hS => ?_)
        have hP : va_P (dC, dI) vwCl (w5C cs a (g5_thr x1) (g5_acts x1) (g5_typ x1) (g5_lat x1) (g5_pos x1) (g5_wra x1) g4 (g5_put x1) (g5_was x1) (g5_txt x1) (g5_lef x1) (g5_abo x1) (g5_ors x1)) H := hP
        refine xk_iinc (lv' := [(2, .int (iI (l2 + 1))), (0, .ref (a 0)), (1, .int (iI p0))]) hx hb dX5_anew_16 hl (k := 2) rfl (by decide) rfl (fun ls hl => ?_)
        refine lv_goto (tgt := 2) hx hb dX5_anew_19 (by decide) ?_
        exact ih2 (l2 + 1) (s5_now x1 g4) hf _ _ hP hS ls (lv_sub hl [1, 2, 0] rfl)
      · have hf := c3f c3
        refine lv_aload_n hx hb dX5_anew_22 rfl (lv_at hl 0 rfl) ?_
        refine va_get (D := (dC, dI)) (ci := 5) (v := .ref (a 1)) (C := RX5) (T := TX5) (N := 13) hx hb hts hin5 hown hK hP 0 rfl rfl 1 (by decide) (hts (.fieldLink RX5 13 "BoatRunsModel" "now" "[I") (by decide +kernel)) (fun _ h9 => h9) rfl dX5_anew_23 ?_
        refine xk_iconst hx hb dX5_anew_26 ?_
        refine lv_iload_n hx hb dX5_anew_27 rfl (lv_at hl 1 rfl) ?_
        obtain ⟨g5, eg5, hf⟩ := x_bind hf
        refine xk_iast (f := g5_now x1) hx hb hK hP (x_addr hD rfl) hS 1 0 eg5 (by decide) rfl rfl dX5_anew_28 (fun H locs hP hS => ?_)
        have hP : va_P (dC, dI) vwCl (w5C cs a (g5_thr x1) (g5_acts x1) (g5_typ x1) (g5_lat x1) (g5_pos x1) (g5_wra x1) g5 (g5_put x1) (g5_was x1) (g5_txt x1) (g5_lef x1) (g5_abo x1) (g5_ors x1)) H := hP
        refine lv_aload_n hx hb dX5_anew_29 rfl (lv_at hl 0 rfl) ?_
        refine va_get (D := (dC, dI)) (ci := 5) (v := .ref (a 1)) (C := RX5) (T := TX5) (N := 13) hx hb hts hin5 hown hK hP 0 rfl rfl 1 (by decide) (hts (.fieldLink RX5 13 "BoatRunsModel" "now" "[I") (by decide +kernel)) (fun _ h9 => h9) rfl dX5_anew_30 ?_
        refine xk_bipush hx hb dX5_anew_33 (by decide) ?_
        refine xk_iconst hx hb dX5_anew_35 ?_
        obtain ⟨g6, eg6, hf⟩ := x_bind hf
        refine xk_iast (f := g5) hx hb hK hP (x_addr hD rfl) hS 1 0 eg6 (by decide) rfl rfl dX5_anew_36 (fun H locs hP hS => ?_)
        have hP : va_P (dC, dI) vwCl (w5C cs a (g5_thr x1) (g5_acts x1) (g5_typ x1) (g5_lat x1) (g5_pos x1) (g5_wra x1) g6 (g5_put x1) (g5_was x1) (g5_txt x1) (g5_lef x1) (g5_abo x1) (g5_ors x1)) H := hP
        obtain rfl := Option.some.inj hf
        exact xe_wv hx hb hr hlocks hS hP dX5_anew_37
  exact hL2  xFU 0 x hf _ _ hP hS ls (lv_sub hl [1, 2, 0] rfl)
theorem cdX5_anew : yX5_anew.cls = RX5 ∧ yX5_anew.cls ≠ "java/lang/invoke/MethodHandle" ∧ yX5_anew.cls ≠ "java/lang/invoke/VarHandle" ∧ (parseMethodDescriptor yX5_anew.desc).map (fun d => d.parameters.length) = some 1 := by decide +kernel

set_option maxHeartbeats 4000000 in
set_option maxRecDepth 100000 in
theorem c5_of (l : Launch) (dC : Nat → ClassId) (dI : Nat → Nat → Nat) (cs : Nat → ClassId) (a : Nat → Nat) (x : ModS) (p0 : Int) (p1 : Int) (res : Int) (hf : f5_of x p0 p1 = some res) : Met l yX5_of wsX5_of ({ frames := 0, cells := 0, slots := 0, locals := 0 } : Room) (va_Pc [.ref (a 0), .int (iI p0), .int (iI p1)] (xPR (dC, dI) vwCl (w5 cs a x) (xT cs))) (vp_Si (fun r => r = iI res)) 0 0 (fun _ => False) := by
  refine Met.ofW (cc := cX5_of) (maxL := 3) (ret := (some .int)) (by decide) rfl ?_
  intro p e s m args below meth c s₁ B hml hv
  obtain ⟨rfl, hP, hK⟩ := hv
  have hx := B.exec
  have hb := B.bytes
  have hr := B.returns
  have hts := atoms_spec (ws := wsX5_of) B.pre
  have hown : s.vm.findClass RX5 = some m.cls := findClass_of_methodNamed B.named
  have hlocks := B.notSynchronized
  have hin5 : ∀ w ∈ wsX50, w ∈ wsX5_of := by decide +kernel
  have hl := lv_entry [.ref (a 0), .int (iI p0), .int (iI p1)] (n := 3) (Nat.le_of_ble_eq_true rfl)
  rw [lg_entry_eq]
  generalize (lg_sl [.ref (a 0), .int (iI p0), .int (iI p1)] ++ List.replicate (3 - (lg_sl [.ref (a 0), .int (iI p0), .int (iI p1)]).length) Slot.unset).toArray = ls at hl ⊢
  have hl : lv_has ls 3 [(0, .ref (a 0)), (1, .int (iI p0)), (2, .int (iI p1))] := hl
  unfold f5_of at hf
  refine lv_aload_n hx hb dX5_of_0 rfl (lv_at hl 0 rfl) ?_
  refine va_get (D := (dC, dI)) (ci := 5) (v := .ref (a 1)) (C := RX5) (T := TX5) (N := 13) hx hb hts hin5 hown hK hP 0 rfl rfl 1 (by decide) (hts (.fieldLink RX5 13 "BoatRunsModel" "now" "[I") (by decide +kernel)) (fun _ h9 => h9) rfl dX5_of_1 ?_
  refine xk_sipush hx hb dX5_of_4 (by decide) ?_
  refine xk_iconst hx hb dX5_of_7 ?_
  refine lv_iload_n hx hb dX5_of_8 rfl (lv_at hl 1 rfl) ?_
  refine xk_imul hx hb dX5_of_9 ?_
  refine xk_iadd hx hb dX5_of_10 ?_
  refine lv_iload_n hx hb dX5_of_11 rfl (lv_at hl 2 rfl) ?_
  refine xk_iadd hx hb dX5_of_12 ?_
  obtain ⟨v1, ev1, hf⟩ := x_bind hf
  refine xk_iald (f := g5_now x) hx hb hK hP 1 0 ev1 (by decide) rfl rfl dX5_of_13 ?_
  obtain rfl := Option.some.inj hf
  exact xe_ri hx hb hr hlocks dX5_of_14 rfl
theorem cdX5_of : yX5_of.cls = RX5 ∧ yX5_of.cls ≠ "java/lang/invoke/MethodHandle" ∧ yX5_of.cls ≠ "java/lang/invoke/VarHandle" ∧ (parseMethodDescriptor yX5_of.desc).map (fun d => d.parameters.length) = some 2 := by decide +kernel

set_option maxHeartbeats 4000000 in
set_option maxRecDepth 100000 in
theorem c5_be (l : Launch) (dC : Nat → ClassId) (dI : Nat → Nat → Nat) (cs : Nat → ClassId) (a : Nat → Nat) (sz : Nat) (x : ModS) (p0 : Int) (p1 : Int) (p2 : Int) (res : ModS) (hf : f5_be x p0 p1 p2 = some res) : Met l yX5_be wsX5_be ({ frames := 0, cells := 0, slots := 0, locals := 0 } : Room) (va_Pc [.ref (a 0), .int (iI p0), .int (iI p1), .int (iI p2)] (xPW (dC, dI) vwCl (w5 cs a x) (xT cs) sz)) (xQv (dC, dI) vwCl (w5 cs a x) (w5 cs a res) sz) 0 0 (va_A (w5 cs a x) sz) := by
  refine Met.ofW (cc := cX5_be) (maxL := 4) (ret := none) (by decide) rfl ?_
  intro p e s m args below meth c s₁ B hml hv
  obtain ⟨rfl, hsz, hP, hK, hD0⟩ := hv
  have hx := B.exec
  have hb := B.bytes
  have hr := B.returns
  have hts := atoms_spec (ws := wsX5_be) B.pre
  have hown : s.vm.findClass RX5 = some m.cls := findClass_of_methodNamed B.named
  have hlocks := B.notSynchronized
  have hin5 : ∀ w ∈ wsX50, w ∈ wsX5_be := by decide +kernel
  subst hsz
  have hD := hD0.self (sz := s.heap.size)
  have hA : ∀ z9 : Nat, s.heap.size ≤ z9 → va_A (w5 cs a x) s.heap.size z9 := fun z9 h => Or.inr h
  have hS : va_S (va_A (w5 cs a x) s.heap.size) s.heap s.heap [] := va_S.rf
  have hl := lv_entry [.ref (a 0), .int (iI p0), .int (iI p1), .int (iI p2)] (n := 4) (Nat.le_of_ble_eq_true rfl)
  rw [lg_entry_eq]
  generalize (lg_sl [.ref (a 0), .int (iI p0), .int (iI p1), .int (iI p2)] ++ List.replicate (4 - (lg_sl [.ref (a 0), .int (iI p0), .int (iI p1), .int (iI p2)]).length) Slot.unset).toArray = ls at hl ⊢
  have hl : lv_has ls 4 [(0, .ref (a 0)), (1, .int (iI p0)), (2, .int (iI p1)), (3, .int (iI p2))] := hl
  unfold f5_be at hf
  refine lv_aload_n hx hb dX5_be_0 rfl (lv_at hl 0 rfl) ?_
  refine va_get (D := (dC, dI)) (ci := 5) (v := .ref (a 1)) (C := RX5) (T := TX5) (N := 13) hx hb hts hin5 hown hK hP 0 rfl rfl 1 (by decide) (hts (.fieldLink RX5 13 "BoatRunsModel" "now" "[I") (by decide +kernel)) (fun _ h9 => h9) rfl dX5_be_1 ?_
  refine xk_sipush hx hb dX5_be_4 (by decide) ?_
  refine xk_iconst hx hb dX5_be_7 ?_
  refine lv_iload_n hx hb dX5_be_8 rfl (lv_at hl 1 rfl) ?_
  refine xk_imul hx hb dX5_be_9 ?_
  refine xk_iadd hx hb dX5_be_10 ?_
  refine lv_iload_n hx hb dX5_be_11 rfl (lv_at hl 2 rfl) ?_
  refine xk_iadd hx hb dX5_be_12 ?_
  refine lv_iload_n hx hb dX5_be_13 rfl (lv_at hl 3 rfl) ?_
  obtain ⟨g1, eg1, hf⟩ := x_bind hf
  refine xk_iast (f := g5_now x) hx hb hK hP (x_addr hD rfl) hS 1 0 eg1 (by decide) rfl rfl dX5_be_14 (fun H locs hP hS => ?_)
  have hP : va_P (dC, dI) vwCl (w5C cs a (g5_thr x) (g5_acts x) (g5_typ x) (g5_lat x) (g5_pos x) (g5_wra x) g1 (g5_put x) (g5_was x) (g5_txt x) (g5_lef x) (g5_abo x) (g5_ors x)) H := hP
  obtain rfl := Option.some.inj hf
  exact xe_wv hx hb hr hlocks hS hP dX5_be_15
theorem cdX5_be : yX5_be.cls = RX5 ∧ yX5_be.cls ≠ "java/lang/invoke/MethodHandle" ∧ yX5_be.cls ≠ "java/lang/invoke/VarHandle" ∧ (parseMethodDescriptor yX5_be.desc).map (fun d => d.parameters.length) = some 3 := by decide +kernel

set_option maxHeartbeats 4000000 in
set_option maxRecDepth 100000 in
theorem c5_numberAt (l : Launch) (dC : Nat → ClassId) (dI : Nat → Nat → Nat) (cs : Nat → ClassId) (a : Nat → Nat) (x : ModS) (p0 : Int) (res : Int) (hf : f5_numberAt x p0 = some res) : Met l yX5_numberAt wsX5_numberAt ({ frames := 0, cells := 0, slots := 0, locals := 0 } : Room) (va_Pc [.ref (a 0), .int (iI p0)] (xPR (dC, dI) vwCl (w5 cs a x) (xT cs))) (vp_Si (fun r => r = iI res)) 0 0 (fun _ => False) := by
  refine Met.ofW (cc := cX5_numberAt) (maxL := 2) (ret := (some .int)) (by decide) rfl ?_
  intro p e s m args below meth c s₁ B hml hv
  obtain ⟨rfl, hP, hK⟩ := hv
  have hx := B.exec
  have hb := B.bytes
  have hr := B.returns
  have hts := atoms_spec (ws := wsX5_numberAt) B.pre
  have hown : s.vm.findClass RX5 = some m.cls := findClass_of_methodNamed B.named
  have hlocks := B.notSynchronized
  have hin5 : ∀ w ∈ wsX50, w ∈ wsX5_numberAt := by decide +kernel
  have hl := lv_entry [.ref (a 0), .int (iI p0)] (n := 2) (Nat.le_of_ble_eq_true rfl)
  rw [lg_entry_eq]
  generalize (lg_sl [.ref (a 0), .int (iI p0)] ++ List.replicate (2 - (lg_sl [.ref (a 0), .int (iI p0)]).length) Slot.unset).toArray = ls at hl ⊢
  have hl : lv_has ls 2 [(0, .ref (a 0)), (1, .int (iI p0))] := hl
  unfold f5_numberAt at hf
  refine lv_aload_n hx hb dX5_numberAt_0 rfl (lv_at hl 0 rfl) ?_
  refine va_get (D := (dC, dI)) (ci := 5) (v := .ref (a 1)) (C := RX5) (T := TX5) (N := 13) hx hb hts hin5 hown hK hP 0 rfl rfl 1 (by decide) (hts (.fieldLink RX5 13 "BoatRunsModel" "now" "[I") (by decide +kernel)) (fun _ h9 => h9) rfl dX5_numberAt_1 ?_
  refine xk_bipush hx hb dX5_numberAt_4 (by decide) ?_
  refine xk_iconst hx hb dX5_numberAt_6 ?_
  refine lv_iload_n hx hb dX5_numberAt_7 rfl (lv_at hl 1 rfl) ?_
  refine xk_imul hx hb dX5_numberAt_8 ?_
  refine xk_iadd hx hb dX5_numberAt_9 ?_
  obtain ⟨v1, ev1, hf⟩ := x_bind hf
  refine xk_iald (f := g5_now x) hx hb hK hP 1 0 ev1 (by decide) rfl rfl dX5_numberAt_10 ?_
  obtain rfl := Option.some.inj hf
  exact xe_ri hx hb hr hlocks dX5_numberAt_11 rfl
theorem cdX5_numberAt : yX5_numberAt.cls = RX5 ∧ yX5_numberAt.cls ≠ "java/lang/invoke/MethodHandle" ∧ yX5_numberAt.cls ≠ "java/lang/invoke/VarHandle" ∧ (parseMethodDescriptor yX5_numberAt.desc).map (fun d => d.parameters.length) = some 1 := by decide +kernel

set_option maxHeartbeats 4000000 in
set_option maxRecDepth 100000 in
theorem c5_placeOf (l : Launch) (dC : Nat → ClassId) (dI : Nat → Nat → Nat) (cs : Nat → ClassId) (a : Nat → Nat) (x : ModS) (p0 : Int) (res : Int) (hf : f5_placeOf x p0 = some res) : Met l yX5_placeOf wsX5_placeOf ({ frames := 1, cells := 0, slots := 0, locals := 21 } : Room) (va_Pc [.ref (a 0), .int (iI p0)] (xPR (dC, dI) vwCl (w5 cs a x) (xT cs))) (vp_Si (fun r => r = iI res)) 0 0 (fun _ => False) := by
  refine Met.ofW (cc := cX5_placeOf) (maxL := 3) (ret := (some .int)) (by decide) rfl ?_
  intro p e s m args below meth c s₁ B hml hv
  obtain ⟨rfl, hP, hK⟩ := hv
  have hx := B.exec
  have hb := B.bytes
  have hr := B.returns
  have hts := atoms_spec (ws := wsX5_placeOf) B.pre
  have hown : s.vm.findClass RX5 = some m.cls := findClass_of_methodNamed B.named
  have hlocks := B.notSynchronized
  have hin5 : ∀ w ∈ wsX50, w ∈ wsX5_placeOf := by decide +kernel
  have hl := lv_entry [.ref (a 0), .int (iI p0)] (n := 3) (Nat.le_of_ble_eq_true rfl)
  rw [lg_entry_eq]
  generalize (lg_sl [.ref (a 0), .int (iI p0)] ++ List.replicate (3 - (lg_sl [.ref (a 0), .int (iI p0)]).length) Slot.unset).toArray = ls at hl ⊢
  have hl : lv_has ls 3 [(0, .ref (a 0)), (1, .int (iI p0))] := hl
  unfold f5_placeOf at hf
  refine xk_iconst hx hb dX5_placeOf_0 ?_
  refine lv_istore_n (lv' := [(2, .int (iI 0)), (0, .ref (a 0)), (1, .int (iI p0))]) hx hb dX5_placeOf_1 rfl hl (by decide) rfl (fun ls hl => ?_)
  have hL2 : ∀ (n1 : Nat) (l2 : Int), f5_placeOf_L2 x p0 n1 l2 = some res → ∀ (ls : Array Slot), lv_has ls 3 [(0, .ref (a 0)), (1, .int (iI p0)), (2, .int (iI l2))] → W p l e (headSpec wsX5_placeOf ({ frames := 1, cells := 0, slots := 0, locals := 21 } : Room)).room s m ([.ref (a 0), .int (iI p0)] : List Value).toArray below meth c s.heap [] 0 0 (MQ below (vp_Si (fun r => r = iI res)) ([.ref (a 0), .int (iI p0)] : List Value).toArray s 0 0 (fun _ => False)) (F0 m 2 ls []) := by
    intro  n1
    induction n1 with
    | zero => intro l2 hf; have hf : (none : Option (Int)) = some res := hf; cases hf
    | succ n1 ih2 =>
      intro l2 hf ls hl
      rw [f5_placeOf_L2] at hf
      refine lv_iload_n hx hb dX5_placeOf_2 rfl (lv_at hl 2 rfl) ?_
      refine lv_aload_n hx hb dX5_placeOf_3 rfl (lv_at hl 0 rfl) ?_
      refine va_get (D := (dC, dI)) (ci := 5) (v := .ref (a 1)) (C := RX5) (T := TX5) (N := 13) hx hb hts hin5 hown hK hP 0 rfl rfl 1 (by decide) (hts (.fieldLink RX5 13 "BoatRunsModel" "now" "[I") (by decide +kernel)) (fun _ h9 => h9) rfl dX5_placeOf_4 ?_
      refine xk_bipush hx hb dX5_placeOf_7 (by decide) ?_
      obtain ⟨v2, ev2, hf⟩ := x_bind hf
      refine xk_iald (f := g5_now x) hx hb hK hP 1 0 ev2 (by decide) rfl rfl dX5_placeOf_9 ?_
      obtain ⟨c3a, c3b, c3t, c3f⟩ := x_ltE hf
      refine xk_icmp_ge (tgt := 30) hx hb c3a c3b dX5_placeOf_10 (by decide) (fun c3 => ?_) (fun c3 => ?_)
      · have hf := c3t c3
        refine lv_aload_n hx hb dX5_placeOf_13 rfl (lv_at hl 0 rfl) ?_
        refine lv_iload_n hx hb dX5_placeOf_14 rfl (lv_at hl 2 rfl) ?_
        obtain ⟨v4, ev4, hf⟩ := x_bind hf
        refine xc_ri (As := [.int (iI l2)]) (rest := []) ⟨hx, hb, hml, hown, hts⟩ (c5_numberAt l dC dI cs a x l2  _ ev4) (cwV 1 hts gX5_placeOf_X5_numberAt rfl rfl rfl cdX5_numberAt ⟨Nat.le_of_ble_eq_true rfl, Nat.le_of_ble_eq_true rfl⟩) hK hP [0, 1, 2, 3, 4, 5, 6, 7] rfl 0 rfl rfl rfl hl.1 rfl (Nat.le_of_ble_eq_true rfl) dX5_placeOf_15 ⟨Nat.zero_le _, Nat.zero_le _⟩ ?_
        refine lv_iload_n hx hb dX5_placeOf_18 rfl (lv_at hl 1 rfl) ?_
        obtain ⟨c5a, c5b, c5t, c5f⟩ := x_eqE hf
        refine xk_icmp_ne (tgt := 24) hx hb c5a c5b dX5_placeOf_19 (by decide) (fun c5 => ?_) (fun c5 => ?_)
        · have hf := c5t c5
          refine lv_iload_n hx hb dX5_placeOf_22 rfl (lv_at hl 2 rfl) ?_
          obtain rfl := Option.some.inj hf
          exact xe_ri hx hb hr hlocks dX5_placeOf_23 rfl
        · have hf := c5f c5
          refine xk_iinc (lv' := [(2, .int (iI (l2 + 1))), (0, .ref (a 0)), (1, .int (iI p0))]) hx hb dX5_placeOf_24 hl (k := 2) rfl (by decide) rfl (fun ls hl => ?_)
          refine lv_goto (tgt := 2) hx hb dX5_placeOf_27 (by decide) ?_
          exact ih2 (l2 + 1) hf ls (lv_sub hl [1, 2, 0] rfl)
      · have hf := c3f c3
        refine xk_iconst hx hb dX5_placeOf_30 ?_
        obtain rfl := Option.some.inj hf
        exact xe_ri hx hb hr hlocks dX5_placeOf_31 rfl
  exact hL2  xFU 0 hf ls (lv_sub hl [1, 2, 0] rfl)
theorem cdX5_placeOf : yX5_placeOf.cls = RX5 ∧ yX5_placeOf.cls ≠ "java/lang/invoke/MethodHandle" ∧ yX5_placeOf.cls ≠ "java/lang/invoke/VarHandle" ∧ (parseMethodDescriptor yX5_placeOf.desc).map (fun d => d.parameters.length) = some 1 := by decide +kernel

set_option maxHeartbeats 4000000 in
set_option maxRecDepth 100000 in
theorem c5_isLess (l : Launch) (dC : Nat → ClassId) (dI : Nat → Nat → Nat) (cs : Nat → ClassId) (a : Nat → Nat) (x : ModS) (p0 : Int) (p1 : Int) (res : Int) (hf : f5_isLess x p0 p1 = some res) : Met l yX5_isLess wsX5_isLess ({ frames := 1, cells := 0, slots := 0, locals := 22 } : Room) (va_Pc [.ref (a 0), .int (iI p0), .int (iI p1)] (xPR (dC, dI) vwCl (w5 cs a x) (xT cs))) (vp_Si (fun r => r = iI res)) 0 0 (fun _ => False) := by
  refine Met.ofW (cc := cX5_isLess) (maxL := 3) (ret := (some .boolean)) (by decide) rfl ?_
  intro p e s m args below meth c s₁ B hml hv
  obtain ⟨rfl, hP, hK⟩ := hv
  have hx := B.exec
  have hb := B.bytes
  have hr := B.returns
  have hts := atoms_spec (ws := wsX5_isLess) B.pre
  have hown : s.vm.findClass RX5 = some m.cls := findClass_of_methodNamed B.named
  have hlocks := B.notSynchronized
  have hl := lv_entry [.ref (a 0), .int (iI p0), .int (iI p1)] (n := 3) (Nat.le_of_ble_eq_true rfl)
  rw [lg_entry_eq]
  generalize (lg_sl [.ref (a 0), .int (iI p0), .int (iI p1)] ++ List.replicate (3 - (lg_sl [.ref (a 0), .int (iI p0), .int (iI p1)]).length) Slot.unset).toArray = ls at hl ⊢
  have hl : lv_has ls 3 [(0, .ref (a 0)), (1, .int (iI p0)), (2, .int (iI p1))] := hl
  unfold f5_isLess at hf
  refine lv_aload_n hx hb dX5_isLess_0 rfl (lv_at hl 0 rfl) ?_
  refine lv_iload_n hx hb dX5_isLess_1 rfl (lv_at hl 1 rfl) ?_
  refine xk_iconst hx hb dX5_isLess_2 ?_
  obtain ⟨v1, ev1, hf⟩ := x_bind hf
  refine xc_ri (As := [.int (iI p0), .int (iI 0)]) (rest := []) ⟨hx, hb, hml, hown, hts⟩ (c5_of l dC dI cs a x p0 0  _ ev1) (cwV 2 hts gX5_isLess_X5_of rfl rfl rfl cdX5_of ⟨Nat.le_of_ble_eq_true rfl, Nat.le_of_ble_eq_true rfl⟩) hK hP [0, 1, 2, 3, 4, 5, 6, 7] rfl 0 rfl rfl rfl hl.1 rfl (Nat.le_of_ble_eq_true rfl) dX5_isLess_3 ⟨Nat.zero_le _, Nat.zero_le _⟩ ?_
  refine lv_aload_n hx hb dX5_isLess_6 rfl (lv_at hl 0 rfl) ?_
  refine lv_iload_n hx hb dX5_isLess_7 rfl (lv_at hl 2 rfl) ?_
  refine xk_iconst hx hb dX5_isLess_8 ?_
  obtain ⟨v2, ev2, hf⟩ := x_bind hf
  refine xc_ri (As := [.int (iI p1), .int (iI 0)]) (rest := [.int (iI v1)]) ⟨hx, hb, hml, hown, hts⟩ (c5_of l dC dI cs a x p1 0  _ ev2) (cwV 2 hts gX5_isLess_X5_of rfl rfl rfl cdX5_of ⟨Nat.le_of_ble_eq_true rfl, Nat.le_of_ble_eq_true rfl⟩) hK hP [0, 1, 2, 3, 4, 5, 6, 7] rfl 0 rfl rfl rfl hl.1 rfl (Nat.le_of_ble_eq_true rfl) dX5_isLess_9 ⟨Nat.zero_le _, Nat.zero_le _⟩ ?_
  obtain ⟨c3a, c3b, c3t, c3f⟩ := x_ltE hf
  refine xk_icmp_lt (tgt := 35) hx hb c3a c3b dX5_isLess_12 (by decide) (fun c3 => ?_) (fun c3 => ?_)
  · have hf := c3t c3
    refine xk_iconst hx hb dX5_isLess_35 ?_
    refine lv_goto (tgt := 40) hx hb dX5_isLess_36 (by decide) ?_
    obtain rfl := Option.some.inj hf
    exact xe_rz hx hb hr (Or.inr rfl) hlocks dX5_isLess_40 rfl
  · have hf := c3f c3
    refine lv_aload_n hx hb dX5_isLess_15 rfl (lv_at hl 0 rfl) ?_
    refine lv_iload_n hx hb dX5_isLess_16 rfl (lv_at hl 1 rfl) ?_
    refine xk_iconst hx hb dX5_isLess_17 ?_
    obtain ⟨v4, ev4, hf⟩ := x_bind hf
    refine xc_ri (As := [.int (iI p0), .int (iI 0)]) (rest := []) ⟨hx, hb, hml, hown, hts⟩ (c5_of l dC dI cs a x p0 0  _ ev4) (cwV 2 hts gX5_isLess_X5_of rfl rfl rfl cdX5_of ⟨Nat.le_of_ble_eq_true rfl, Nat.le_of_ble_eq_true rfl⟩) hK hP [0, 1, 2, 3, 4, 5, 6, 7] rfl 0 rfl rfl rfl hl.1 rfl (Nat.le_of_ble_eq_true rfl) dX5_isLess_18 ⟨Nat.zero_le _, Nat.zero_le _⟩ ?_
    refine lv_aload_n hx hb dX5_isLess_21 rfl (lv_at hl 0 rfl) ?_
    refine lv_iload_n hx hb dX5_isLess_22 rfl (lv_at hl 2 rfl) ?_
    refine xk_iconst hx hb dX5_isLess_23 ?_
    obtain ⟨v5, ev5, hf⟩ := x_bind hf
    refine xc_ri (As := [.int (iI p1), .int (iI 0)]) (rest := [.int (iI v4)]) ⟨hx, hb, hml, hown, hts⟩ (c5_of l dC dI cs a x p1 0  _ ev5) (cwV 2 hts gX5_isLess_X5_of rfl rfl rfl cdX5_of ⟨Nat.le_of_ble_eq_true rfl, Nat.le_of_ble_eq_true rfl⟩) hK hP [0, 1, 2, 3, 4, 5, 6, 7] rfl 0 rfl rfl rfl hl.1 rfl (Nat.le_of_ble_eq_true rfl) dX5_isLess_24 ⟨Nat.zero_le _, Nat.zero_le _⟩ ?_
    obtain ⟨c6a, c6b, c6t, c6f⟩ := x_eqE hf
    refine xk_icmp_ne (tgt := 39) hx hb c6a c6b dX5_isLess_27 (by decide) (fun c6 => ?_) (fun c6 => ?_)
    · have hf := c6t c6
      refine lv_iload_n hx hb dX5_isLess_30 rfl (lv_at hl 1 rfl) ?_
      refine lv_iload_n hx hb dX5_isLess_31 rfl (lv_at hl 2 rfl) ?_
      obtain ⟨c7a, c7b, c7t, c7f⟩ := x_ltE hf
      refine xk_icmp_ge (tgt := 39) hx hb c7a c7b dX5_isLess_32 (by decide) (fun c7 => ?_) (fun c7 => ?_)
      · have hf := c7t c7
        refine xk_iconst hx hb dX5_isLess_35 ?_
        refine lv_goto (tgt := 40) hx hb dX5_isLess_36 (by decide) ?_
        obtain rfl := Option.some.inj hf
        exact xe_rz hx hb hr (Or.inr rfl) hlocks dX5_isLess_40 rfl
      · have hf := c7f c7
        refine xk_iconst hx hb dX5_isLess_39 ?_
        obtain rfl := Option.some.inj hf
        exact xe_rz hx hb hr (Or.inl rfl) hlocks dX5_isLess_40 rfl
    · have hf := c6f c6
      refine xk_iconst hx hb dX5_isLess_39 ?_
      obtain rfl := Option.some.inj hf
      exact xe_rz hx hb hr (Or.inl rfl) hlocks dX5_isLess_40 rfl
theorem cdX5_isLess : yX5_isLess.cls = RX5 ∧ yX5_isLess.cls ≠ "java/lang/invoke/MethodHandle" ∧ yX5_isLess.cls ≠ "java/lang/invoke/VarHandle" ∧ (parseMethodDescriptor yX5_isLess.desc).map (fun d => d.parameters.length) = some 2 := by decide +kernel

set_option maxHeartbeats 4000000 in
set_option maxRecDepth 100000 in
theorem c5_isOf (l : Launch) (dC : Nat → ClassId) (dI : Nat → Nat → Nat) (cs : Nat → ClassId) (a : Nat → Nat) (x : ModS) (p0 : Int) (p1 : Int) (res : Int) (hf : f5_isOf x p0 p1 = some res) : Met l yX5_isOf wsX5_isOf ({ frames := 1, cells := 0, slots := 0, locals := 22 } : Room) (va_Pc [.ref (a 0), .int (iI p0), .int (iI p1)] (xPR (dC, dI) vwCl (w5 cs a x) (xT cs))) (vp_Si (fun r => r = iI res)) 0 0 (fun _ => False) := by
  refine Met.ofW (cc := cX5_isOf) (maxL := 3) (ret := (some .boolean)) (by decide) rfl ?_
  intro p e s m args below meth c s₁ B hml hv
  obtain ⟨rfl, hP, hK⟩ := hv
  have hx := B.exec
  have hb := B.bytes
  have hr := B.returns
  have hts := atoms_spec (ws := wsX5_isOf) B.pre
  have hown : s.vm.findClass RX5 = some m.cls := findClass_of_methodNamed B.named
  have hlocks := B.notSynchronized
  have hl := lv_entry [.ref (a 0), .int (iI p0), .int (iI p1)] (n := 3) (Nat.le_of_ble_eq_true rfl)
  rw [lg_entry_eq]
  generalize (lg_sl [.ref (a 0), .int (iI p0), .int (iI p1)] ++ List.replicate (3 - (lg_sl [.ref (a 0), .int (iI p0), .int (iI p1)]).length) Slot.unset).toArray = ls at hl ⊢
  have hl : lv_has ls 3 [(0, .ref (a 0)), (1, .int (iI p0)), (2, .int (iI p1))] := hl
  unfold f5_isOf at hf
  refine lv_aload_n hx hb dX5_isOf_0 rfl (lv_at hl 0 rfl) ?_
  refine lv_iload_n hx hb dX5_isOf_1 rfl (lv_at hl 1 rfl) ?_
  refine xk_iconst hx hb dX5_isOf_2 ?_
  obtain ⟨v1, ev1, hf⟩ := x_bind hf
  refine xc_ri (As := [.int (iI p0), .int (iI 2)]) (rest := []) ⟨hx, hb, hml, hown, hts⟩ (c5_of l dC dI cs a x p0 2  _ ev1) (cwV 2 hts gX5_isOf_X5_of rfl rfl rfl cdX5_of ⟨Nat.le_of_ble_eq_true rfl, Nat.le_of_ble_eq_true rfl⟩) hK hP [0, 1, 2, 3, 4, 5, 6, 7] rfl 0 rfl rfl rfl hl.1 rfl (Nat.le_of_ble_eq_true rfl) dX5_isOf_3 ⟨Nat.zero_le _, Nat.zero_le _⟩ ?_
  refine xk_iconst hx hb dX5_isOf_6 ?_
  obtain ⟨c2a, c2b, c2t, c2f⟩ := x_eqE hf
  refine xk_icmp_ne (tgt := 24) hx hb c2a c2b dX5_isOf_7 (by decide) (fun c2 => ?_) (fun c2 => ?_)
  · have hf := c2t c2
    refine lv_aload_n hx hb dX5_isOf_10 rfl (lv_at hl 0 rfl) ?_
    refine lv_iload_n hx hb dX5_isOf_11 rfl (lv_at hl 1 rfl) ?_
    refine xk_iconst hx hb dX5_isOf_12 ?_
    obtain ⟨v3, ev3, hf⟩ := x_bind hf
    refine xc_ri (As := [.int (iI p0), .int (iI 3)]) (rest := []) ⟨hx, hb, hml, hown, hts⟩ (c5_of l dC dI cs a x p0 3  _ ev3) (cwV 2 hts gX5_isOf_X5_of rfl rfl rfl cdX5_of ⟨Nat.le_of_ble_eq_true rfl, Nat.le_of_ble_eq_true rfl⟩) hK hP [0, 1, 2, 3, 4, 5, 6, 7] rfl 0 rfl rfl rfl hl.1 rfl (Nat.le_of_ble_eq_true rfl) dX5_isOf_13 ⟨Nat.zero_le _, Nat.zero_le _⟩ ?_
    refine lv_iload_n hx hb dX5_isOf_16 rfl (lv_at hl 2 rfl) ?_
    obtain ⟨c4a, c4b, c4t, c4f⟩ := x_eqE hf
    refine xk_icmp_ne (tgt := 24) hx hb c4a c4b dX5_isOf_17 (by decide) (fun c4 => ?_) (fun c4 => ?_)
    · have hf := c4t c4
      refine xk_iconst hx hb dX5_isOf_20 ?_
      refine lv_goto (tgt := 25) hx hb dX5_isOf_21 (by decide) ?_
      obtain rfl := Option.some.inj hf
      exact xe_rz hx hb hr (Or.inr rfl) hlocks dX5_isOf_25 rfl
    · have hf := c4f c4
      refine xk_iconst hx hb dX5_isOf_24 ?_
      obtain rfl := Option.some.inj hf
      exact xe_rz hx hb hr (Or.inl rfl) hlocks dX5_isOf_25 rfl
  · have hf := c2f c2
    refine xk_iconst hx hb dX5_isOf_24 ?_
    obtain rfl := Option.some.inj hf
    exact xe_rz hx hb hr (Or.inl rfl) hlocks dX5_isOf_25 rfl
theorem cdX5_isOf : yX5_isOf.cls = RX5 ∧ yX5_isOf.cls ≠ "java/lang/invoke/MethodHandle" ∧ yX5_isOf.cls ≠ "java/lang/invoke/VarHandle" ∧ (parseMethodDescriptor yX5_isOf.desc).map (fun d => d.parameters.length) = some 2 := by decide +kernel

set_option maxHeartbeats 4000000 in
set_option maxRecDepth 100000 in
theorem c5_many (l : Launch) (dC : Nat → ClassId) (dI : Nat → Nat → Nat) (cs : Nat → ClassId) (a : Nat → Nat) (x : ModS) (p0 : Int) (res : Int) (hf : f5_many x p0 = some res) : Met l yX5_many wsX5_many ({ frames := 1, cells := 0, slots := 0, locals := 22 } : Room) (va_Pc [.ref (a 0), .int (iI p0)] (xPR (dC, dI) vwCl (w5 cs a x) (xT cs))) (vp_Si (fun r => r = iI res)) 0 0 (fun _ => False) := by
  refine Met.ofW (cc := cX5_many) (maxL := 4) (ret := (some .int)) (by decide) rfl ?_
  intro p e s m args below meth c s₁ B hml hv
  obtain ⟨rfl, hP, hK⟩ := hv
  have hx := B.exec
  have hb := B.bytes
  have hr := B.returns
  have hts := atoms_spec (ws := wsX5_many) B.pre
  have hown : s.vm.findClass RX5 = some m.cls := findClass_of_methodNamed B.named
  have hlocks := B.notSynchronized
  have hin5 : ∀ w ∈ wsX50, w ∈ wsX5_many := by decide +kernel
  have hl := lv_entry [.ref (a 0), .int (iI p0)] (n := 4) (Nat.le_of_ble_eq_true rfl)
  rw [lg_entry_eq]
  generalize (lg_sl [.ref (a 0), .int (iI p0)] ++ List.replicate (4 - (lg_sl [.ref (a 0), .int (iI p0)]).length) Slot.unset).toArray = ls at hl ⊢
  have hl : lv_has ls 4 [(0, .ref (a 0)), (1, .int (iI p0))] := hl
  unfold f5_many at hf
  refine xk_iconst hx hb dX5_many_0 ?_
  refine lv_istore_n (lv' := [(2, .int (iI 0)), (0, .ref (a 0)), (1, .int (iI p0))]) hx hb dX5_many_1 rfl hl (by decide) rfl (fun ls hl => ?_)
  refine xk_iconst hx hb dX5_many_2 ?_
  refine lv_istore_n (lv' := [(3, .int (iI 0)), (2, .int (iI 0)), (0, .ref (a 0)), (1, .int (iI p0))]) hx hb dX5_many_3 rfl hl (by decide) rfl (fun ls hl => ?_)
  have hL4 : ∀ (n1 : Nat) (l2 : Int) (l3 : Int), f5_many_L4 x p0 n1 l2 l3 = some res → ∀ (ls : Array Slot), lv_has ls 4 [(0, .ref (a 0)), (1, .int (iI p0)), (2, .int (iI l2)), (3, .int (iI l3))] → W p l e (headSpec wsX5_many ({ frames := 1, cells := 0, slots := 0, locals := 22 } : Room)).room s m ([.ref (a 0), .int (iI p0)] : List Value).toArray below meth c s.heap [] 0 0 (MQ below (vp_Si (fun r => r = iI res)) ([.ref (a 0), .int (iI p0)] : List Value).toArray s 0 0 (fun _ => False)) (F0 m 4 ls []) := by
    intro  n1
    induction n1 with
    | zero => intro l2 l3 hf; have hf : (none : Option (Int)) = some res := hf; cases hf
    | succ n1 ih4 =>
      intro l2 l3 hf ls hl
      rw [f5_many_L4] at hf
      refine lv_iload_n hx hb dX5_many_4 rfl (lv_at hl 3 rfl) ?_
      refine lv_aload_n hx hb dX5_many_5 rfl (lv_at hl 0 rfl) ?_
      refine va_get (D := (dC, dI)) (ci := 5) (v := .ref (a 1)) (C := RX5) (T := TX5) (N := 13) hx hb hts hin5 hown hK hP 0 rfl rfl 1 (by decide) (hts (.fieldLink RX5 13 "BoatRunsModel" "now" "[I") (by decide +kernel)) (fun _ h9 => h9) rfl dX5_many_6 ?_
      refine xk_iconst hx hb dX5_many_9 ?_
      obtain ⟨v2, ev2, hf⟩ := x_bind hf
      refine xk_iald (f := g5_now x) hx hb hK hP 1 0 ev2 (by decide) rfl rfl dX5_many_10 ?_
      obtain ⟨c3a, c3b, c3t, c3f⟩ := x_ltE hf
      refine xk_icmp_ge (tgt := 38) hx hb c3a c3b dX5_many_11 (by decide) (fun c3 => ?_) (fun c3 => ?_)
      · have hf := c3t c3
        refine lv_iload_n hx hb dX5_many_14 rfl (lv_at hl 2 rfl) ?_
        refine lv_aload_n hx hb dX5_many_15 rfl (lv_at hl 0 rfl) ?_
        refine lv_iload_n hx hb dX5_many_16 rfl (lv_at hl 3 rfl) ?_
        refine xk_iconst hx hb dX5_many_17 ?_
        obtain ⟨v4, ev4, hf⟩ := x_bind hf
        refine xc_ri (As := [.int (iI l3), .int (iI 2)]) (rest := [.int (iI l2)]) ⟨hx, hb, hml, hown, hts⟩ (c5_of l dC dI cs a x l3 2  _ ev4) (cwV 2 hts gX5_many_X5_of rfl rfl rfl cdX5_of ⟨Nat.le_of_ble_eq_true rfl, Nat.le_of_ble_eq_true rfl⟩) hK hP [0, 1, 2, 3, 4, 5, 6, 7] rfl 0 rfl rfl rfl hl.1 rfl (Nat.le_of_ble_eq_true rfl) dX5_many_18 ⟨Nat.zero_le _, Nat.zero_le _⟩ ?_
        refine lv_iload_n hx hb dX5_many_21 rfl (lv_at hl 1 rfl) ?_
        obtain ⟨c5a, c5b, c5t, c5f⟩ := x_eqE hf
        refine xk_icmp_ne (tgt := 29) hx hb c5a c5b dX5_many_22 (by decide) (fun c5 => ?_) (fun c5 => ?_)
        · have hf := c5t c5
          refine xk_iconst hx hb dX5_many_25 ?_
          refine lv_goto (tgt := 30) hx hb dX5_many_26 (by decide) ?_
          refine xk_iadd hx hb dX5_many_30 ?_
          refine lv_istore_n (lv' := [(2, .int (iI (l2 + 1))), (0, .ref (a 0)), (1, .int (iI p0)), (3, .int (iI l3))]) hx hb dX5_many_31 rfl hl (by decide) rfl (fun ls hl => ?_)
          refine xk_iinc (lv' := [(3, .int (iI (l3 + 1))), (2, .int (iI (l2 + 1))), (0, .ref (a 0)), (1, .int (iI p0))]) hx hb dX5_many_32 hl (k := 3) rfl (by decide) rfl (fun ls hl => ?_)
          refine lv_goto (tgt := 4) hx hb dX5_many_35 (by decide) ?_
          exact ih4 (l2 + 1) (l3 + 1) hf ls (lv_sub hl [2, 3, 1, 0] rfl)
        · have hf := c5f c5
          refine xk_iconst hx hb dX5_many_29 ?_
          refine xk_iadd hx hb dX5_many_30 ?_
          refine lv_istore_n (lv' := [(2, .int (iI (l2 + 0))), (0, .ref (a 0)), (1, .int (iI p0)), (3, .int (iI l3))]) hx hb dX5_many_31 rfl hl (by decide) rfl (fun ls hl => ?_)
          refine xk_iinc (lv' := [(3, .int (iI (l3 + 1))), (2, .int (iI (l2 + 0))), (0, .ref (a 0)), (1, .int (iI p0))]) hx hb dX5_many_32 hl (k := 3) rfl (by decide) rfl (fun ls hl => ?_)
          refine lv_goto (tgt := 4) hx hb dX5_many_35 (by decide) ?_
          exact ih4 (l2 + 0) (l3 + 1) hf ls (lv_sub hl [2, 3, 1, 0] rfl)
      · have hf := c3f c3
        refine lv_iload_n hx hb dX5_many_38 rfl (lv_at hl 2 rfl) ?_
        obtain rfl := Option.some.inj hf
        exact xe_ri hx hb hr hlocks dX5_many_39 rfl
  exact hL4  xFU 0 0 hf ls (lv_sub hl [2, 3, 1, 0] rfl)
theorem cdX5_many : yX5_many.cls = RX5 ∧ yX5_many.cls ≠ "java/lang/invoke/MethodHandle" ∧ yX5_many.cls ≠ "java/lang/invoke/VarHandle" ∧ (parseMethodDescriptor yX5_many.desc).map (fun d => d.parameters.length) = some 1 := by decide +kernel

set_option maxHeartbeats 4000000 in
set_option maxRecDepth 100000 in
theorem c5_manyOf (l : Launch) (dC : Nat → ClassId) (dI : Nat → Nat → Nat) (cs : Nat → ClassId) (a : Nat → Nat) (x : ModS) (p0 : Int) (res : Int) (hf : f5_manyOf x p0 = some res) : Met l yX5_manyOf wsX5_manyOf ({ frames := 2, cells := 0, slots := 0, locals := 44 } : Room) (va_Pc [.ref (a 0), .int (iI p0)] (xPR (dC, dI) vwCl (w5 cs a x) (xT cs))) (vp_Si (fun r => r = iI res)) 0 0 (fun _ => False) := by
  refine Met.ofW (cc := cX5_manyOf) (maxL := 4) (ret := (some .int)) (by decide) rfl ?_
  intro p e s m args below meth c s₁ B hml hv
  obtain ⟨rfl, hP, hK⟩ := hv
  have hx := B.exec
  have hb := B.bytes
  have hr := B.returns
  have hts := atoms_spec (ws := wsX5_manyOf) B.pre
  have hown : s.vm.findClass RX5 = some m.cls := findClass_of_methodNamed B.named
  have hlocks := B.notSynchronized
  have hin5 : ∀ w ∈ wsX50, w ∈ wsX5_manyOf := by decide +kernel
  have hl := lv_entry [.ref (a 0), .int (iI p0)] (n := 4) (Nat.le_of_ble_eq_true rfl)
  rw [lg_entry_eq]
  generalize (lg_sl [.ref (a 0), .int (iI p0)] ++ List.replicate (4 - (lg_sl [.ref (a 0), .int (iI p0)]).length) Slot.unset).toArray = ls at hl ⊢
  have hl : lv_has ls 4 [(0, .ref (a 0)), (1, .int (iI p0))] := hl
  unfold f5_manyOf at hf
  refine xk_iconst hx hb dX5_manyOf_0 ?_
  refine lv_istore_n (lv' := [(2, .int (iI 0)), (0, .ref (a 0)), (1, .int (iI p0))]) hx hb dX5_manyOf_1 rfl hl (by decide) rfl (fun ls hl => ?_)
  refine xk_iconst hx hb dX5_manyOf_2 ?_
  refine lv_istore_n (lv' := [(3, .int (iI 0)), (2, .int (iI 0)), (0, .ref (a 0)), (1, .int (iI p0))]) hx hb dX5_manyOf_3 rfl hl (by decide) rfl (fun ls hl => ?_)
  have hL4 : ∀ (n1 : Nat) (l2 : Int) (l3 : Int), f5_manyOf_L4 x p0 n1 l2 l3 = some res → ∀ (ls : Array Slot), lv_has ls 4 [(0, .ref (a 0)), (1, .int (iI p0)), (2, .int (iI l2)), (3, .int (iI l3))] → W p l e (headSpec wsX5_manyOf ({ frames := 2, cells := 0, slots := 0, locals := 44 } : Room)).room s m ([.ref (a 0), .int (iI p0)] : List Value).toArray below meth c s.heap [] 0 0 (MQ below (vp_Si (fun r => r = iI res)) ([.ref (a 0), .int (iI p0)] : List Value).toArray s 0 0 (fun _ => False)) (F0 m 4 ls []) := by
    intro  n1
    induction n1 with
    | zero => intro l2 l3 hf; have hf : (none : Option (Int)) = some res := hf; cases hf
    | succ n1 ih4 =>
      intro l2 l3 hf ls hl
      rw [f5_manyOf_L4] at hf
      refine lv_iload_n hx hb dX5_manyOf_4 rfl (lv_at hl 3 rfl) ?_
      refine lv_aload_n hx hb dX5_manyOf_5 rfl (lv_at hl 0 rfl) ?_
      refine va_get (D := (dC, dI)) (ci := 5) (v := .ref (a 1)) (C := RX5) (T := TX5) (N := 13) hx hb hts hin5 hown hK hP 0 rfl rfl 1 (by decide) (hts (.fieldLink RX5 13 "BoatRunsModel" "now" "[I") (by decide +kernel)) (fun _ h9 => h9) rfl dX5_manyOf_6 ?_
      refine xk_iconst hx hb dX5_manyOf_9 ?_
      obtain ⟨v2, ev2, hf⟩ := x_bind hf
      refine xk_iald (f := g5_now x) hx hb hK hP 1 0 ev2 (by decide) rfl rfl dX5_manyOf_10 ?_
      obtain ⟨c3a, c3b, c3t, c3f⟩ := x_ltE hf
      refine xk_icmp_ge (tgt := 37) hx hb c3a c3b dX5_manyOf_11 (by decide) (fun c3 => ?_) (fun c3 => ?_)
      · have hf := c3t c3
        refine lv_iload_n hx hb dX5_manyOf_14 rfl (lv_at hl 2 rfl) ?_
        refine lv_aload_n hx hb dX5_manyOf_15 rfl (lv_at hl 0 rfl) ?_
        refine lv_iload_n hx hb dX5_manyOf_16 rfl (lv_at hl 3 rfl) ?_
        refine lv_iload_n hx hb dX5_manyOf_17 rfl (lv_at hl 1 rfl) ?_
        obtain ⟨v4, ev4, hf⟩ := x_bind hf
        refine xc_ri (As := [.int (iI l3), .int (iI p0)]) (rest := [.int (iI l2)]) ⟨hx, hb, hml, hown, hts⟩ (c5_isOf l dC dI cs a x l3 p0  _ ev4) (cwV 2 hts gX5_manyOf_X5_isOf rfl rfl rfl cdX5_isOf ⟨Nat.le_of_ble_eq_true rfl, Nat.le_of_ble_eq_true rfl⟩) hK hP [0, 1, 2, 3, 4, 5, 6, 7] rfl 0 rfl rfl rfl hl.1 rfl (Nat.le_of_ble_eq_true rfl) dX5_manyOf_18 ⟨Nat.zero_le _, Nat.zero_le _⟩ ?_
        obtain ⟨c5a, c5b, c5t, c5f⟩ := x_eqE hf
        refine xk_if_eq (tgt := 28) hx hb c5a dX5_manyOf_21 (by decide) (fun c5 => ?_) (fun c5 => ?_)
        · have hf := c5t c5
          refine xk_iconst hx hb dX5_manyOf_28 ?_
          refine xk_iadd hx hb dX5_manyOf_29 ?_
          refine lv_istore_n (lv' := [(2, .int (iI (l2 + 0))), (0, .ref (a 0)), (1, .int (iI p0)), (3, .int (iI l3))]) hx hb dX5_manyOf_30 rfl hl (by decide) rfl (fun ls hl => ?_)
          refine xk_iinc (lv' := [(3, .int (iI (l3 + 1))), (2, .int (iI (l2 + 0))), (0, .ref (a 0)), (1, .int (iI p0))]) hx hb dX5_manyOf_31 hl (k := 3) rfl (by decide) rfl (fun ls hl => ?_)
          refine lv_goto (tgt := 4) hx hb dX5_manyOf_34 (by decide) ?_
          exact ih4 (l2 + 0) (l3 + 1) hf ls (lv_sub hl [2, 3, 1, 0] rfl)
        · have hf := c5f c5
          refine xk_iconst hx hb dX5_manyOf_24 ?_
          refine lv_goto (tgt := 29) hx hb dX5_manyOf_25 (by decide) ?_
          refine xk_iadd hx hb dX5_manyOf_29 ?_
          refine lv_istore_n (lv' := [(2, .int (iI (l2 + 1))), (0, .ref (a 0)), (1, .int (iI p0)), (3, .int (iI l3))]) hx hb dX5_manyOf_30 rfl hl (by decide) rfl (fun ls hl => ?_)
          refine xk_iinc (lv' := [(3, .int (iI (l3 + 1))), (2, .int (iI (l2 + 1))), (0, .ref (a 0)), (1, .int (iI p0))]) hx hb dX5_manyOf_31 hl (k := 3) rfl (by decide) rfl (fun ls hl => ?_)
          refine lv_goto (tgt := 4) hx hb dX5_manyOf_34 (by decide) ?_
          exact ih4 (l2 + 1) (l3 + 1) hf ls (lv_sub hl [2, 3, 1, 0] rfl)
      · have hf := c3f c3
        refine lv_iload_n hx hb dX5_manyOf_37 rfl (lv_at hl 2 rfl) ?_
        obtain rfl := Option.some.inj hf
        exact xe_ri hx hb hr hlocks dX5_manyOf_38 rfl
  exact hL4  xFU 0 0 hf ls (lv_sub hl [2, 3, 1, 0] rfl)
theorem cdX5_manyOf : yX5_manyOf.cls = RX5 ∧ yX5_manyOf.cls ≠ "java/lang/invoke/MethodHandle" ∧ yX5_manyOf.cls ≠ "java/lang/invoke/VarHandle" ∧ (parseMethodDescriptor yX5_manyOf.desc).map (fun d => d.parameters.length) = some 1 := by decide +kernel

set_option maxHeartbeats 4000000 in
set_option maxRecDepth 100000 in
theorem c5_weightOf (l : Launch) (dC : Nat → ClassId) (dI : Nat → Nat → Nat) (cs : Nat → ClassId) (a : Nat → Nat) (x : ModS) (p0 : Int) (res : Int) (hf : f5_weightOf x p0 = some res) : Met l yX5_weightOf wsX5_weightOf ({ frames := 2, cells := 0, slots := 0, locals := 44 } : Room) (va_Pc [.ref (a 0), .int (iI p0)] (xPR (dC, dI) vwCl (w5 cs a x) (xT cs))) (vp_Si (fun r => r = iI res)) 0 0 (fun _ => False) := by
  refine Met.ofW (cc := cX5_weightOf) (maxL := 4) (ret := (some .int)) (by decide) rfl ?_
  intro p e s m args below meth c s₁ B hml hv
  obtain ⟨rfl, hP, hK⟩ := hv
  have hx := B.exec
  have hb := B.bytes
  have hr := B.returns
  have hts := atoms_spec (ws := wsX5_weightOf) B.pre
  have hown : s.vm.findClass RX5 = some m.cls := findClass_of_methodNamed B.named
  have hlocks := B.notSynchronized
  have hin5 : ∀ w ∈ wsX50, w ∈ wsX5_weightOf := by decide +kernel
  have hl := lv_entry [.ref (a 0), .int (iI p0)] (n := 4) (Nat.le_of_ble_eq_true rfl)
  rw [lg_entry_eq]
  generalize (lg_sl [.ref (a 0), .int (iI p0)] ++ List.replicate (4 - (lg_sl [.ref (a 0), .int (iI p0)]).length) Slot.unset).toArray = ls at hl ⊢
  have hl : lv_has ls 4 [(0, .ref (a 0)), (1, .int (iI p0))] := hl
  unfold f5_weightOf at hf
  refine xk_iconst hx hb dX5_weightOf_0 ?_
  refine lv_istore_n (lv' := [(2, .int (iI 0)), (0, .ref (a 0)), (1, .int (iI p0))]) hx hb dX5_weightOf_1 rfl hl (by decide) rfl (fun ls hl => ?_)
  refine xk_iconst hx hb dX5_weightOf_2 ?_
  refine lv_istore_n (lv' := [(3, .int (iI 0)), (2, .int (iI 0)), (0, .ref (a 0)), (1, .int (iI p0))]) hx hb dX5_weightOf_3 rfl hl (by decide) rfl (fun ls hl => ?_)
  have hL4 : ∀ (n1 : Nat) (l2 : Int) (l3 : Int), f5_weightOf_L4 x p0 n1 l2 l3 = some res → ∀ (ls : Array Slot), lv_has ls 4 [(0, .ref (a 0)), (1, .int (iI p0)), (2, .int (iI l2)), (3, .int (iI l3))] → W p l e (headSpec wsX5_weightOf ({ frames := 2, cells := 0, slots := 0, locals := 44 } : Room)).room s m ([.ref (a 0), .int (iI p0)] : List Value).toArray below meth c s.heap [] 0 0 (MQ below (vp_Si (fun r => r = iI res)) ([.ref (a 0), .int (iI p0)] : List Value).toArray s 0 0 (fun _ => False)) (F0 m 4 ls []) := by
    intro  n1
    induction n1 with
    | zero => intro l2 l3 hf; have hf : (none : Option (Int)) = some res := hf; cases hf
    | succ n1 ih4 =>
      intro l2 l3 hf ls hl
      rw [f5_weightOf_L4] at hf
      refine lv_iload_n hx hb dX5_weightOf_4 rfl (lv_at hl 3 rfl) ?_
      refine lv_aload_n hx hb dX5_weightOf_5 rfl (lv_at hl 0 rfl) ?_
      refine va_get (D := (dC, dI)) (ci := 5) (v := .ref (a 1)) (C := RX5) (T := TX5) (N := 13) hx hb hts hin5 hown hK hP 0 rfl rfl 1 (by decide) (hts (.fieldLink RX5 13 "BoatRunsModel" "now" "[I") (by decide +kernel)) (fun _ h9 => h9) rfl dX5_weightOf_6 ?_
      refine xk_iconst hx hb dX5_weightOf_9 ?_
      obtain ⟨v2, ev2, hf⟩ := x_bind hf
      refine xk_iald (f := g5_now x) hx hb hK hP 1 0 ev2 (by decide) rfl rfl dX5_weightOf_10 ?_
      obtain ⟨c3a, c3b, c3t, c3f⟩ := x_ltE hf
      refine xk_icmp_ge (tgt := 42) hx hb c3a c3b dX5_weightOf_11 (by decide) (fun c3 => ?_) (fun c3 => ?_)
      · have hf := c3t c3
        refine lv_iload_n hx hb dX5_weightOf_14 rfl (lv_at hl 2 rfl) ?_
        refine lv_aload_n hx hb dX5_weightOf_15 rfl (lv_at hl 0 rfl) ?_
        refine lv_iload_n hx hb dX5_weightOf_16 rfl (lv_at hl 3 rfl) ?_
        refine lv_iload_n hx hb dX5_weightOf_17 rfl (lv_at hl 1 rfl) ?_
        obtain ⟨v4, ev4, hf⟩ := x_bind hf
        refine xc_ri (As := [.int (iI l3), .int (iI p0)]) (rest := [.int (iI l2)]) ⟨hx, hb, hml, hown, hts⟩ (c5_isOf l dC dI cs a x l3 p0  _ ev4) (cwV 2 hts gX5_weightOf_X5_isOf rfl rfl rfl cdX5_isOf ⟨Nat.le_of_ble_eq_true rfl, Nat.le_of_ble_eq_true rfl⟩) hK hP [0, 1, 2, 3, 4, 5, 6, 7] rfl 0 rfl rfl rfl hl.1 rfl (Nat.le_of_ble_eq_true rfl) dX5_weightOf_18 ⟨Nat.zero_le _, Nat.zero_le _⟩ ?_
        obtain ⟨c5a, c5b, c5t, c5f⟩ := x_eqE hf
        refine xk_if_eq (tgt := 33) hx hb c5a dX5_weightOf_21 (by decide) (fun c5 => ?_) (fun c5 => ?_)
        · have hf := c5t c5
          refine xk_iconst hx hb dX5_weightOf_33 ?_
          refine xk_iadd hx hb dX5_weightOf_34 ?_
          refine lv_istore_n (lv' := [(2, .int (iI (l2 + 0))), (0, .ref (a 0)), (1, .int (iI p0)), (3, .int (iI l3))]) hx hb dX5_weightOf_35 rfl hl (by decide) rfl (fun ls hl => ?_)
          refine xk_iinc (lv' := [(3, .int (iI (l3 + 1))), (2, .int (iI (l2 + 0))), (0, .ref (a 0)), (1, .int (iI p0))]) hx hb dX5_weightOf_36 hl (k := 3) rfl (by decide) rfl (fun ls hl => ?_)
          refine lv_goto (tgt := 4) hx hb dX5_weightOf_39 (by decide) ?_
          exact ih4 (l2 + 0) (l3 + 1) hf ls (lv_sub hl [2, 3, 1, 0] rfl)
        · have hf := c5f c5
          refine lv_aload_n hx hb dX5_weightOf_24 rfl (lv_at hl 0 rfl) ?_
          refine lv_iload_n hx hb dX5_weightOf_25 rfl (lv_at hl 3 rfl) ?_
          refine xk_iconst hx hb dX5_weightOf_26 ?_
          obtain ⟨v6, ev6, hf⟩ := x_bind hf
          refine xc_ri (As := [.int (iI l3), .int (iI 1)]) (rest := [.int (iI l2)]) ⟨hx, hb, hml, hown, hts⟩ (c5_of l dC dI cs a x l3 1  _ ev6) (cwV 2 hts gX5_weightOf_X5_of rfl rfl rfl cdX5_of ⟨Nat.le_of_ble_eq_true rfl, Nat.le_of_ble_eq_true rfl⟩) hK hP [0, 1, 2, 3, 4, 5, 6, 7] rfl 0 rfl rfl rfl hl.1 rfl (Nat.le_of_ble_eq_true rfl) dX5_weightOf_27 ⟨Nat.zero_le _, Nat.zero_le _⟩ ?_
          refine lv_goto (tgt := 34) hx hb dX5_weightOf_30 (by decide) ?_
          refine xk_iadd hx hb dX5_weightOf_34 ?_
          refine lv_istore_n (lv' := [(2, .int (iI (l2 + v6))), (0, .ref (a 0)), (1, .int (iI p0)), (3, .int (iI l3))]) hx hb dX5_weightOf_35 rfl hl (by decide) rfl (fun ls hl => ?_)
          refine xk_iinc (lv' := [(3, .int (iI (l3 + 1))), (2, .int (iI (l2 + v6))), (0, .ref (a 0)), (1, .int (iI p0))]) hx hb dX5_weightOf_36 hl (k := 3) rfl (by decide) rfl (fun ls hl => ?_)
          refine lv_goto (tgt := 4) hx hb dX5_weightOf_39 (by decide) ?_
          exact ih4 (l2 + v6) (l3 + 1) hf ls (lv_sub hl [2, 3, 1, 0] rfl)
      · have hf := c3f c3
        refine lv_iload_n hx hb dX5_weightOf_42 rfl (lv_at hl 2 rfl) ?_
        obtain rfl := Option.some.inj hf
        exact xe_ri hx hb hr hlocks dX5_weightOf_43 rfl
  exact hL4  xFU 0 0 hf ls (lv_sub hl [2, 3, 1, 0] rfl)
theorem cdX5_weightOf : yX5_weightOf.cls = RX5 ∧ yX5_weightOf.cls ≠ "java/lang/invoke/MethodHandle" ∧ yX5_weightOf.cls ≠ "java/lang/invoke/VarHandle" ∧ (parseMethodDescriptor yX5_weightOf.desc).map (fun d => d.parameters.length) = some 1 := by decide +kernel

set_option maxHeartbeats 4000000 in
set_option maxRecDepth 100000 in
theorem c5_areTogether (l : Launch) (dC : Nat → ClassId) (dI : Nat → Nat → Nat) (cs : Nat → ClassId) (a : Nat → Nat) (x : ModS) (p0 : Int) (p1 : Int) (res : Int) (hf : f5_areTogether x p0 p1 = some res) : Met l yX5_areTogether wsX5_areTogether ({ frames := 1, cells := 0, slots := 0, locals := 22 } : Room) (va_Pc [.ref (a 0), .int (iI p0), .int (iI p1)] (xPR (dC, dI) vwCl (w5 cs a x) (xT cs))) (vp_Si (fun r => r = iI res)) 0 0 (fun _ => False) := by
  refine Met.ofW (cc := cX5_areTogether) (maxL := 3) (ret := (some .boolean)) (by decide) rfl ?_
  intro p e s m args below meth c s₁ B hml hv
  obtain ⟨rfl, hP, hK⟩ := hv
  have hx := B.exec
  have hb := B.bytes
  have hr := B.returns
  have hts := atoms_spec (ws := wsX5_areTogether) B.pre
  have hown : s.vm.findClass RX5 = some m.cls := findClass_of_methodNamed B.named
  have hlocks := B.notSynchronized
  have hl := lv_entry [.ref (a 0), .int (iI p0), .int (iI p1)] (n := 3) (Nat.le_of_ble_eq_true rfl)
  rw [lg_entry_eq]
  generalize (lg_sl [.ref (a 0), .int (iI p0), .int (iI p1)] ++ List.replicate (3 - (lg_sl [.ref (a 0), .int (iI p0), .int (iI p1)]).length) Slot.unset).toArray = ls at hl ⊢
  have hl : lv_has ls 3 [(0, .ref (a 0)), (1, .int (iI p0)), (2, .int (iI p1))] := hl
  unfold f5_areTogether at hf
  refine lv_aload_n hx hb dX5_areTogether_0 rfl (lv_at hl 0 rfl) ?_
  refine lv_iload_n hx hb dX5_areTogether_1 rfl (lv_at hl 1 rfl) ?_
  refine xk_iconst hx hb dX5_areTogether_2 ?_
  obtain ⟨v1, ev1, hf⟩ := x_bind hf
  refine xc_ri (As := [.int (iI p0), .int (iI 2)]) (rest := []) ⟨hx, hb, hml, hown, hts⟩ (c5_of l dC dI cs a x p0 2  _ ev1) (cwV 2 hts gX5_areTogether_X5_of rfl rfl rfl cdX5_of ⟨Nat.le_of_ble_eq_true rfl, Nat.le_of_ble_eq_true rfl⟩) hK hP [0, 1, 2, 3, 4, 5, 6, 7] rfl 0 rfl rfl rfl hl.1 rfl (Nat.le_of_ble_eq_true rfl) dX5_areTogether_3 ⟨Nat.zero_le _, Nat.zero_le _⟩ ?_
  refine lv_aload_n hx hb dX5_areTogether_6 rfl (lv_at hl 0 rfl) ?_
  refine lv_iload_n hx hb dX5_areTogether_7 rfl (lv_at hl 2 rfl) ?_
  refine xk_iconst hx hb dX5_areTogether_8 ?_
  obtain ⟨v2, ev2, hf⟩ := x_bind hf
  refine xc_ri (As := [.int (iI p1), .int (iI 2)]) (rest := [.int (iI v1)]) ⟨hx, hb, hml, hown, hts⟩ (c5_of l dC dI cs a x p1 2  _ ev2) (cwV 2 hts gX5_areTogether_X5_of rfl rfl rfl cdX5_of ⟨Nat.le_of_ble_eq_true rfl, Nat.le_of_ble_eq_true rfl⟩) hK hP [0, 1, 2, 3, 4, 5, 6, 7] rfl 0 rfl rfl rfl hl.1 rfl (Nat.le_of_ble_eq_true rfl) dX5_areTogether_9 ⟨Nat.zero_le _, Nat.zero_le _⟩ ?_
  obtain ⟨c3a, c3b, c3t, c3f⟩ := x_eqE hf
  refine xk_icmp_ne (tgt := 34) hx hb c3a c3b dX5_areTogether_12 (by decide) (fun c3 => ?_) (fun c3 => ?_)
  · have hf := c3t c3
    refine lv_aload_n hx hb dX5_areTogether_15 rfl (lv_at hl 0 rfl) ?_
    refine lv_iload_n hx hb dX5_areTogether_16 rfl (lv_at hl 1 rfl) ?_
    refine xk_iconst hx hb dX5_areTogether_17 ?_
    obtain ⟨v4, ev4, hf⟩ := x_bind hf
    refine xc_ri (As := [.int (iI p0), .int (iI 3)]) (rest := []) ⟨hx, hb, hml, hown, hts⟩ (c5_of l dC dI cs a x p0 3  _ ev4) (cwV 2 hts gX5_areTogether_X5_of rfl rfl rfl cdX5_of ⟨Nat.le_of_ble_eq_true rfl, Nat.le_of_ble_eq_true rfl⟩) hK hP [0, 1, 2, 3, 4, 5, 6, 7] rfl 0 rfl rfl rfl hl.1 rfl (Nat.le_of_ble_eq_true rfl) dX5_areTogether_18 ⟨Nat.zero_le _, Nat.zero_le _⟩ ?_
    refine lv_aload_n hx hb dX5_areTogether_21 rfl (lv_at hl 0 rfl) ?_
    refine lv_iload_n hx hb dX5_areTogether_22 rfl (lv_at hl 2 rfl) ?_
    refine xk_iconst hx hb dX5_areTogether_23 ?_
    obtain ⟨v5, ev5, hf⟩ := x_bind hf
    refine xc_ri (As := [.int (iI p1), .int (iI 3)]) (rest := [.int (iI v4)]) ⟨hx, hb, hml, hown, hts⟩ (c5_of l dC dI cs a x p1 3  _ ev5) (cwV 2 hts gX5_areTogether_X5_of rfl rfl rfl cdX5_of ⟨Nat.le_of_ble_eq_true rfl, Nat.le_of_ble_eq_true rfl⟩) hK hP [0, 1, 2, 3, 4, 5, 6, 7] rfl 0 rfl rfl rfl hl.1 rfl (Nat.le_of_ble_eq_true rfl) dX5_areTogether_24 ⟨Nat.zero_le _, Nat.zero_le _⟩ ?_
    obtain ⟨c6a, c6b, c6t, c6f⟩ := x_eqE hf
    refine xk_icmp_ne (tgt := 34) hx hb c6a c6b dX5_areTogether_27 (by decide) (fun c6 => ?_) (fun c6 => ?_)
    · have hf := c6t c6
      refine xk_iconst hx hb dX5_areTogether_30 ?_
      refine lv_goto (tgt := 35) hx hb dX5_areTogether_31 (by decide) ?_
      obtain rfl := Option.some.inj hf
      exact xe_rz hx hb hr (Or.inr rfl) hlocks dX5_areTogether_35 rfl
    · have hf := c6f c6
      refine xk_iconst hx hb dX5_areTogether_34 ?_
      obtain rfl := Option.some.inj hf
      exact xe_rz hx hb hr (Or.inl rfl) hlocks dX5_areTogether_35 rfl
  · have hf := c3f c3
    refine xk_iconst hx hb dX5_areTogether_34 ?_
    obtain rfl := Option.some.inj hf
    exact xe_rz hx hb hr (Or.inl rfl) hlocks dX5_areTogether_35 rfl
theorem cdX5_areTogether : yX5_areTogether.cls = RX5 ∧ yX5_areTogether.cls ≠ "java/lang/invoke/MethodHandle" ∧ yX5_areTogether.cls ≠ "java/lang/invoke/VarHandle" ∧ (parseMethodDescriptor yX5_areTogether.desc).map (fun d => d.parameters.length) = some 2 := by decide +kernel

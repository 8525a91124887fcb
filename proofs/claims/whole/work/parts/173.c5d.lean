set_option maxHeartbeats 4000000 in
set_option maxRecDepth 100000 in
theorem c5_emptyAll (l : Launch) (dC : Nat → ClassId) (dI : Nat → Nat → Nat) (cs : Nat → ClassId) (a : Nat → Nat) (sz : Nat) (x : ModS) (res : ModS) (hf : f5_emptyAll x = some res) : Met l yX5_emptyAll wsX5_emptyAll ({ frames := 5, cells := 0, slots := 0, locals := 109 } : Room) (va_Pc [.ref (a 0)] (xPW (dC, dI) vwCl (w5 cs a x) (xT cs) sz)) (xQv (dC, dI) vwCl (w5 cs a x) (w5 cs a res) sz) 0 0 (va_A (w5 cs a x) sz) := by
  refine Met.ofW (cc := cX5_emptyAll) (maxL := 1) (ret := none) (by decide) rfl ?_
  intro p e s m args below meth c s₁ B hml hv
  obtain ⟨rfl, hsz, hP, hK, hD0⟩ := hv
  have hx := B.exec
  have hb := B.bytes
  have hr := B.returns
  have hts := atoms_spec (ws := wsX5_emptyAll) B.pre
  have hown : s.vm.findClass RX5 = some m.cls := findClass_of_methodNamed B.named
  have hlocks := B.notSynchronized
  have hin5 : ∀ w ∈ wsX50, w ∈ wsX5_emptyAll := by decide +kernel
  subst hsz
  have hD := hD0.self (sz := s.heap.size)
  have hA : ∀ z9 : Nat, s.heap.size ≤ z9 → va_A (w5 cs a x) s.heap.size z9 := fun z9 h => Or.inr h
  have hS : va_S (va_A (w5 cs a x) s.heap.size) s.heap s.heap [] := va_S.rf
  have hl := lv_entry [.ref (a 0)] (n := 1) (Nat.le_of_ble_eq_true rfl)
  rw [lg_entry_eq]
  generalize (lg_sl [.ref (a 0)] ++ List.replicate (1 - (lg_sl [.ref (a 0)]).length) Slot.unset).toArray = ls at hl ⊢
  have hl : lv_has ls 1 [(0, .ref (a 0))] := hl
  unfold f5_emptyAll at hf
  have hL0 : ∀ (n2 : Nat) (x1 : ModS), f5_emptyAll_L0  n2 x1 = some res → ∀ (H : Heap) (locs : List Loc), va_P (dC, dI) vwCl (w5 cs a x1) H → va_S (va_A (w5 cs a x) s.heap.size) s.heap H locs → ∀ (ls : Array Slot), lv_has ls 1 [(0, .ref (a 0))] → W p l e (headSpec wsX5_emptyAll ({ frames := 5, cells := 0, slots := 0, locals := 109 } : Room)).room s m ([.ref (a 0)] : List Value).toArray below meth c H locs 0 0 (MQ below (xQv (dC, dI) vwCl (w5 cs a x) (w5 cs a res) s.heap.size) ([.ref (a 0)] : List Value).toArray s 0 0 (va_A (w5 cs a x) s.heap.size)) (F0 m 0 ls []) := by
    intro  n2
    induction n2 with
    | zero => intro x1 hf; have hf : (none : Option (ModS)) = some res := hf; cases hf
    | succ n2 ih0 =>
      intro x1 hf H locs hP hS ls hl
      rw [f5_emptyAll_L0] at hf
      refine lv_aload_n hx hb dX5_emptyAll_0 rfl (lv_at hl 0 rfl) ?_
      refine xk_iconst hx hb dX5_emptyAll_1 ?_
      obtain ⟨v3, ev3, hf⟩ := x_bind hf
      refine xc_ri (As := [.int (iI (-1))]) (rest := []) ⟨hx, hb, hml, hown, hts⟩ (c5_leastInBoat l dC dI cs a x1 (-1)  _ ev3) (cwV 1 hts gX5_emptyAll_X5_leastInBoat rfl rfl rfl cdX5_leastInBoat ⟨Nat.le_of_ble_eq_true rfl, Nat.le_of_ble_eq_true rfl⟩) hK hP [0, 1, 2, 3, 4, 5, 6, 7] rfl 0 rfl rfl rfl hl.1 rfl (Nat.le_of_ble_eq_true rfl) dX5_emptyAll_2 ⟨Nat.zero_le _, Nat.zero_le _⟩ ?_
      refine xk_iconst hx hb dX5_emptyAll_5 ?_
      obtain ⟨c4a, c4b, c4t, c4f⟩ := x_eqE hf
      refine xk_icmp_eq (tgt := 17) hx hb c4a c4b dX5_emptyAll_6 (by decide) (fun c4 => ?_) (fun c4 => ?_)
      · have hf := c4t c4
        refine lv_aload_n hx hb dX5_emptyAll_17 rfl (lv_at hl 0 rfl) ?_
        refine va_get (D := (dC, dI)) (ci := 5) (v := .ref (a 1)) (C := RX5) (T := TX5) (N := 13) hx hb hts hin5 hown hK hP 0 rfl rfl 1 (by decide) (hts (.fieldLink RX5 13 "BoatRunsModel" "now" "[I") (by decide +kernel)) (fun _ h9 => h9) rfl dX5_emptyAll_18 ?_
        refine xk_bipush hx hb dX5_emptyAll_21 (by decide) ?_
        refine xk_iconst hx hb dX5_emptyAll_23 ?_
        obtain ⟨g5, eg5, hf⟩ := x_bind hf
        refine xk_iast (f := g5_now x1) hx hb hK hP (x_addr hD rfl) hS 1 0 eg5 (by decide) rfl rfl dX5_emptyAll_24 (fun H locs hP hS => ?_)
        have hP : va_P (dC, dI) vwCl (w5C cs a (g5_thr x1) (g5_acts x1) (g5_typ x1) (g5_lat x1) (g5_pos x1) (g5_wra x1) g5 (g5_put x1) (g5_was x1) (g5_txt x1) (g5_lef x1) (g5_abo x1) (g5_ors x1)) H := hP
        obtain rfl := Option.some.inj hf
        exact xe_wv hx hb hr hlocks hS hP dX5_emptyAll_25
      · have hf := c4f c4
        refine lv_aload_n hx hb dX5_emptyAll_9 rfl (lv_at hl 0 rfl) ?_
        obtain ⟨⟨v7, x6⟩, ex6, hf⟩ := x_bind hf
        refine xc_wi (As := []) (rest := []) ⟨hx, hb, hml, hown, hts⟩ (c5_throwOne l dC dI cs a _ x1  _ ex6) (cwV 0 hts gX5_emptyAll_X5_throwOne rfl rfl rfl cdX5_throwOne ⟨Nat.le_of_ble_eq_true rfl, Nat.le_of_ble_eq_true rfl⟩) hK hP (x_addr hD rfl) hS hA [0, 1, 2, 3, 4, 5, 6, 7] rfl (by decide) rfl 0 rfl rfl rfl hl.1 rfl (Nat.le_of_ble_eq_true rfl) dX5_emptyAll_10 ⟨Nat.zero_le _, Nat.zero_le _⟩ (fun H locs hP hS => ?_)
        have hP : va_P (dC, dI) vwCl (w5 cs a x6) H := hP
        refine lv_pop hx hb dX5_emptyAll_13 rfl ?_
        refine lv_goto (tgt := 0) hx hb dX5_emptyAll_14 (by decide) ?_
        exact ih0 x6 hf _ _ hP hS ls (lv_sub hl [0] rfl)
  exact hL0  xFU x hf _ _ hP hS ls (lv_sub hl [0] rfl)
theorem cdX5_emptyAll : yX5_emptyAll.cls = RX5 ∧ yX5_emptyAll.cls ≠ "java/lang/invoke/MethodHandle" ∧ yX5_emptyAll.cls ≠ "java/lang/invoke/VarHandle" ∧ (parseMethodDescriptor yX5_emptyAll.desc).map (fun d => d.parameters.length) = some 0 := by decide +kernel

set_option maxHeartbeats 4000000 in
set_option maxRecDepth 100000 in
theorem c5_begin (l : Launch) (dC : Nat → ClassId) (dI : Nat → Nat → Nat) (cs : Nat → ClassId) (a : Nat → Nat) (sz : Nat) (x : ModS) (p0 : Int) (res : Int × ModS) (hf : f5_begin x p0 = some res) : Met l yX5_begin wsX5_begin ({ frames := 1, cells := 0, slots := 0, locals := 22 } : Room) (va_Pc [.ref (a 0), .int (iI p0)] (xPW (dC, dI) vwCl (w5 cs a x) (xT cs) sz)) (xQi (dC, dI) vwCl (w5 cs a x) (w5 cs a res.2) sz res.1) 0 0 (va_A (w5 cs a x) sz) := by
  refine Met.ofW (cc := cX5_begin) (maxL := 3) (ret := (some .int)) (by decide) rfl ?_
  intro p e s m args below meth c s₁ B hml hv
  obtain ⟨rfl, hsz, hP, hK, hD0⟩ := hv
  have hx := B.exec
  have hb := B.bytes
  have hr := B.returns
  have hts := atoms_spec (ws := wsX5_begin) B.pre
  have hown : s.vm.findClass RX5 = some m.cls := findClass_of_methodNamed B.named
  have hlocks := B.notSynchronized
  have hin5 : ∀ w ∈ wsX50, w ∈ wsX5_begin := by decide +kernel
  subst hsz
  have hD := hD0.self (sz := s.heap.size)
  have hA : ∀ z9 : Nat, s.heap.size ≤ z9 → va_A (w5 cs a x) s.heap.size z9 := fun z9 h => Or.inr h
  have hS : va_S (va_A (w5 cs a x) s.heap.size) s.heap s.heap [] := va_S.rf
  have hl := lv_entry [.ref (a 0), .int (iI p0)] (n := 3) (Nat.le_of_ble_eq_true rfl)
  rw [lg_entry_eq]
  generalize (lg_sl [.ref (a 0), .int (iI p0)] ++ List.replicate (3 - (lg_sl [.ref (a 0), .int (iI p0)]).length) Slot.unset).toArray = ls at hl ⊢
  have hl : lv_has ls 3 [(0, .ref (a 0)), (1, .int (iI p0))] := hl
  unfold f5_begin at hf
  refine lv_aload_n hx hb dX5_begin_0 rfl (lv_at hl 0 rfl) ?_
  refine lv_iload_n hx hb dX5_begin_1 rfl (lv_at hl 1 rfl) ?_
  refine xk_iconst hx hb dX5_begin_2 ?_
  refine xk_bipush hx hb dX5_begin_3 (by decide) ?_
  obtain ⟨v1, ev1, hf⟩ := x_bind hf
  refine xc_si (As := [.int (iI p0), .int (iI 1), .int (iI 12)]) (rest := [.ref (a 0)]) ⟨hx, hb, hml, hown, hts⟩ (c5_in l p0 1 12 _ ev1) (va_cwS 3 hts gX5_begin_X5_in rfl rfl rfl cdX5_in ⟨Nat.le_of_ble_eq_true rfl, Nat.le_of_ble_eq_true rfl⟩) rfl hl.1 rfl (Nat.le_of_ble_eq_true rfl) dX5_begin_5 ⟨Nat.zero_le _, Nat.zero_le _⟩ ?_
  obtain ⟨c2a, c2b, c2t, c2f⟩ := x_eqE hf
  refine xk_if_eq (tgt := 15) hx hb c2a dX5_begin_8 (by decide) (fun c2 => ?_) (fun c2 => ?_)
  · have hf := c2t c2
    refine xk_iconst hx hb dX5_begin_15 ?_
    refine va_put (D := (dC, dI)) (ci := 5) (v := .int (iI 1)) (ty := .int) (C := RX5) (T := TX5) (N := 13) hx hb hts hin5 tyX5 tyX5_ok nmX5 hown hK hP (x_addr hD rfl) hS 0 rfl rfl 0 (by decide) (hts (.fieldLink RX5 1 "BoatRunsModel" "thrown" "I") (by decide +kernel)) (fun _ h9 => h9) rfl (by decide +kernel) rfl rfl (Nat.le_of_ble_eq_true rfl) dX5_begin_16 (fun H locs hP _ hS => ?_)
    have hP : va_P (dC, dI) vwCl (w5C cs a 1 (g5_acts x) (g5_typ x) (g5_lat x) (g5_pos x) (g5_wra x) (g5_now x) (g5_put x) (g5_was x) (g5_txt x) (g5_lef x) (g5_abo x) (g5_ors x)) H := hP
    refine lv_aload_n hx hb dX5_begin_19 rfl (lv_at hl 0 rfl) ?_
    refine va_get (D := (dC, dI)) (ci := 5) (v := .int (iI 1)) (C := RX5) (T := TX5) (N := 13) hx hb hts hin5 hown hK hP 0 rfl rfl 0 (by decide) (hts (.fieldLink RX5 1 "BoatRunsModel" "thrown" "I") (by decide +kernel)) (fun _ h9 => h9) rfl dX5_begin_20 ?_
    refine xk_if_le (tgt := 28) hx hb (by decide) dX5_begin_23 (by decide) (fun c3 => ?_) (fun c3 => ?_)
    · refine xk_iconst hx hb dX5_begin_26 ?_
      obtain rfl := Option.some.inj hf
      exact xe_wi hx hb hr hlocks hS hP dX5_begin_27
    · exact absurd c3 (by decide)
  · have hf := c2f c2
    refine xk_iconst hx hb dX5_begin_11 ?_
    refine lv_goto (tgt := 16) hx hb dX5_begin_12 (by decide) ?_
    refine va_put (D := (dC, dI)) (ci := 5) (v := .int (iI 0)) (ty := .int) (C := RX5) (T := TX5) (N := 13) hx hb hts hin5 tyX5 tyX5_ok nmX5 hown hK hP (x_addr hD rfl) hS 0 rfl rfl 0 (by decide) (hts (.fieldLink RX5 1 "BoatRunsModel" "thrown" "I") (by decide +kernel)) (fun _ h9 => h9) rfl (by decide +kernel) rfl rfl (Nat.le_of_ble_eq_true rfl) dX5_begin_16 (fun H locs hP _ hS => ?_)
    have hP : va_P (dC, dI) vwCl (w5C cs a 0 (g5_acts x) (g5_typ x) (g5_lat x) (g5_pos x) (g5_wra x) (g5_now x) (g5_put x) (g5_was x) (g5_txt x) (g5_lef x) (g5_abo x) (g5_ors x)) H := hP
    refine lv_aload_n hx hb dX5_begin_19 rfl (lv_at hl 0 rfl) ?_
    refine va_get (D := (dC, dI)) (ci := 5) (v := .int (iI 0)) (C := RX5) (T := TX5) (N := 13) hx hb hts hin5 hown hK hP 0 rfl rfl 0 (by decide) (hts (.fieldLink RX5 1 "BoatRunsModel" "thrown" "I") (by decide +kernel)) (fun _ h9 => h9) rfl dX5_begin_20 ?_
    refine xk_if_le (tgt := 28) hx hb (by decide) dX5_begin_23 (by decide) (fun c4 => ?_) (fun c4 => ?_)
    · exact absurd c4 (by decide)
    · refine lv_aload_n hx hb dX5_begin_28 rfl (lv_at hl 0 rfl) ?_
      obtain ⟨x5, ex5, hf⟩ := x_bind hf
      refine xc_wv (As := []) (rest := []) ⟨hx, hb, hml, hown, hts⟩ (c5_save l dC dI cs a _ (s5_thr x 0)  _ ex5) (cwV 0 hts gX5_begin_X5_save rfl rfl rfl cdX5_save ⟨Nat.le_of_ble_eq_true rfl, Nat.le_of_ble_eq_true rfl⟩) hK hP (x_addr hD rfl) hS hA [0, 1, 2, 3, 4, 5, 6, 7] rfl (by decide) rfl 0 rfl rfl rfl hl.1 rfl (Nat.le_of_ble_eq_true rfl) dX5_begin_29 ⟨Nat.zero_le _, Nat.zero_le _⟩ (fun H locs hP hS => ?_)
      have hP : va_P (dC, dI) vwCl (w5 cs a x5) H := hP
      refine lv_aload_n hx hb dX5_begin_32 rfl (lv_at hl 0 rfl) ?_
      refine va_get (D := (dC, dI)) (ci := 5) (v := .ref (a 1)) (C := RX5) (T := TX5) (N := 13) hx hb hts hin5 hown hK hP 0 rfl rfl 1 (by decide) (hts (.fieldLink RX5 13 "BoatRunsModel" "now" "[I") (by decide +kernel)) (fun _ h9 => h9) rfl dX5_begin_33 ?_
      refine xk_iconst hx hb dX5_begin_36 ?_
      obtain ⟨v6, ev6, hf⟩ := x_bind hf
      refine xk_iald (f := g5_now x5) hx hb hK hP 1 0 ev6 (by decide) rfl rfl dX5_begin_37 ?_
      refine lv_istore_n (lv' := [(2, .int (iI v6)), (0, .ref (a 0)), (1, .int (iI p0))]) hx hb dX5_begin_38 rfl hl (by decide) rfl (fun ls hl => ?_)
      refine lv_aload_n hx hb dX5_begin_39 rfl (lv_at hl 1 rfl) ?_
      refine lv_iload_n hx hb dX5_begin_40 rfl (lv_at hl 2 rfl) ?_
      obtain ⟨x7, ex7, hf⟩ := x_bind hf
      refine xc_wv (As := [.int (iI p0)]) (rest := []) ⟨hx, hb, hml, hown, hts⟩ (c5_anew l dC dI cs a _ x5 p0  _ ex7) (cwV 1 hts gX5_begin_X5_anew rfl rfl rfl cdX5_anew ⟨Nat.le_of_ble_eq_true rfl, Nat.le_of_ble_eq_true rfl⟩) hK hP (x_addr hD rfl) hS hA [0, 1, 2, 3, 4, 5, 6, 7] rfl (by decide) rfl 0 rfl rfl rfl hl.1 rfl (Nat.le_of_ble_eq_true rfl) dX5_begin_41 ⟨Nat.zero_le _, Nat.zero_le _⟩ (fun H locs hP hS => ?_)
      have hP : va_P (dC, dI) vwCl (w5 cs a x7) H := hP
      refine lv_iload_n hx hb dX5_begin_44 rfl (lv_at hl 0 rfl) ?_
      obtain rfl := Option.some.inj hf
      exact xe_wi hx hb hr hlocks hS hP dX5_begin_45
theorem cdX5_begin : yX5_begin.cls = RX5 ∧ yX5_begin.cls ≠ "java/lang/invoke/MethodHandle" ∧ yX5_begin.cls ≠ "java/lang/invoke/VarHandle" ∧ (parseMethodDescriptor yX5_begin.desc).map (fun d => d.parameters.length) = some 1 := by decide +kernel

set_option maxHeartbeats 4000000 in
set_option maxRecDepth 100000 in
theorem c5_load (l : Launch) (dC : Nat → ClassId) (dI : Nat → Nat → Nat) (cs : Nat → ClassId) (a : Nat → Nat) (sz : Nat) (x : ModS) (p0 : Int) (p1 : Int) (res : Int × ModS) (hf : f5_load x p0 p1 = some res) : Met l yX5_load wsX5_load ({ frames := 6, cells := 0, slots := 0, locals := 133 } : Room) (va_Pc [.ref (a 0), .int (iI p0), .int (iI p1)] (xPW (dC, dI) vwCl (w5 cs a x) (xT cs) sz)) (xQi (dC, dI) vwCl (w5 cs a x) (w5 cs a res.2) sz res.1) 0 0 (va_A (w5 cs a x) sz) := by
  refine Met.ofW (cc := cX5_load) (maxL := 3) (ret := (some .int)) (by decide) rfl ?_
  intro p e s m args below meth c s₁ B hml hv
  obtain ⟨rfl, hsz, hP, hK, hD0⟩ := hv
  have hx := B.exec
  have hb := B.bytes
  have hr := B.returns
  have hts := atoms_spec (ws := wsX5_load) B.pre
  have hown : s.vm.findClass RX5 = some m.cls := findClass_of_methodNamed B.named
  have hlocks := B.notSynchronized
  have hin5 : ∀ w ∈ wsX50, w ∈ wsX5_load := by decide +kernel
  subst hsz
  have hD := hD0.self (sz := s.heap.size)
  have hA : ∀ z9 : Nat, s.heap.size ≤ z9 → va_A (w5 cs a x) s.heap.size z9 := fun z9 h => Or.inr h
  have hS : va_S (va_A (w5 cs a x) s.heap.size) s.heap s.heap [] := va_S.rf
  have hl := lv_entry [.ref (a 0), .int (iI p0), .int (iI p1)] (n := 3) (Nat.le_of_ble_eq_true rfl)
  rw [lg_entry_eq]
  generalize (lg_sl [.ref (a 0), .int (iI p0), .int (iI p1)] ++ List.replicate (3 - (lg_sl [.ref (a 0), .int (iI p0), .int (iI p1)]).length) Slot.unset).toArray = ls at hl ⊢
  have hl : lv_has ls 3 [(0, .ref (a 0)), (1, .int (iI p0)), (2, .int (iI p1))] := hl
  unfold f5_load at hf
  refine lv_aload_n hx hb dX5_load_0 rfl (lv_at hl 0 rfl) ?_
  refine lv_iload_n hx hb dX5_load_1 rfl (lv_at hl 1 rfl) ?_
  refine xk_iconst hx hb dX5_load_2 ?_
  refine xk_sipush hx hb dX5_load_3 (by decide) ?_
  obtain ⟨v1, ev1, hf⟩ := x_bind hf
  refine xc_si (As := [.int (iI p0), .int (iI 0), .int (iI 999)]) (rest := [.ref (a 0)]) ⟨hx, hb, hml, hown, hts⟩ (c5_in l p0 0 999 _ ev1) (va_cwS 3 hts gX5_load_X5_in rfl rfl rfl cdX5_in ⟨Nat.le_of_ble_eq_true rfl, Nat.le_of_ble_eq_true rfl⟩) rfl hl.1 rfl (Nat.le_of_ble_eq_true rfl) dX5_load_6 ⟨Nat.zero_le _, Nat.zero_le _⟩ ?_
  obtain ⟨c2a, c2b, c2t, c2f⟩ := x_eqE hf
  refine xk_if_eq (tgt := 22) hx hb c2a dX5_load_9 (by decide) (fun c2 => ?_) (fun c2 => ?_)
  · have hf := c2t c2
    refine xk_iconst hx hb dX5_load_22 ?_
    refine lv_goto (tgt := 42) hx hb dX5_load_23 (by decide) ?_
    refine va_put (D := (dC, dI)) (ci := 5) (v := .int (iI 1)) (ty := .int) (C := RX5) (T := TX5) (N := 13) hx hb hts hin5 tyX5 tyX5_ok nmX5 hown hK hP (x_addr hD rfl) hS 0 rfl rfl 0 (by decide) (hts (.fieldLink RX5 1 "BoatRunsModel" "thrown" "I") (by decide +kernel)) (fun _ h9 => h9) rfl (by decide +kernel) rfl rfl (Nat.le_of_ble_eq_true rfl) dX5_load_42 (fun H locs hP _ hS => ?_)
    have hP : va_P (dC, dI) vwCl (w5C cs a 1 (g5_acts x) (g5_typ x) (g5_lat x) (g5_pos x) (g5_wra x) (g5_now x) (g5_put x) (g5_was x) (g5_txt x) (g5_lef x) (g5_abo x) (g5_ors x)) H := hP
    refine lv_aload_n hx hb dX5_load_45 rfl (lv_at hl 0 rfl) ?_
    refine va_get (D := (dC, dI)) (ci := 5) (v := .int (iI 1)) (C := RX5) (T := TX5) (N := 13) hx hb hts hin5 hown hK hP 0 rfl rfl 0 (by decide) (hts (.fieldLink RX5 1 "BoatRunsModel" "thrown" "I") (by decide +kernel)) (fun _ h9 => h9) rfl dX5_load_46 ?_
    refine xk_if_le (tgt := 54) hx hb (by decide) dX5_load_49 (by decide) (fun c3 => ?_) (fun c3 => ?_)
    · refine xk_iconst hx hb dX5_load_52 ?_
      obtain rfl := Option.some.inj hf
      exact xe_wi hx hb hr hlocks hS hP dX5_load_53
    · exact absurd c3 (by decide)
  · have hf := c2f c2
    refine lv_iload_n hx hb dX5_load_12 rfl (lv_at hl 2 rfl) ?_
    refine xk_iconst hx hb dX5_load_13 ?_
    refine xk_bipush hx hb dX5_load_14 (by decide) ?_
    obtain ⟨v4, ev4, hf⟩ := x_bind hf
    refine xc_si (As := [.int (iI p1), .int (iI 1), .int (iI 50)]) (rest := [.ref (a 0)]) ⟨hx, hb, hml, hown, hts⟩ (c5_in l p1 1 50 _ ev4) (va_cwS 3 hts gX5_load_X5_in rfl rfl rfl cdX5_in ⟨Nat.le_of_ble_eq_true rfl, Nat.le_of_ble_eq_true rfl⟩) rfl hl.1 rfl (Nat.le_of_ble_eq_true rfl) dX5_load_16 ⟨Nat.zero_le _, Nat.zero_le _⟩ ?_
    obtain ⟨c5a, c5b, c5t, c5f⟩ := x_eqE hf
    refine xk_if_ne (tgt := 26) hx hb c5a dX5_load_19 (by decide) (fun c5 => ?_) (fun c5 => ?_)
    · have hf := c5t c5
      refine xk_iconst hx hb dX5_load_22 ?_
      refine lv_goto (tgt := 42) hx hb dX5_load_23 (by decide) ?_
      refine va_put (D := (dC, dI)) (ci := 5) (v := .int (iI 1)) (ty := .int) (C := RX5) (T := TX5) (N := 13) hx hb hts hin5 tyX5 tyX5_ok nmX5 hown hK hP (x_addr hD rfl) hS 0 rfl rfl 0 (by decide) (hts (.fieldLink RX5 1 "BoatRunsModel" "thrown" "I") (by decide +kernel)) (fun _ h9 => h9) rfl (by decide +kernel) rfl rfl (Nat.le_of_ble_eq_true rfl) dX5_load_42 (fun H locs hP _ hS => ?_)
      have hP : va_P (dC, dI) vwCl (w5C cs a 1 (g5_acts x) (g5_typ x) (g5_lat x) (g5_pos x) (g5_wra x) (g5_now x) (g5_put x) (g5_was x) (g5_txt x) (g5_lef x) (g5_abo x) (g5_ors x)) H := hP
      refine lv_aload_n hx hb dX5_load_45 rfl (lv_at hl 0 rfl) ?_
      refine va_get (D := (dC, dI)) (ci := 5) (v := .int (iI 1)) (C := RX5) (T := TX5) (N := 13) hx hb hts hin5 hown hK hP 0 rfl rfl 0 (by decide) (hts (.fieldLink RX5 1 "BoatRunsModel" "thrown" "I") (by decide +kernel)) (fun _ h9 => h9) rfl dX5_load_46 ?_
      refine xk_if_le (tgt := 54) hx hb (by decide) dX5_load_49 (by decide) (fun c6 => ?_) (fun c6 => ?_)
      · refine xk_iconst hx hb dX5_load_52 ?_
        obtain rfl := Option.some.inj hf
        exact xe_wi hx hb hr hlocks hS hP dX5_load_53
      · exact absurd c6 (by decide)
    · have hf := c5f c5
      refine lv_aload_n hx hb dX5_load_26 rfl (lv_at hl 0 rfl) ?_
      refine va_get (D := (dC, dI)) (ci := 5) (v := .ref (a 1)) (C := RX5) (T := TX5) (N := 13) hx hb hts hin5 hown hK hP 0 rfl rfl 1 (by decide) (hts (.fieldLink RX5 13 "BoatRunsModel" "now" "[I") (by decide +kernel)) (fun _ h9 => h9) rfl dX5_load_27 ?_
      refine xk_iconst hx hb dX5_load_30 ?_
      obtain ⟨v7, ev7, hf⟩ := x_bind hf
      refine xk_iald (f := g5_now x) hx hb hK hP 1 0 ev7 (by decide) rfl rfl dX5_load_31 ?_
      refine xk_bipush hx hb dX5_load_32 (by decide) ?_
      obtain ⟨c8a, c8b, c8t, c8f⟩ := x_eqE hf
      refine xk_icmp_ne (tgt := 41) hx hb c8a c8b dX5_load_34 (by decide) (fun c8 => ?_) (fun c8 => ?_)
      · have hf := c8t c8
        refine xk_iconst hx hb dX5_load_37 ?_
        refine lv_goto (tgt := 42) hx hb dX5_load_38 (by decide) ?_
        refine va_put (D := (dC, dI)) (ci := 5) (v := .int (iI 2)) (ty := .int) (C := RX5) (T := TX5) (N := 13) hx hb hts hin5 tyX5 tyX5_ok nmX5 hown hK hP (x_addr hD rfl) hS 0 rfl rfl 0 (by decide) (hts (.fieldLink RX5 1 "BoatRunsModel" "thrown" "I") (by decide +kernel)) (fun _ h9 => h9) rfl (by decide +kernel) rfl rfl (Nat.le_of_ble_eq_true rfl) dX5_load_42 (fun H locs hP _ hS => ?_)
        have hP : va_P (dC, dI) vwCl (w5C cs a 2 (g5_acts x) (g5_typ x) (g5_lat x) (g5_pos x) (g5_wra x) (g5_now x) (g5_put x) (g5_was x) (g5_txt x) (g5_lef x) (g5_abo x) (g5_ors x)) H := hP
        refine lv_aload_n hx hb dX5_load_45 rfl (lv_at hl 0 rfl) ?_
        refine va_get (D := (dC, dI)) (ci := 5) (v := .int (iI 2)) (C := RX5) (T := TX5) (N := 13) hx hb hts hin5 hown hK hP 0 rfl rfl 0 (by decide) (hts (.fieldLink RX5 1 "BoatRunsModel" "thrown" "I") (by decide +kernel)) (fun _ h9 => h9) rfl dX5_load_46 ?_
        refine xk_if_le (tgt := 54) hx hb (by decide) dX5_load_49 (by decide) (fun c9 => ?_) (fun c9 => ?_)
        · refine xk_iconst hx hb dX5_load_52 ?_
          obtain rfl := Option.some.inj hf
          exact xe_wi hx hb hr hlocks hS hP dX5_load_53
        · exact absurd c9 (by decide)
      · have hf := c8f c8
        refine xk_iconst hx hb dX5_load_41 ?_
        refine va_put (D := (dC, dI)) (ci := 5) (v := .int (iI 0)) (ty := .int) (C := RX5) (T := TX5) (N := 13) hx hb hts hin5 tyX5 tyX5_ok nmX5 hown hK hP (x_addr hD rfl) hS 0 rfl rfl 0 (by decide) (hts (.fieldLink RX5 1 "BoatRunsModel" "thrown" "I") (by decide +kernel)) (fun _ h9 => h9) rfl (by decide +kernel) rfl rfl (Nat.le_of_ble_eq_true rfl) dX5_load_42 (fun H locs hP _ hS => ?_)
        have hP : va_P (dC, dI) vwCl (w5C cs a 0 (g5_acts x) (g5_typ x) (g5_lat x) (g5_pos x) (g5_wra x) (g5_now x) (g5_put x) (g5_was x) (g5_txt x) (g5_lef x) (g5_abo x) (g5_ors x)) H := hP
        refine lv_aload_n hx hb dX5_load_45 rfl (lv_at hl 0 rfl) ?_
        refine va_get (D := (dC, dI)) (ci := 5) (v := .int (iI 0)) (C := RX5) (T := TX5) (N := 13) hx hb hts hin5 hown hK hP 0 rfl rfl 0 (by decide) (hts (.fieldLink RX5 1 "BoatRunsModel" "thrown" "I") (by decide +kernel)) (fun _ h9 => h9) rfl dX5_load_46 ?_
        refine xk_if_le (tgt := 54) hx hb (by decide) dX5_load_49 (by decide) (fun c10 => ?_) (fun c10 => ?_)
        · exact absurd c10 (by decide)
        · refine lv_aload_n hx hb dX5_load_54 rfl (lv_at hl 0 rfl) ?_
          obtain ⟨x11, ex11, hf⟩ := x_bind hf
          refine xc_wv (As := []) (rest := []) ⟨hx, hb, hml, hown, hts⟩ (c5_save l dC dI cs a _ (s5_thr x 0)  _ ex11) (cwV 0 hts gX5_load_X5_save rfl rfl rfl cdX5_save ⟨Nat.le_of_ble_eq_true rfl, Nat.le_of_ble_eq_true rfl⟩) hK hP (x_addr hD rfl) hS hA [0, 1, 2, 3, 4, 5, 6, 7] rfl (by decide) rfl 0 rfl rfl rfl hl.1 rfl (Nat.le_of_ble_eq_true rfl) dX5_load_55 ⟨Nat.zero_le _, Nat.zero_le _⟩ (fun H locs hP hS => ?_)
          have hP : va_P (dC, dI) vwCl (w5 cs a x11) H := hP
          refine lv_aload_n hx hb dX5_load_58 rfl (lv_at hl 0 rfl) ?_
          refine lv_iload_n hx hb dX5_load_59 rfl (lv_at hl 1 rfl) ?_
          refine lv_iload_n hx hb dX5_load_60 rfl (lv_at hl 2 rfl) ?_
          obtain ⟨⟨v13, x12⟩, ex12, hf⟩ := x_bind hf
          refine xc_wi (As := [.int (iI p0), .int (iI p1)]) (rest := []) ⟨hx, hb, hml, hown, hts⟩ (c5_loadOne l dC dI cs a _ x11 p0 p1  _ ex12) (cwV 2 hts gX5_load_X5_loadOne rfl rfl rfl cdX5_loadOne ⟨Nat.le_of_ble_eq_true rfl, Nat.le_of_ble_eq_true rfl⟩) hK hP (x_addr hD rfl) hS hA [0, 1, 2, 3, 4, 5, 6, 7] rfl (by decide) rfl 0 rfl rfl rfl hl.1 rfl (Nat.le_of_ble_eq_true rfl) dX5_load_61 ⟨Nat.zero_le _, Nat.zero_le _⟩ (fun H locs hP hS => ?_)
          have hP : va_P (dC, dI) vwCl (w5 cs a x12) H := hP
          obtain rfl := Option.some.inj hf
          exact xe_wi hx hb hr hlocks hS hP dX5_load_64
theorem cdX5_load : yX5_load.cls = RX5 ∧ yX5_load.cls ≠ "java/lang/invoke/MethodHandle" ∧ yX5_load.cls ≠ "java/lang/invoke/VarHandle" ∧ (parseMethodDescriptor yX5_load.desc).map (fun d => d.parameters.length) = some 2 := by decide +kernel

set_option maxHeartbeats 4000000 in
set_option maxRecDepth 100000 in
theorem c5_loadDrawn (l : Launch) (dC : Nat → ClassId) (dI : Nat → Nat → Nat) (cs : Nat → ClassId) (a : Nat → Nat) (sz : Nat) (x : ModS) (p0 : Int) (p1 : Int) (p2 : Int) (res : Int × ModS) (hf : f5_loadDrawn x p0 p1 p2 = some res) : Met l yX5_loadDrawn wsX5_loadDrawn ({ frames := 6, cells := 0, slots := 0, locals := 133 } : Room) (va_Pc [.ref (a 0), .int (iI p0), .int (iI p1), .int (iI p2)] (xPW (dC, dI) vwCl (w5 cs a x) (xT cs) sz)) (xQi (dC, dI) vwCl (w5 cs a x) (w5 cs a res.2) sz res.1) 0 0 (va_A (w5 cs a x) sz) := by
  refine Met.ofW (cc := cX5_loadDrawn) (maxL := 8) (ret := (some .int)) (by decide) rfl ?_
  intro p e s m args below meth c s₁ B hml hv
  obtain ⟨rfl, hsz, hP, hK, hD0⟩ := hv
  have hx := B.exec
  have hb := B.bytes
  have hr := B.returns
  have hts := atoms_spec (ws := wsX5_loadDrawn) B.pre
  have hown : s.vm.findClass RX5 = some m.cls := findClass_of_methodNamed B.named
  have hlocks := B.notSynchronized
  have hin5 : ∀ w ∈ wsX50, w ∈ wsX5_loadDrawn := by decide +kernel
  subst hsz
  have hD := hD0.self (sz := s.heap.size)
  have hA : ∀ z9 : Nat, s.heap.size ≤ z9 → va_A (w5 cs a x) s.heap.size z9 := fun z9 h => Or.inr h
  have hS : va_S (va_A (w5 cs a x) s.heap.size) s.heap s.heap [] := va_S.rf
  have hl := lv_entry [.ref (a 0), .int (iI p0), .int (iI p1), .int (iI p2)] (n := 8) (Nat.le_of_ble_eq_true rfl)
  rw [lg_entry_eq]
  generalize (lg_sl [.ref (a 0), .int (iI p0), .int (iI p1), .int (iI p2)] ++ List.replicate (8 - (lg_sl [.ref (a 0), .int (iI p0), .int (iI p1), .int (iI p2)]).length) Slot.unset).toArray = ls at hl ⊢
  have hl : lv_has ls 8 [(0, .ref (a 0)), (1, .int (iI p0)), (2, .int (iI p1)), (3, .int (iI p2))] := hl
  unfold f5_loadDrawn at hf
  refine lv_aload_n hx hb dX5_loadDrawn_0 rfl (lv_at hl 0 rfl) ?_
  refine lv_iload_n hx hb dX5_loadDrawn_1 rfl (lv_at hl 1 rfl) ?_
  refine xk_iconst hx hb dX5_loadDrawn_2 ?_
  refine xk_ldc (n := 999999) hx hb hown (hts (.constant RX5 94 (999999)) (by decide +kernel)) dX5_loadDrawn_3 (by decide) ?_
  obtain ⟨v1, ev1, hf⟩ := x_bind hf
  refine xc_si (As := [.int (iI p0), .int (iI 0), .int (iI 999999)]) (rest := [.ref (a 0)]) ⟨hx, hb, hml, hown, hts⟩ (c5_in l p0 0 999999 _ ev1) (va_cwS 3 hts gX5_loadDrawn_X5_in rfl rfl rfl cdX5_in ⟨Nat.le_of_ble_eq_true rfl, Nat.le_of_ble_eq_true rfl⟩) rfl hl.1 rfl (Nat.le_of_ble_eq_true rfl) dX5_loadDrawn_5 ⟨Nat.zero_le _, Nat.zero_le _⟩ ?_
  obtain ⟨c2a, c2b, c2t, c2f⟩ := x_eqE hf
  refine xk_if_eq (tgt := 36) hx hb c2a dX5_loadDrawn_8 (by decide) (fun c2 => ?_) (fun c2 => ?_)
  · have hf := c2t c2
    refine xk_iconst hx hb dX5_loadDrawn_36 ?_
    refine va_put (D := (dC, dI)) (ci := 5) (v := .int (iI 1)) (ty := .int) (C := RX5) (T := TX5) (N := 13) hx hb hts hin5 tyX5 tyX5_ok nmX5 hown hK hP (x_addr hD rfl) hS 0 rfl rfl 0 (by decide) (hts (.fieldLink RX5 1 "BoatRunsModel" "thrown" "I") (by decide +kernel)) (fun _ h9 => h9) rfl (by decide +kernel) rfl rfl (Nat.le_of_ble_eq_true rfl) dX5_loadDrawn_37 (fun H locs hP _ hS => ?_)
    have hP : va_P (dC, dI) vwCl (w5C cs a 1 (g5_acts x) (g5_typ x) (g5_lat x) (g5_pos x) (g5_wra x) (g5_now x) (g5_put x) (g5_was x) (g5_txt x) (g5_lef x) (g5_abo x) (g5_ors x)) H := hP
    refine lv_aload_n hx hb dX5_loadDrawn_40 rfl (lv_at hl 0 rfl) ?_
    refine va_get (D := (dC, dI)) (ci := 5) (v := .int (iI 1)) (C := RX5) (T := TX5) (N := 13) hx hb hts hin5 hown hK hP 0 rfl rfl 0 (by decide) (hts (.fieldLink RX5 1 "BoatRunsModel" "thrown" "I") (by decide +kernel)) (fun _ h9 => h9) rfl dX5_loadDrawn_41 ?_
    refine xk_if_le (tgt := 49) hx hb (by decide) dX5_loadDrawn_44 (by decide) (fun c3 => ?_) (fun c3 => ?_)
    · refine xk_iconst hx hb dX5_loadDrawn_47 ?_
      obtain rfl := Option.some.inj hf
      exact xe_wi hx hb hr hlocks hS hP dX5_loadDrawn_48
    · exact absurd c3 (by decide)
  · have hf := c2f c2
    refine lv_iload_n hx hb dX5_loadDrawn_11 rfl (lv_at hl 2 rfl) ?_
    refine xk_iconst hx hb dX5_loadDrawn_12 ?_
    refine xk_bipush hx hb dX5_loadDrawn_13 (by decide) ?_
    obtain ⟨v4, ev4, hf⟩ := x_bind hf
    refine xc_si (As := [.int (iI p1), .int (iI 1), .int (iI 60)]) (rest := [.ref (a 0)]) ⟨hx, hb, hml, hown, hts⟩ (c5_in l p1 1 60 _ ev4) (va_cwS 3 hts gX5_loadDrawn_X5_in rfl rfl rfl cdX5_in ⟨Nat.le_of_ble_eq_true rfl, Nat.le_of_ble_eq_true rfl⟩) rfl hl.1 rfl (Nat.le_of_ble_eq_true rfl) dX5_loadDrawn_15 ⟨Nat.zero_le _, Nat.zero_le _⟩ ?_
    obtain ⟨c5a, c5b, c5t, c5f⟩ := x_eqE hf
    refine xk_if_eq (tgt := 36) hx hb c5a dX5_loadDrawn_18 (by decide) (fun c5 => ?_) (fun c5 => ?_)
    · have hf := c5t c5
      refine xk_iconst hx hb dX5_loadDrawn_36 ?_
      refine va_put (D := (dC, dI)) (ci := 5) (v := .int (iI 1)) (ty := .int) (C := RX5) (T := TX5) (N := 13) hx hb hts hin5 tyX5 tyX5_ok nmX5 hown hK hP (x_addr hD rfl) hS 0 rfl rfl 0 (by decide) (hts (.fieldLink RX5 1 "BoatRunsModel" "thrown" "I") (by decide +kernel)) (fun _ h9 => h9) rfl (by decide +kernel) rfl rfl (Nat.le_of_ble_eq_true rfl) dX5_loadDrawn_37 (fun H locs hP _ hS => ?_)
      have hP : va_P (dC, dI) vwCl (w5C cs a 1 (g5_acts x) (g5_typ x) (g5_lat x) (g5_pos x) (g5_wra x) (g5_now x) (g5_put x) (g5_was x) (g5_txt x) (g5_lef x) (g5_abo x) (g5_ors x)) H := hP
      refine lv_aload_n hx hb dX5_loadDrawn_40 rfl (lv_at hl 0 rfl) ?_
      refine va_get (D := (dC, dI)) (ci := 5) (v := .int (iI 1)) (C := RX5) (T := TX5) (N := 13) hx hb hts hin5 hown hK hP 0 rfl rfl 0 (by decide) (hts (.fieldLink RX5 1 "BoatRunsModel" "thrown" "I") (by decide +kernel)) (fun _ h9 => h9) rfl dX5_loadDrawn_41 ?_
      refine xk_if_le (tgt := 49) hx hb (by decide) dX5_loadDrawn_44 (by decide) (fun c6 => ?_) (fun c6 => ?_)
      · refine xk_iconst hx hb dX5_loadDrawn_47 ?_
        obtain rfl := Option.some.inj hf
        exact xe_wi hx hb hr hlocks hS hP dX5_loadDrawn_48
      · exact absurd c6 (by decide)
    · have hf := c5f c5
      refine lv_iload_n hx hb dX5_loadDrawn_21 rfl (lv_at hl 3 rfl) ?_
      refine xk_iconst hx hb dX5_loadDrawn_22 ?_
      refine xk_sipush hx hb dX5_loadDrawn_23 (by decide) ?_
      obtain ⟨v7, ev7, hf⟩ := x_bind hf
      refine xc_si (As := [.int (iI p2), .int (iI 1), .int (iI 1000)]) (rest := [.ref (a 0)]) ⟨hx, hb, hml, hown, hts⟩ (c5_in l p2 1 1000 _ ev7) (va_cwS 3 hts gX5_loadDrawn_X5_in rfl rfl rfl cdX5_in ⟨Nat.le_of_ble_eq_true rfl, Nat.le_of_ble_eq_true rfl⟩) rfl hl.1 rfl (Nat.le_of_ble_eq_true rfl) dX5_loadDrawn_26 ⟨Nat.zero_le _, Nat.zero_le _⟩ ?_
      obtain ⟨c8a, c8b, c8t, c8f⟩ := x_eqE hf
      refine xk_if_eq (tgt := 36) hx hb c8a dX5_loadDrawn_29 (by decide) (fun c8 => ?_) (fun c8 => ?_)
      · have hf := c8t c8
        refine xk_iconst hx hb dX5_loadDrawn_36 ?_
        refine va_put (D := (dC, dI)) (ci := 5) (v := .int (iI 1)) (ty := .int) (C := RX5) (T := TX5) (N := 13) hx hb hts hin5 tyX5 tyX5_ok nmX5 hown hK hP (x_addr hD rfl) hS 0 rfl rfl 0 (by decide) (hts (.fieldLink RX5 1 "BoatRunsModel" "thrown" "I") (by decide +kernel)) (fun _ h9 => h9) rfl (by decide +kernel) rfl rfl (Nat.le_of_ble_eq_true rfl) dX5_loadDrawn_37 (fun H locs hP _ hS => ?_)
        have hP : va_P (dC, dI) vwCl (w5C cs a 1 (g5_acts x) (g5_typ x) (g5_lat x) (g5_pos x) (g5_wra x) (g5_now x) (g5_put x) (g5_was x) (g5_txt x) (g5_lef x) (g5_abo x) (g5_ors x)) H := hP
        refine lv_aload_n hx hb dX5_loadDrawn_40 rfl (lv_at hl 0 rfl) ?_
        refine va_get (D := (dC, dI)) (ci := 5) (v := .int (iI 1)) (C := RX5) (T := TX5) (N := 13) hx hb hts hin5 hown hK hP 0 rfl rfl 0 (by decide) (hts (.fieldLink RX5 1 "BoatRunsModel" "thrown" "I") (by decide +kernel)) (fun _ h9 => h9) rfl dX5_loadDrawn_41 ?_
        refine xk_if_le (tgt := 49) hx hb (by decide) dX5_loadDrawn_44 (by decide) (fun c9 => ?_) (fun c9 => ?_)
        · refine xk_iconst hx hb dX5_loadDrawn_47 ?_
          obtain rfl := Option.some.inj hf
          exact xe_wi hx hb hr hlocks hS hP dX5_loadDrawn_48
        · exact absurd c9 (by decide)
      · have hf := c8f c8
        refine xk_iconst hx hb dX5_loadDrawn_32 ?_
        refine lv_goto (tgt := 37) hx hb dX5_loadDrawn_33 (by decide) ?_
        refine va_put (D := (dC, dI)) (ci := 5) (v := .int (iI 0)) (ty := .int) (C := RX5) (T := TX5) (N := 13) hx hb hts hin5 tyX5 tyX5_ok nmX5 hown hK hP (x_addr hD rfl) hS 0 rfl rfl 0 (by decide) (hts (.fieldLink RX5 1 "BoatRunsModel" "thrown" "I") (by decide +kernel)) (fun _ h9 => h9) rfl (by decide +kernel) rfl rfl (Nat.le_of_ble_eq_true rfl) dX5_loadDrawn_37 (fun H locs hP _ hS => ?_)
        have hP : va_P (dC, dI) vwCl (w5C cs a 0 (g5_acts x) (g5_typ x) (g5_lat x) (g5_pos x) (g5_wra x) (g5_now x) (g5_put x) (g5_was x) (g5_txt x) (g5_lef x) (g5_abo x) (g5_ors x)) H := hP
        refine lv_aload_n hx hb dX5_loadDrawn_40 rfl (lv_at hl 0 rfl) ?_
        refine va_get (D := (dC, dI)) (ci := 5) (v := .int (iI 0)) (C := RX5) (T := TX5) (N := 13) hx hb hts hin5 hown hK hP 0 rfl rfl 0 (by decide) (hts (.fieldLink RX5 1 "BoatRunsModel" "thrown" "I") (by decide +kernel)) (fun _ h9 => h9) rfl dX5_loadDrawn_41 ?_
        refine xk_if_le (tgt := 49) hx hb (by decide) dX5_loadDrawn_44 (by decide) (fun c10 => ?_) (fun c10 => ?_)
        · exact absurd c10 (by decide)
        · refine lv_aload_n hx hb dX5_loadDrawn_49 rfl (lv_at hl 0 rfl) ?_
          obtain ⟨x11, ex11, hf⟩ := x_bind hf
          refine xc_wv (As := []) (rest := []) ⟨hx, hb, hml, hown, hts⟩ (c5_save l dC dI cs a _ (s5_thr x 0)  _ ex11) (cwV 0 hts gX5_loadDrawn_X5_save rfl rfl rfl cdX5_save ⟨Nat.le_of_ble_eq_true rfl, Nat.le_of_ble_eq_true rfl⟩) hK hP (x_addr hD rfl) hS hA [0, 1, 2, 3, 4, 5, 6, 7] rfl (by decide) rfl 0 rfl rfl rfl hl.1 rfl (Nat.le_of_ble_eq_true rfl) dX5_loadDrawn_50 ⟨Nat.zero_le _, Nat.zero_le _⟩ (fun H locs hP hS => ?_)
          have hP : va_P (dC, dI) vwCl (w5 cs a x11) H := hP
          refine lv_iload_n hx hb dX5_loadDrawn_53 rfl (lv_at hl 1 rfl) ?_
          obtain ⟨hc, hf⟩ := x_ckE hf
          refine xk_i2l hx hb hc dX5_loadDrawn_54 ?_
          refine lv_lstore (lv' := [(4, .long (iL p0)), (0, .ref (a 0)), (1, .int (iI p0)), (2, .int (iI p1)), (3, .int (iI p2))]) hx hb dX5_loadDrawn_55 hl (by decide) rfl (fun ls hl => ?_)
          refine lv_aload_n hx hb dX5_loadDrawn_57 rfl (lv_at hl 1 rfl) ?_
          refine va_get (D := (dC, dI)) (ci := 5) (v := .ref (a 1)) (C := RX5) (T := TX5) (N := 13) hx hb hts hin5 hown hK hP 0 rfl rfl 1 (by decide) (hts (.fieldLink RX5 13 "BoatRunsModel" "now" "[I") (by decide +kernel)) (fun _ h9 => h9) rfl dX5_loadDrawn_58 ?_
          refine xk_iconst hx hb dX5_loadDrawn_61 ?_
          obtain ⟨v12, ev12, hf⟩ := x_bind hf
          refine xk_iald (f := g5_now x11) hx hb hK hP 1 0 ev12 (by decide) rfl rfl dX5_loadDrawn_62 ?_
          refine lv_istore (lv' := [(6, .int (iI v12)), (4, .long (iL p0)), (0, .ref (a 0)), (1, .int (iI p0)), (2, .int (iI p1)), (3, .int (iI p2))]) hx hb dX5_loadDrawn_63 hl (by decide) rfl (fun ls hl => ?_)
          refine xk_iconst hx hb dX5_loadDrawn_65 ?_
          refine lv_istore (lv' := [(7, .int (iI 0)), (6, .int (iI v12)), (4, .long (iL p0)), (0, .ref (a 0)), (1, .int (iI p0)), (2, .int (iI p1)), (3, .int (iI p2))]) hx hb dX5_loadDrawn_66 hl (by decide) rfl (fun ls hl => ?_)
          have hL68 : ∀ (n14 : Nat) (l4 : Int) (l7 : Int) (x13 : ModS), f5_loadDrawn_L68 p1 p2 v12 n14 l4 l7 x13 = some res → ∀ (H : Heap) (locs : List Loc), va_P (dC, dI) vwCl (w5 cs a x13) H → va_S (va_A (w5 cs a x) s.heap.size) s.heap H locs → ∀ (ls : Array Slot), lv_has ls 8 [(0, .ref (a 0)), (2, .int (iI p1)), (3, .int (iI p2)), (4, .long (iL l4)), (6, .int (iI v12)), (7, .int (iI l7))] → W p l e (headSpec wsX5_loadDrawn ({ frames := 6, cells := 0, slots := 0, locals := 133 } : Room)).room s m ([.ref (a 0), .int (iI p0), .int (iI p1), .int (iI p2)] : List Value).toArray below meth c H locs 0 0 (MQ below (xQi (dC, dI) vwCl (w5 cs a x) (w5 cs a res.2) s.heap.size res.1) ([.ref (a 0), .int (iI p0), .int (iI p1), .int (iI p2)] : List Value).toArray s 0 0 (va_A (w5 cs a x) s.heap.size)) (F0 m 68 ls []) := by
            intro  n14
            induction n14 with
            | zero => intro l4 l7 x13 hf; have hf : (none : Option (Int × ModS)) = some res := hf; cases hf
            | succ n14 ih68 =>
              intro l4 l7 x13 hf H locs hP hS ls hl
              rw [f5_loadDrawn_L68] at hf
              refine lv_iload hx hb dX5_loadDrawn_68 (lv_at hl 5 rfl) ?_
              refine lv_iload_n hx hb dX5_loadDrawn_70 rfl (lv_at hl 1 rfl) ?_
              obtain ⟨c15a, c15b, c15t, c15f⟩ := x_ltE hf
              refine xk_icmp_ge (tgt := 135) hx hb c15a c15b dX5_loadDrawn_71 (by decide) (fun c15 => ?_) (fun c15 => ?_)
              · have hf := c15t c15
                refine lv_aload_n hx hb dX5_loadDrawn_74 rfl (lv_at hl 0 rfl) ?_
                refine va_get (D := (dC, dI)) (ci := 5) (v := .ref (a 1)) (C := RX5) (T := TX5) (N := 13) hx hb hts hin5 hown hK hP 0 rfl rfl 1 (by decide) (hts (.fieldLink RX5 13 "BoatRunsModel" "now" "[I") (by decide +kernel)) (fun _ h9 => h9) rfl dX5_loadDrawn_75 ?_
                refine xk_iconst hx hb dX5_loadDrawn_78 ?_
                obtain ⟨v16, ev16, hf⟩ := x_bind hf
                refine xk_iald (f := g5_now x13) hx hb hK hP 1 0 ev16 (by decide) rfl rfl dX5_loadDrawn_79 ?_
                refine xk_bipush hx hb dX5_loadDrawn_80 (by decide) ?_
                obtain ⟨c17a, c17b, c17t, c17f⟩ := x_ltE hf
                refine xk_icmp_ge (tgt := 135) hx hb c17a c17b dX5_loadDrawn_82 (by decide) (fun c17 => ?_) (fun c17 => ?_)
                · have hf := c17t c17
                  refine lv_lload hx hb dX5_loadDrawn_85 (lv_at hl 3 rfl) ?_
                  refine xk_ldc2 (n := 1103515245) hx hb hown (hts (.constantLong RX5 95 (1103515245)) (by decide +kernel)) dX5_loadDrawn_87 (by decide) ?_
                  refine xk_lmul hx hb dX5_loadDrawn_90 ?_
                  refine xk_ldc2 (n := 12345) hx hb hown (hts (.constantLong RX5 97 (12345)) (by decide +kernel)) dX5_loadDrawn_91 (by decide) ?_
                  refine xk_ladd hx hb dX5_loadDrawn_94 ?_
                  refine xk_ldc2 (n := 2147483648) hx hb hown (hts (.constantLong RX5 99 (2147483648)) (by decide +kernel)) dX5_loadDrawn_95 (by decide) ?_
                  obtain ⟨v18, ev18, hf⟩ := x_bind hf
                  refine xk_lrem hx hb ev18 dX5_loadDrawn_98 ?_
                  refine lv_lstore (lv' := [(4, .long (iL v18)), (0, .ref (a 0)), (2, .int (iI p1)), (3, .int (iI p2)), (6, .int (iI v12)), (7, .int (iI l7))]) hx hb dX5_loadDrawn_99 hl (by decide) rfl (fun ls hl => ?_)
                  refine lv_aload_n hx hb dX5_loadDrawn_101 rfl (lv_at hl 1 rfl) ?_
                  refine lv_lload hx hb dX5_loadDrawn_102 (lv_at hl 0 rfl) ?_
                  refine xk_ldc2 (n := 65536) hx hb hown (hts (.constantLong RX5 101 (65536)) (by decide +kernel)) dX5_loadDrawn_104 (by decide) ?_
                  obtain ⟨v19, ev19, hf⟩ := x_bind hf
                  refine xk_ldiv hx hb ev19 dX5_loadDrawn_107 ?_
                  refine lv_iload_n hx hb dX5_loadDrawn_108 rfl (lv_at hl 3 rfl) ?_
                  obtain ⟨hc, hf⟩ := x_ckE hf
                  refine xk_i2l hx hb hc dX5_loadDrawn_109 ?_
                  obtain ⟨v20, ev20, hf⟩ := x_bind hf
                  refine xk_lrem hx hb ev20 dX5_loadDrawn_110 ?_
                  refine xk_l2i hx hb dX5_loadDrawn_111 ?_
                  refine lv_lload hx hb dX5_loadDrawn_112 (lv_at hl 0 rfl) ?_
                  refine xk_ldc2 (n := 1024) hx hb hown (hts (.constantLong RX5 103 (1024)) (by decide +kernel)) dX5_loadDrawn_114 (by decide) ?_
                  obtain ⟨v21, ev21, hf⟩ := x_bind hf
                  refine xk_ldiv hx hb ev21 dX5_loadDrawn_117 ?_
                  refine xk_ldc2 (n := 50) hx hb hown (hts (.constantLong RX5 105 (50)) (by decide +kernel)) dX5_loadDrawn_118 (by decide) ?_
                  obtain ⟨v22, ev22, hf⟩ := x_bind hf
                  refine xk_lrem hx hb ev22 dX5_loadDrawn_121 ?_
                  refine xk_l2i hx hb dX5_loadDrawn_122 ?_
                  refine xk_iconst hx hb dX5_loadDrawn_123 ?_
                  refine xk_iadd hx hb dX5_loadDrawn_124 ?_
                  obtain ⟨⟨v24, x23⟩, ex23, hf⟩ := x_bind hf
                  refine xc_wi (As := [.int (iI v20), .int (iI (v22 + 1))]) (rest := []) ⟨hx, hb, hml, hown, hts⟩ (c5_loadOne l dC dI cs a _ x13 v20 (v22 + 1)  _ ex23) (cwV 2 hts gX5_loadDrawn_X5_loadOne rfl rfl rfl cdX5_loadOne ⟨Nat.le_of_ble_eq_true rfl, Nat.le_of_ble_eq_true rfl⟩) hK hP (x_addr hD rfl) hS hA [0, 1, 2, 3, 4, 5, 6, 7] rfl (by decide) rfl 0 rfl rfl rfl hl.1 rfl (Nat.le_of_ble_eq_true rfl) dX5_loadDrawn_125 ⟨Nat.zero_le _, Nat.zero_le _⟩ (fun H locs hP hS => ?_)
                  have hP : va_P (dC, dI) vwCl (w5 cs a x23) H := hP
                  refine lv_pop hx hb dX5_loadDrawn_128 rfl ?_
                  refine xk_iinc (lv' := [(7, .int (iI (l7 + 1))), (4, .long (iL v18)), (0, .ref (a 0)), (2, .int (iI p1)), (3, .int (iI p2)), (6, .int (iI v12))]) hx hb dX5_loadDrawn_129 hl (k := 5) rfl (by decide) rfl (fun ls hl => ?_)
                  refine lv_goto (tgt := 68) hx hb dX5_loadDrawn_132 (by decide) ?_
                  exact ih68 v18 (l7 + 1) x23 hf _ _ hP hS ls (lv_sub hl [2, 3, 4, 1, 5, 0] rfl)
                · have hf := c17f c17
                  refine lv_aload_n hx hb dX5_loadDrawn_135 rfl (lv_at hl 0 rfl) ?_
                  refine va_get (D := (dC, dI)) (ci := 5) (v := .ref (a 1)) (C := RX5) (T := TX5) (N := 13) hx hb hts hin5 hown hK hP 0 rfl rfl 1 (by decide) (hts (.fieldLink RX5 13 "BoatRunsModel" "now" "[I") (by decide +kernel)) (fun _ h9 => h9) rfl dX5_loadDrawn_136 ?_
                  refine xk_iconst hx hb dX5_loadDrawn_139 ?_
                  obtain ⟨v26, ev26, hf⟩ := x_bind hf
                  refine xk_iald (f := g5_now x13) hx hb hK hP 1 0 ev26 (by decide) rfl rfl dX5_loadDrawn_140 ?_
                  refine lv_iload hx hb dX5_loadDrawn_141 (lv_at hl 4 rfl) ?_
                  refine xk_isub hx hb dX5_loadDrawn_143 ?_
                  obtain rfl := Option.some.inj hf
                  exact xe_wi hx hb hr hlocks hS hP dX5_loadDrawn_144
              · have hf := c15f c15
                refine lv_aload_n hx hb dX5_loadDrawn_135 rfl (lv_at hl 0 rfl) ?_
                refine va_get (D := (dC, dI)) (ci := 5) (v := .ref (a 1)) (C := RX5) (T := TX5) (N := 13) hx hb hts hin5 hown hK hP 0 rfl rfl 1 (by decide) (hts (.fieldLink RX5 13 "BoatRunsModel" "now" "[I") (by decide +kernel)) (fun _ h9 => h9) rfl dX5_loadDrawn_136 ?_
                refine xk_iconst hx hb dX5_loadDrawn_139 ?_
                obtain ⟨v27, ev27, hf⟩ := x_bind hf
                refine xk_iald (f := g5_now x13) hx hb hK hP 1 0 ev27 (by decide) rfl rfl dX5_loadDrawn_140 ?_
                refine lv_iload hx hb dX5_loadDrawn_141 (lv_at hl 4 rfl) ?_
                refine xk_isub hx hb dX5_loadDrawn_143 ?_
                obtain rfl := Option.some.inj hf
                exact xe_wi hx hb hr hlocks hS hP dX5_loadDrawn_144
          exact hL68  xFU p0 0 x11 hf _ _ hP hS ls (lv_sub hl [3, 5, 6, 2, 1, 0] rfl)
theorem cdX5_loadDrawn : yX5_loadDrawn.cls = RX5 ∧ yX5_loadDrawn.cls ≠ "java/lang/invoke/MethodHandle" ∧ yX5_loadDrawn.cls ≠ "java/lang/invoke/VarHandle" ∧ (parseMethodDescriptor yX5_loadDrawn.desc).map (fun d => d.parameters.length) = some 3 := by decide +kernel

set_option maxHeartbeats 4000000 in
set_option maxRecDepth 100000 in
theorem c5_empty (l : Launch) (dC : Nat → ClassId) (dI : Nat → Nat → Nat) (cs : Nat → ClassId) (a : Nat → Nat) (sz : Nat) (x : ModS) (res : Int × ModS) (hf : f5_empty x = some res) : Met l yX5_empty wsX5_empty ({ frames := 6, cells := 0, slots := 0, locals := 129 } : Room) (va_Pc [.ref (a 0)] (xPW (dC, dI) vwCl (w5 cs a x) (xT cs) sz)) (xQi (dC, dI) vwCl (w5 cs a x) (w5 cs a res.2) sz res.1) 0 0 (va_A (w5 cs a x) sz) := by
  refine Met.ofW (cc := cX5_empty) (maxL := 1) (ret := (some .int)) (by decide) rfl ?_
  intro p e s m args below meth c s₁ B hml hv
  obtain ⟨rfl, hsz, hP, hK, hD0⟩ := hv
  have hx := B.exec
  have hb := B.bytes
  have hr := B.returns
  have hts := atoms_spec (ws := wsX5_empty) B.pre
  have hown : s.vm.findClass RX5 = some m.cls := findClass_of_methodNamed B.named
  have hlocks := B.notSynchronized
  have hin5 : ∀ w ∈ wsX50, w ∈ wsX5_empty := by decide +kernel
  subst hsz
  have hD := hD0.self (sz := s.heap.size)
  have hA : ∀ z9 : Nat, s.heap.size ≤ z9 → va_A (w5 cs a x) s.heap.size z9 := fun z9 h => Or.inr h
  have hS : va_S (va_A (w5 cs a x) s.heap.size) s.heap s.heap [] := va_S.rf
  have hl := lv_entry [.ref (a 0)] (n := 1) (Nat.le_of_ble_eq_true rfl)
  rw [lg_entry_eq]
  generalize (lg_sl [.ref (a 0)] ++ List.replicate (1 - (lg_sl [.ref (a 0)]).length) Slot.unset).toArray = ls at hl ⊢
  have hl : lv_has ls 1 [(0, .ref (a 0))] := hl
  unfold f5_empty at hf
  refine lv_aload_n hx hb dX5_empty_0 rfl (lv_at hl 0 rfl) ?_
  refine xk_iconst hx hb dX5_empty_1 ?_
  refine va_put (D := (dC, dI)) (ci := 5) (v := .int (iI 0)) (ty := .int) (C := RX5) (T := TX5) (N := 13) hx hb hts hin5 tyX5 tyX5_ok nmX5 hown hK hP (x_addr hD rfl) hS 0 rfl rfl 0 (by decide) (hts (.fieldLink RX5 1 "BoatRunsModel" "thrown" "I") (by decide +kernel)) (fun _ h9 => h9) rfl (by decide +kernel) rfl rfl (Nat.le_of_ble_eq_true rfl) dX5_empty_2 (fun H locs hP _ hS => ?_)
  have hP : va_P (dC, dI) vwCl (w5C cs a 0 (g5_acts x) (g5_typ x) (g5_lat x) (g5_pos x) (g5_wra x) (g5_now x) (g5_put x) (g5_was x) (g5_txt x) (g5_lef x) (g5_abo x) (g5_ors x)) H := hP
  refine lv_aload_n hx hb dX5_empty_5 rfl (lv_at hl 0 rfl) ?_
  obtain ⟨x1, ex1, hf⟩ := x_bind hf
  refine xc_wv (As := []) (rest := []) ⟨hx, hb, hml, hown, hts⟩ (c5_save l dC dI cs a _ (s5_thr x 0)  _ ex1) (cwV 0 hts gX5_empty_X5_save rfl rfl rfl cdX5_save ⟨Nat.le_of_ble_eq_true rfl, Nat.le_of_ble_eq_true rfl⟩) hK hP (x_addr hD rfl) hS hA [0, 1, 2, 3, 4, 5, 6, 7] rfl (by decide) rfl 0 rfl rfl rfl hl.1 rfl (Nat.le_of_ble_eq_true rfl) dX5_empty_6 ⟨Nat.zero_le _, Nat.zero_le _⟩ (fun H locs hP hS => ?_)
  have hP : va_P (dC, dI) vwCl (w5 cs a x1) H := hP
  refine lv_aload_n hx hb dX5_empty_9 rfl (lv_at hl 0 rfl) ?_
  obtain ⟨x2, ex2, hf⟩ := x_bind hf
  refine xc_wv (As := []) (rest := []) ⟨hx, hb, hml, hown, hts⟩ (c5_emptyAll l dC dI cs a _ x1  _ ex2) (cwV 0 hts gX5_empty_X5_emptyAll rfl rfl rfl cdX5_emptyAll ⟨Nat.le_of_ble_eq_true rfl, Nat.le_of_ble_eq_true rfl⟩) hK hP (x_addr hD rfl) hS hA [0, 1, 2, 3, 4, 5, 6, 7] rfl (by decide) rfl 0 rfl rfl rfl hl.1 rfl (Nat.le_of_ble_eq_true rfl) dX5_empty_10 ⟨Nat.zero_le _, Nat.zero_le _⟩ (fun H locs hP hS => ?_)
  have hP : va_P (dC, dI) vwCl (w5 cs a x2) H := hP
  refine lv_aload_n hx hb dX5_empty_13 rfl (lv_at hl 0 rfl) ?_
  refine va_get (D := (dC, dI)) (ci := 5) (v := .ref (a 1)) (C := RX5) (T := TX5) (N := 13) hx hb hts hin5 hown hK hP 0 rfl rfl 1 (by decide) (hts (.fieldLink RX5 13 "BoatRunsModel" "now" "[I") (by decide +kernel)) (fun _ h9 => h9) rfl dX5_empty_14 ?_
  refine xk_bipush hx hb dX5_empty_17 (by decide) ?_
  obtain ⟨v3, ev3, hf⟩ := x_bind hf
  refine xk_iald (f := g5_now x2) hx hb hK hP 1 0 ev3 (by decide) rfl rfl dX5_empty_19 ?_
  obtain rfl := Option.some.inj hf
  exact xe_wi hx hb hr hlocks hS hP dX5_empty_20
theorem cdX5_empty : yX5_empty.cls = RX5 ∧ yX5_empty.cls ≠ "java/lang/invoke/MethodHandle" ∧ yX5_empty.cls ≠ "java/lang/invoke/VarHandle" ∧ (parseMethodDescriptor yX5_empty.desc).map (fun d => d.parameters.length) = some 0 := by decide +kernel

set_option maxHeartbeats 4000000 in
set_option maxRecDepth 100000 in
theorem c5_mergeBoth (l : Launch) (dC : Nat → ClassId) (dI : Nat → Nat → Nat) (cs : Nat → ClassId) (a : Nat → Nat) (sz : Nat) (x : ModS) (p0 : Int) (p1 : Int) (res : Int × ModS) (hf : f5_mergeBoth x p0 p1 = some res) : Met l yX5_mergeBoth wsX5_mergeBoth ({ frames := 3, cells := 0, slots := 0, locals := 67 } : Room) (va_Pc [.ref (a 0), .int (iI p0), .int (iI p1)] (xPW (dC, dI) vwCl (w5 cs a x) (xT cs) sz)) (xQi (dC, dI) vwCl (w5 cs a x) (w5 cs a res.2) sz res.1) 0 0 (va_A (w5 cs a x) sz) := by
  refine Met.ofW (cc := cX5_mergeBoth) (maxL := 6) (ret := (some .int)) (by decide) rfl ?_
  intro p e s m args below meth c s₁ B hml hv
  obtain ⟨rfl, hsz, hP, hK, hD0⟩ := hv
  have hx := B.exec
  have hb := B.bytes
  have hr := B.returns
  have hts := atoms_spec (ws := wsX5_mergeBoth) B.pre
  have hown : s.vm.findClass RX5 = some m.cls := findClass_of_methodNamed B.named
  have hlocks := B.notSynchronized
  have hin5 : ∀ w ∈ wsX50, w ∈ wsX5_mergeBoth := by decide +kernel
  subst hsz
  have hD := hD0.self (sz := s.heap.size)
  have hA : ∀ z9 : Nat, s.heap.size ≤ z9 → va_A (w5 cs a x) s.heap.size z9 := fun z9 h => Or.inr h
  have hS : va_S (va_A (w5 cs a x) s.heap.size) s.heap s.heap [] := va_S.rf
  have hl := lv_entry [.ref (a 0), .int (iI p0), .int (iI p1)] (n := 6) (Nat.le_of_ble_eq_true rfl)
  rw [lg_entry_eq]
  generalize (lg_sl [.ref (a 0), .int (iI p0), .int (iI p1)] ++ List.replicate (6 - (lg_sl [.ref (a 0), .int (iI p0), .int (iI p1)]).length) Slot.unset).toArray = ls at hl ⊢
  have hl : lv_has ls 6 [(0, .ref (a 0)), (1, .int (iI p0)), (2, .int (iI p1))] := hl
  unfold f5_mergeBoth at hf
  refine lv_iload_n hx hb dX5_mergeBoth_0 rfl (lv_at hl 1 rfl) ?_
  refine lv_iload_n hx hb dX5_mergeBoth_1 rfl (lv_at hl 2 rfl) ?_
  obtain ⟨c1a, c1b, c1t, c1f⟩ := x_ltE hf
  refine xk_icmp_ge (tgt := 9) hx hb c1a c1b dX5_mergeBoth_2 (by decide) (fun c1 => ?_) (fun c1 => ?_)
  · have hf := c1t c1
    refine lv_iload_n hx hb dX5_mergeBoth_5 rfl (lv_at hl 1 rfl) ?_
    refine lv_goto (tgt := 10) hx hb dX5_mergeBoth_6 (by decide) ?_
    refine lv_istore_n (lv' := [(3, .int (iI p0)), (0, .ref (a 0)), (1, .int (iI p0)), (2, .int (iI p1))]) hx hb dX5_mergeBoth_10 rfl hl (by decide) rfl (fun ls hl => ?_)
    refine lv_iload_n hx hb dX5_mergeBoth_11 rfl (lv_at hl 2 rfl) ?_
    refine lv_iload_n hx hb dX5_mergeBoth_12 rfl (lv_at hl 3 rfl) ?_
    obtain ⟨c2a, c2b, c2t, c2f⟩ := x_ltE hf
    refine xk_icmp_ge (tgt := 20) hx hb c2a c2b dX5_mergeBoth_13 (by decide) (fun c2 => ?_) (fun c2 => ?_)
    · have hf := c2t c2
      refine lv_iload_n hx hb dX5_mergeBoth_16 rfl (lv_at hl 3 rfl) ?_
      refine lv_goto (tgt := 21) hx hb dX5_mergeBoth_17 (by decide) ?_
      refine lv_istore (lv' := [(4, .int (iI p1)), (3, .int (iI p0)), (0, .ref (a 0)), (1, .int (iI p0)), (2, .int (iI p1))]) hx hb dX5_mergeBoth_21 hl (by decide) rfl (fun ls hl => ?_)
      refine xk_iconst hx hb dX5_mergeBoth_23 ?_
      refine lv_istore (lv' := [(5, .int (iI 0)), (4, .int (iI p1)), (3, .int (iI p0)), (0, .ref (a 0)), (1, .int (iI p0)), (2, .int (iI p1))]) hx hb dX5_mergeBoth_24 hl (by decide) rfl (fun ls hl => ?_)
      have hL26 : ∀ (k3 : Int) (k4 : Int) (n128 : Nat) (l5 : Int) (x127 : ModS), f5_mergeBoth_L26 k3 k4 n128 l5 x127 = some res → ∀ (H : Heap) (locs : List Loc), va_P (dC, dI) vwCl (w5 cs a x127) H → va_S (va_A (w5 cs a x) s.heap.size) s.heap H locs → ∀ (ls : Array Slot), lv_has ls 6 [(0, .ref (a 0)), (3, .int (iI k3)), (4, .int (iI k4)), (5, .int (iI l5))] → W p l e (headSpec wsX5_mergeBoth ({ frames := 3, cells := 0, slots := 0, locals := 67 } : Room)).room s m ([.ref (a 0), .int (iI p0), .int (iI p1)] : List Value).toArray below meth c H locs 0 0 (MQ below (xQi (dC, dI) vwCl (w5 cs a x) (w5 cs a res.2) s.heap.size res.1) ([.ref (a 0), .int (iI p0), .int (iI p1)] : List Value).toArray s 0 0 (va_A (w5 cs a x) s.heap.size)) (F0 m 26 ls []) := by
        intro k3 k4 n128
        induction n128 with
        | zero => intro l5 x127 hf; have hf : (none : Option (Int × ModS)) = some res := hf; cases hf
        | succ n128 ih26 =>
          intro l5 x127 hf H locs hP hS ls hl
          rw [f5_mergeBoth_L26] at hf
          refine lv_iload hx hb dX5_mergeBoth_26 (lv_at hl 3 rfl) ?_
          refine lv_aload_n hx hb dX5_mergeBoth_28 rfl (lv_at hl 0 rfl) ?_
          refine va_get (D := (dC, dI)) (ci := 5) (v := .ref (a 1)) (C := RX5) (T := TX5) (N := 13) hx hb hts hin5 hown hK hP 0 rfl rfl 1 (by decide) (hts (.fieldLink RX5 13 "BoatRunsModel" "now" "[I") (by decide +kernel)) (fun _ h9 => h9) rfl dX5_mergeBoth_29 ?_
          refine xk_iconst hx hb dX5_mergeBoth_32 ?_
          obtain ⟨v129, ev129, hf⟩ := x_bind hf
          refine xk_iald (f := g5_now x127) hx hb hK hP 1 0 ev129 (by decide) rfl rfl dX5_mergeBoth_33 ?_
          obtain ⟨c130a, c130b, c130t, c130f⟩ := x_ltE hf
          refine xk_icmp_ge (tgt := 62) hx hb c130a c130b dX5_mergeBoth_34 (by decide) (fun c130 => ?_) (fun c130 => ?_)
          · have hf := c130t c130
            refine lv_aload_n hx hb dX5_mergeBoth_37 rfl (lv_at hl 0 rfl) ?_
            refine lv_iload hx hb dX5_mergeBoth_38 (lv_at hl 3 rfl) ?_
            refine lv_iload hx hb dX5_mergeBoth_40 (lv_at hl 2 rfl) ?_
            obtain ⟨v131, ev131, hf⟩ := x_bind hf
            refine xc_ri (As := [.int (iI l5), .int (iI k4)]) (rest := []) ⟨hx, hb, hml, hown, hts⟩ (c5_isOf l dC dI cs a x127 l5 k4  _ ev131) (cwV 2 hts gX5_mergeBoth_X5_isOf rfl rfl rfl cdX5_isOf ⟨Nat.le_of_ble_eq_true rfl, Nat.le_of_ble_eq_true rfl⟩) hK hP [0, 1, 2, 3, 4, 5, 6, 7] rfl 0 rfl rfl rfl hl.1 rfl (Nat.le_of_ble_eq_true rfl) dX5_mergeBoth_42 ⟨Nat.zero_le _, Nat.zero_le _⟩ ?_
            obtain ⟨c132a, c132b, c132t, c132f⟩ := x_eqE hf
            refine xk_if_eq (tgt := 56) hx hb c132a dX5_mergeBoth_45 (by decide) (fun c132 => ?_) (fun c132 => ?_)
            · have hf := c132t c132
              refine xk_iinc (lv' := [(5, .int (iI (l5 + 1))), (0, .ref (a 0)), (3, .int (iI k3)), (4, .int (iI k4))]) hx hb dX5_mergeBoth_56 hl (k := 3) rfl (by decide) rfl (fun ls hl => ?_)
              refine lv_goto (tgt := 26) hx hb dX5_mergeBoth_59 (by decide) ?_
              exact ih26 (l5 + 1) x127 hf _ _ hP hS ls (lv_sub hl [1, 2, 3, 0] rfl)
            · have hf := c132f c132
              refine lv_aload_n hx hb dX5_mergeBoth_48 rfl (lv_at hl 0 rfl) ?_
              refine lv_iload hx hb dX5_mergeBoth_49 (lv_at hl 3 rfl) ?_
              refine xk_iconst hx hb dX5_mergeBoth_51 ?_
              refine lv_iload_n hx hb dX5_mergeBoth_52 rfl (lv_at hl 1 rfl) ?_
              obtain ⟨x133, ex133, hf⟩ := x_bind hf
              refine xc_wv (As := [.int (iI l5), .int (iI 3), .int (iI k3)]) (rest := []) ⟨hx, hb, hml, hown, hts⟩ (c5_be l dC dI cs a _ x127 l5 3 k3  _ ex133) (cwV 3 hts gX5_mergeBoth_X5_be rfl rfl rfl cdX5_be ⟨Nat.le_of_ble_eq_true rfl, Nat.le_of_ble_eq_true rfl⟩) hK hP (x_addr hD rfl) hS hA [0, 1, 2, 3, 4, 5, 6, 7] rfl (by decide) rfl 0 rfl rfl rfl hl.1 rfl (Nat.le_of_ble_eq_true rfl) dX5_mergeBoth_53 ⟨Nat.zero_le _, Nat.zero_le _⟩ (fun H locs hP hS => ?_)
              have hP : va_P (dC, dI) vwCl (w5 cs a x133) H := hP
              refine xk_iinc (lv' := [(5, .int (iI (l5 + 1))), (0, .ref (a 0)), (3, .int (iI k3)), (4, .int (iI k4))]) hx hb dX5_mergeBoth_56 hl (k := 3) rfl (by decide) rfl (fun ls hl => ?_)
              refine lv_goto (tgt := 26) hx hb dX5_mergeBoth_59 (by decide) ?_
              exact ih26 (l5 + 1) x133 hf _ _ hP hS ls (lv_sub hl [1, 2, 3, 0] rfl)
          · have hf := c130f c130
            refine lv_aload_n hx hb dX5_mergeBoth_62 rfl (lv_at hl 0 rfl) ?_
            refine lv_aload_n hx hb dX5_mergeBoth_63 rfl (lv_at hl 0 rfl) ?_
            refine lv_iload hx hb dX5_mergeBoth_64 (lv_at hl 2 rfl) ?_
            obtain ⟨v134, ev134, hf⟩ := x_bind hf
            refine xc_ri (As := [.int (iI k4)]) (rest := [.ref (a 0)]) ⟨hx, hb, hml, hown, hts⟩ (c5_placeOf l dC dI cs a x127 k4  _ ev134) (cwV 1 hts gX5_mergeBoth_X5_placeOf rfl rfl rfl cdX5_placeOf ⟨Nat.le_of_ble_eq_true rfl, Nat.le_of_ble_eq_true rfl⟩) hK hP [0, 1, 2, 3, 4, 5, 6, 7] rfl 0 rfl rfl rfl hl.1 rfl (Nat.le_of_ble_eq_true rfl) dX5_mergeBoth_66 ⟨Nat.zero_le _, Nat.zero_le _⟩ ?_
            obtain ⟨x135, ex135, hf⟩ := x_bind hf
            refine xc_wv (As := [.int (iI v134)]) (rest := []) ⟨hx, hb, hml, hown, hts⟩ (c5_dropRun l dC dI cs a _ x127 v134  _ ex135) (cwV 1 hts gX5_mergeBoth_X5_dropRun rfl rfl rfl cdX5_dropRun ⟨Nat.le_of_ble_eq_true rfl, Nat.le_of_ble_eq_true rfl⟩) hK hP (x_addr hD rfl) hS hA [0, 1, 2, 3, 4, 5, 6, 7] rfl (by decide) rfl 0 rfl rfl rfl hl.1 rfl (Nat.le_of_ble_eq_true rfl) dX5_mergeBoth_69 ⟨Nat.zero_le _, Nat.zero_le _⟩ (fun H locs hP hS => ?_)
            have hP : va_P (dC, dI) vwCl (w5 cs a x135) H := hP
            refine lv_aload_n hx hb dX5_mergeBoth_72 rfl (lv_at hl 0 rfl) ?_
            refine va_get (D := (dC, dI)) (ci := 5) (v := .ref (a 1)) (C := RX5) (T := TX5) (N := 13) hx hb hts hin5 hown hK hP 0 rfl rfl 1 (by decide) (hts (.fieldLink RX5 13 "BoatRunsModel" "now" "[I") (by decide +kernel)) (fun _ h9 => h9) rfl dX5_mergeBoth_73 ?_
            refine xk_bipush hx hb dX5_mergeBoth_76 (by decide) ?_
            refine lv_aload_n hx hb dX5_mergeBoth_78 rfl (lv_at hl 0 rfl) ?_
            refine va_get (D := (dC, dI)) (ci := 5) (v := .ref (a 1)) (C := RX5) (T := TX5) (N := 13) hx hb hts hin5 hown hK hP 0 rfl rfl 1 (by decide) (hts (.fieldLink RX5 13 "BoatRunsModel" "now" "[I") (by decide +kernel)) (fun _ h9 => h9) rfl dX5_mergeBoth_79 ?_
            refine xk_bipush hx hb dX5_mergeBoth_82 (by decide) ?_
            obtain ⟨v136, ev136, hf⟩ := x_bind hf
            refine xk_iald (f := g5_now x135) hx hb hK hP 1 0 ev136 (by decide) rfl rfl dX5_mergeBoth_84 ?_
            refine lv_iload_n hx hb dX5_mergeBoth_85 rfl (lv_at hl 1 rfl) ?_
            obtain ⟨c137a, c137b, c137t, c137f⟩ := x_eqE hf
            refine xk_icmp_eq (tgt := 101) hx hb c137a c137b dX5_mergeBoth_86 (by decide) (fun c137 => ?_) (fun c137 => ?_)
            · have hf := c137t c137
              refine xk_iconst hx hb dX5_mergeBoth_101 ?_
              refine lv_goto (tgt := 112) hx hb dX5_mergeBoth_102 (by decide) ?_
              obtain ⟨g138, eg138, hf⟩ := x_bind hf
              refine xk_iast (f := g5_now x135) hx hb hK hP (x_addr hD rfl) hS 1 0 eg138 (by decide) rfl rfl dX5_mergeBoth_112 (fun H locs hP hS => ?_)
              have hP : va_P (dC, dI) vwCl (w5C cs a (g5_thr x135) (g5_acts x135) (g5_typ x135) (g5_lat x135) (g5_pos x135) (g5_wra x135) g138 (g5_put x135) (g5_was x135) (g5_txt x135) (g5_lef x135) (g5_abo x135) (g5_ors x135)) H := hP
              refine lv_aload_n hx hb dX5_mergeBoth_113 rfl (lv_at hl 0 rfl) ?_
              refine lv_iload_n hx hb dX5_mergeBoth_114 rfl (lv_at hl 1 rfl) ?_
              obtain ⟨v139, ev139, hf⟩ := x_bind hf
              refine xc_ri (As := [.int (iI k3)]) (rest := []) ⟨hx, hb, hml, hown, hts⟩ (c5_weightOf l dC dI cs a (s5_now x135 g138) k3  _ ev139) (cwV 1 hts gX5_mergeBoth_X5_weightOf rfl rfl rfl cdX5_weightOf ⟨Nat.le_of_ble_eq_true rfl, Nat.le_of_ble_eq_true rfl⟩) hK hP [0, 1, 2, 3, 4, 5, 6, 7] rfl 0 rfl rfl rfl hl.1 rfl (Nat.le_of_ble_eq_true rfl) dX5_mergeBoth_115 ⟨Nat.zero_le _, Nat.zero_le _⟩ ?_
              refine lv_istore (lv' := [(5, .int (iI v139)), (0, .ref (a 0)), (3, .int (iI k3)), (4, .int (iI k4))]) hx hb dX5_mergeBoth_118 hl (by decide) rfl (fun ls hl => ?_)
              refine lv_aload_n hx hb dX5_mergeBoth_120 rfl (lv_at hl 1 rfl) ?_
              refine va_get (D := (dC, dI)) (ci := 5) (v := .ref (a 1)) (C := RX5) (T := TX5) (N := 13) hx hb hts hin5 hown hK hP 0 rfl rfl 1 (by decide) (hts (.fieldLink RX5 13 "BoatRunsModel" "now" "[I") (by decide +kernel)) (fun _ h9 => h9) rfl dX5_mergeBoth_121 ?_
              refine xk_iconst hx hb dX5_mergeBoth_124 ?_
              refine lv_dup2_11 hx hb dX5_mergeBoth_125 rfl rfl ?_
              obtain ⟨v140, ev140, hf⟩ := x_bind hf
              refine xk_iald (f := g138) hx hb hK hP 1 0 ev140 (by decide) rfl rfl dX5_mergeBoth_126 ?_
              refine lv_iload hx hb dX5_mergeBoth_127 (lv_at hl 0 rfl) ?_
              refine xk_iadd hx hb dX5_mergeBoth_129 ?_
              obtain ⟨g141, eg141, hf⟩ := x_bind hf
              refine xk_iast (f := g138) hx hb hK hP (x_addr hD rfl) hS 1 0 eg141 (by decide) rfl rfl dX5_mergeBoth_130 (fun H locs hP hS => ?_)
              have hP : va_P (dC, dI) vwCl (w5C cs a (g5_thr x135) (g5_acts x135) (g5_typ x135) (g5_lat x135) (g5_pos x135) (g5_wra x135) g141 (g5_put x135) (g5_was x135) (g5_txt x135) (g5_lef x135) (g5_abo x135) (g5_ors x135)) H := hP
              refine lv_aload_n hx hb dX5_mergeBoth_131 rfl (lv_at hl 1 rfl) ?_
              refine va_get (D := (dC, dI)) (ci := 5) (v := .ref (a 1)) (C := RX5) (T := TX5) (N := 13) hx hb hts hin5 hown hK hP 0 rfl rfl 1 (by decide) (hts (.fieldLink RX5 13 "BoatRunsModel" "now" "[I") (by decide +kernel)) (fun _ h9 => h9) rfl dX5_mergeBoth_132 ?_
              refine xk_iconst hx hb dX5_mergeBoth_135 ?_
              refine lv_dup2_11 hx hb dX5_mergeBoth_136 rfl rfl ?_
              obtain ⟨v142, ev142, hf⟩ := x_bind hf
              refine xk_iald (f := g141) hx hb hK hP 1 0 ev142 (by decide) rfl rfl dX5_mergeBoth_137 ?_
              refine xk_iconst hx hb dX5_mergeBoth_138 ?_
              refine xk_iadd hx hb dX5_mergeBoth_139 ?_
              obtain ⟨g143, eg143, hf⟩ := x_bind hf
              refine xk_iast (f := g141) hx hb hK hP (x_addr hD rfl) hS 1 0 eg143 (by decide) rfl rfl dX5_mergeBoth_140 (fun H locs hP hS => ?_)
              have hP : va_P (dC, dI) vwCl (w5C cs a (g5_thr x135) (g5_acts x135) (g5_typ x135) (g5_lat x135) (g5_pos x135) (g5_wra x135) g143 (g5_put x135) (g5_was x135) (g5_txt x135) (g5_lef x135) (g5_abo x135) (g5_ors x135)) H := hP
              refine lv_iload hx hb dX5_mergeBoth_141 (lv_at hl 0 rfl) ?_
              obtain rfl := Option.some.inj hf
              exact xe_wi hx hb hr hlocks hS hP dX5_mergeBoth_143
            · have hf := c137f c137
              refine lv_aload_n hx hb dX5_mergeBoth_89 rfl (lv_at hl 0 rfl) ?_
              refine va_get (D := (dC, dI)) (ci := 5) (v := .ref (a 1)) (C := RX5) (T := TX5) (N := 13) hx hb hts hin5 hown hK hP 0 rfl rfl 1 (by decide) (hts (.fieldLink RX5 13 "BoatRunsModel" "now" "[I") (by decide +kernel)) (fun _ h9 => h9) rfl dX5_mergeBoth_90 ?_
              refine xk_bipush hx hb dX5_mergeBoth_93 (by decide) ?_
              obtain ⟨v144, ev144, hf⟩ := x_bind hf
              refine xk_iald (f := g5_now x135) hx hb hK hP 1 0 ev144 (by decide) rfl rfl dX5_mergeBoth_95 ?_
              refine lv_iload hx hb dX5_mergeBoth_96 (lv_at hl 2 rfl) ?_
              obtain ⟨c145a, c145b, c145t, c145f⟩ := x_eqE hf
              refine xk_icmp_ne (tgt := 105) hx hb c145a c145b dX5_mergeBoth_98 (by decide) (fun c145 => ?_) (fun c145 => ?_)
              · have hf := c145t c145
                refine xk_iconst hx hb dX5_mergeBoth_101 ?_
                refine lv_goto (tgt := 112) hx hb dX5_mergeBoth_102 (by decide) ?_
                obtain ⟨g146, eg146, hf⟩ := x_bind hf
                refine xk_iast (f := g5_now x135) hx hb hK hP (x_addr hD rfl) hS 1 0 eg146 (by decide) rfl rfl dX5_mergeBoth_112 (fun H locs hP hS => ?_)
                have hP : va_P (dC, dI) vwCl (w5C cs a (g5_thr x135) (g5_acts x135) (g5_typ x135) (g5_lat x135) (g5_pos x135) (g5_wra x135) g146 (g5_put x135) (g5_was x135) (g5_txt x135) (g5_lef x135) (g5_abo x135) (g5_ors x135)) H := hP
                refine lv_aload_n hx hb dX5_mergeBoth_113 rfl (lv_at hl 0 rfl) ?_
                refine lv_iload_n hx hb dX5_mergeBoth_114 rfl (lv_at hl 1 rfl) ?_
                obtain ⟨v147, ev147, hf⟩ := x_bind hf
                refine xc_ri (As := [.int (iI k3)]) (rest := []) ⟨hx, hb, hml, hown, hts⟩ (c5_weightOf l dC dI cs a (s5_now x135 g146) k3  _ ev147) (cwV 1 hts gX5_mergeBoth_X5_weightOf rfl rfl rfl cdX5_weightOf ⟨Nat.le_of_ble_eq_true rfl, Nat.le_of_ble_eq_true rfl⟩) hK hP [0, 1, 2, 3, 4, 5, 6, 7] rfl 0 rfl rfl rfl hl.1 rfl (Nat.le_of_ble_eq_true rfl) dX5_mergeBoth_115 ⟨Nat.zero_le _, Nat.zero_le _⟩ ?_
                refine lv_istore (lv' := [(5, .int (iI v147)), (0, .ref (a 0)), (3, .int (iI k3)), (4, .int (iI k4))]) hx hb dX5_mergeBoth_118 hl (by decide) rfl (fun ls hl => ?_)
                refine lv_aload_n hx hb dX5_mergeBoth_120 rfl (lv_at hl 1 rfl) ?_
                refine va_get (D := (dC, dI)) (ci := 5) (v := .ref (a 1)) (C := RX5) (T := TX5) (N := 13) hx hb hts hin5 hown hK hP 0 rfl rfl 1 (by decide) (hts (.fieldLink RX5 13 "BoatRunsModel" "now" "[I") (by decide +kernel)) (fun _ h9 => h9) rfl dX5_mergeBoth_121 ?_
                refine xk_iconst hx hb dX5_mergeBoth_124 ?_
                refine lv_dup2_11 hx hb dX5_mergeBoth_125 rfl rfl ?_
                obtain ⟨v148, ev148, hf⟩ := x_bind hf
                refine xk_iald (f := g146) hx hb hK hP 1 0 ev148 (by decide) rfl rfl dX5_mergeBoth_126 ?_
                refine lv_iload hx hb dX5_mergeBoth_127 (lv_at hl 0 rfl) ?_
                refine xk_iadd hx hb dX5_mergeBoth_129 ?_
                obtain ⟨g149, eg149, hf⟩ := x_bind hf
                refine xk_iast (f := g146) hx hb hK hP (x_addr hD rfl) hS 1 0 eg149 (by decide) rfl rfl dX5_mergeBoth_130 (fun H locs hP hS => ?_)
                have hP : va_P (dC, dI) vwCl (w5C cs a (g5_thr x135) (g5_acts x135) (g5_typ x135) (g5_lat x135) (g5_pos x135) (g5_wra x135) g149 (g5_put x135) (g5_was x135) (g5_txt x135) (g5_lef x135) (g5_abo x135) (g5_ors x135)) H := hP
                refine lv_aload_n hx hb dX5_mergeBoth_131 rfl (lv_at hl 1 rfl) ?_
                refine va_get (D := (dC, dI)) (ci := 5) (v := .ref (a 1)) (C := RX5) (T := TX5) (N := 13) hx hb hts hin5 hown hK hP 0 rfl rfl 1 (by decide) (hts (.fieldLink RX5 13 "BoatRunsModel" "now" "[I") (by decide +kernel)) (fun _ h9 => h9) rfl dX5_mergeBoth_132 ?_
                refine xk_iconst hx hb dX5_mergeBoth_135 ?_
                refine lv_dup2_11 hx hb dX5_mergeBoth_136 rfl rfl ?_
                obtain ⟨v150, ev150, hf⟩ := x_bind hf
                refine xk_iald (f := g149) hx hb hK hP 1 0 ev150 (by decide) rfl rfl dX5_mergeBoth_137 ?_
                refine xk_iconst hx hb dX5_mergeBoth_138 ?_
                refine xk_iadd hx hb dX5_mergeBoth_139 ?_
                obtain ⟨g151, eg151, hf⟩ := x_bind hf
                refine xk_iast (f := g149) hx hb hK hP (x_addr hD rfl) hS 1 0 eg151 (by decide) rfl rfl dX5_mergeBoth_140 (fun H locs hP hS => ?_)
                have hP : va_P (dC, dI) vwCl (w5C cs a (g5_thr x135) (g5_acts x135) (g5_typ x135) (g5_lat x135) (g5_pos x135) (g5_wra x135) g151 (g5_put x135) (g5_was x135) (g5_txt x135) (g5_lef x135) (g5_abo x135) (g5_ors x135)) H := hP
                refine lv_iload hx hb dX5_mergeBoth_141 (lv_at hl 0 rfl) ?_
                obtain rfl := Option.some.inj hf
                exact xe_wi hx hb hr hlocks hS hP dX5_mergeBoth_143
              · have hf := c145f c145
                refine lv_aload_n hx hb dX5_mergeBoth_105 rfl (lv_at hl 0 rfl) ?_
                refine va_get (D := (dC, dI)) (ci := 5) (v := .ref (a 1)) (C := RX5) (T := TX5) (N := 13) hx hb hts hin5 hown hK hP 0 rfl rfl 1 (by decide) (hts (.fieldLink RX5 13 "BoatRunsModel" "now" "[I") (by decide +kernel)) (fun _ h9 => h9) rfl dX5_mergeBoth_106 ?_
                refine xk_bipush hx hb dX5_mergeBoth_109 (by decide) ?_
                obtain ⟨v152, ev152, hf⟩ := x_bind hf
                refine xk_iald (f := g5_now x135) hx hb hK hP 1 0 ev152 (by decide) rfl rfl dX5_mergeBoth_111 ?_
                obtain ⟨g153, eg153, hf⟩ := x_bind hf
                refine xk_iast (f := g5_now x135) hx hb hK hP (x_addr hD rfl) hS 1 0 eg153 (by decide) rfl rfl dX5_mergeBoth_112 (fun H locs hP hS => ?_)
                have hP : va_P (dC, dI) vwCl (w5C cs a (g5_thr x135) (g5_acts x135) (g5_typ x135) (g5_lat x135) (g5_pos x135) (g5_wra x135) g153 (g5_put x135) (g5_was x135) (g5_txt x135) (g5_lef x135) (g5_abo x135) (g5_ors x135)) H := hP
                refine lv_aload_n hx hb dX5_mergeBoth_113 rfl (lv_at hl 0 rfl) ?_
                refine lv_iload_n hx hb dX5_mergeBoth_114 rfl (lv_at hl 1 rfl) ?_
                obtain ⟨v154, ev154, hf⟩ := x_bind hf
                refine xc_ri (As := [.int (iI k3)]) (rest := []) ⟨hx, hb, hml, hown, hts⟩ (c5_weightOf l dC dI cs a (s5_now x135 g153) k3  _ ev154) (cwV 1 hts gX5_mergeBoth_X5_weightOf rfl rfl rfl cdX5_weightOf ⟨Nat.le_of_ble_eq_true rfl, Nat.le_of_ble_eq_true rfl⟩) hK hP [0, 1, 2, 3, 4, 5, 6, 7] rfl 0 rfl rfl rfl hl.1 rfl (Nat.le_of_ble_eq_true rfl) dX5_mergeBoth_115 ⟨Nat.zero_le _, Nat.zero_le _⟩ ?_
                refine lv_istore (lv' := [(5, .int (iI v154)), (0, .ref (a 0)), (3, .int (iI k3)), (4, .int (iI k4))]) hx hb dX5_mergeBoth_118 hl (by decide) rfl (fun ls hl => ?_)
                refine lv_aload_n hx hb dX5_mergeBoth_120 rfl (lv_at hl 1 rfl) ?_
                refine va_get (D := (dC, dI)) (ci := 5) (v := .ref (a 1)) (C := RX5) (T := TX5) (N := 13) hx hb hts hin5 hown hK hP 0 rfl rfl 1 (by decide) (hts (.fieldLink RX5 13 "BoatRunsModel" "now" "[I") (by decide +kernel)) (fun _ h9 => h9) rfl dX5_mergeBoth_121 ?_
                refine xk_iconst hx hb dX5_mergeBoth_124 ?_
                refine lv_dup2_11 hx hb dX5_mergeBoth_125 rfl rfl ?_
                obtain ⟨v155, ev155, hf⟩ := x_bind hf
                refine xk_iald (f := g153) hx hb hK hP 1 0 ev155 (by decide) rfl rfl dX5_mergeBoth_126 ?_
                refine lv_iload hx hb dX5_mergeBoth_127 (lv_at hl 0 rfl) ?_
                refine xk_iadd hx hb dX5_mergeBoth_129 ?_
                obtain ⟨g156, eg156, hf⟩ := x_bind hf
                refine xk_iast (f := g153) hx hb hK hP (x_addr hD rfl) hS 1 0 eg156 (by decide) rfl rfl dX5_mergeBoth_130 (fun H locs hP hS => ?_)
                have hP : va_P (dC, dI) vwCl (w5C cs a (g5_thr x135) (g5_acts x135) (g5_typ x135) (g5_lat x135) (g5_pos x135) (g5_wra x135) g156 (g5_put x135) (g5_was x135) (g5_txt x135) (g5_lef x135) (g5_abo x135) (g5_ors x135)) H := hP
                refine lv_aload_n hx hb dX5_mergeBoth_131 rfl (lv_at hl 1 rfl) ?_
                refine va_get (D := (dC, dI)) (ci := 5) (v := .ref (a 1)) (C := RX5) (T := TX5) (N := 13) hx hb hts hin5 hown hK hP 0 rfl rfl 1 (by decide) (hts (.fieldLink RX5 13 "BoatRunsModel" "now" "[I") (by decide +kernel)) (fun _ h9 => h9) rfl dX5_mergeBoth_132 ?_
                refine xk_iconst hx hb dX5_mergeBoth_135 ?_
                refine lv_dup2_11 hx hb dX5_mergeBoth_136 rfl rfl ?_
                obtain ⟨v157, ev157, hf⟩ := x_bind hf
                refine xk_iald (f := g156) hx hb hK hP 1 0 ev157 (by decide) rfl rfl dX5_mergeBoth_137 ?_
                refine xk_iconst hx hb dX5_mergeBoth_138 ?_
                refine xk_iadd hx hb dX5_mergeBoth_139 ?_
                obtain ⟨g158, eg158, hf⟩ := x_bind hf
                refine xk_iast (f := g156) hx hb hK hP (x_addr hD rfl) hS 1 0 eg158 (by decide) rfl rfl dX5_mergeBoth_140 (fun H locs hP hS => ?_)
                have hP : va_P (dC, dI) vwCl (w5C cs a (g5_thr x135) (g5_acts x135) (g5_typ x135) (g5_lat x135) (g5_pos x135) (g5_wra x135) g158 (g5_put x135) (g5_was x135) (g5_txt x135) (g5_lef x135) (g5_abo x135) (g5_ors x135)) H := hP
                refine lv_iload hx hb dX5_mergeBoth_141 (lv_at hl 0 rfl) ?_
                obtain rfl := Option.some.inj hf
                exact xe_wi hx hb hr hlocks hS hP dX5_mergeBoth_143
      exact hL26 p0 p1 xFU 0 x hf _ _ hP hS ls (lv_sub hl [3, 2, 1, 0] rfl)
    · have hf := c2f c2
      refine lv_iload_n hx hb dX5_mergeBoth_20 rfl (lv_at hl 2 rfl) ?_
      refine lv_istore (lv' := [(4, .int (iI p0)), (3, .int (iI p0)), (0, .ref (a 0)), (1, .int (iI p0)), (2, .int (iI p1))]) hx hb dX5_mergeBoth_21 hl (by decide) rfl (fun ls hl => ?_)
      refine xk_iconst hx hb dX5_mergeBoth_23 ?_
      refine lv_istore (lv' := [(5, .int (iI 0)), (4, .int (iI p0)), (3, .int (iI p0)), (0, .ref (a 0)), (1, .int (iI p0)), (2, .int (iI p1))]) hx hb dX5_mergeBoth_24 hl (by decide) rfl (fun ls hl => ?_)
      have hL26 : ∀ (k3 : Int) (k4 : Int) (n128 : Nat) (l5 : Int) (x127 : ModS), f5_mergeBoth_L26 k3 k4 n128 l5 x127 = some res → ∀ (H : Heap) (locs : List Loc), va_P (dC, dI) vwCl (w5 cs a x127) H → va_S (va_A (w5 cs a x) s.heap.size) s.heap H locs → ∀ (ls : Array Slot), lv_has ls 6 [(0, .ref (a 0)), (3, .int (iI k3)), (4, .int (iI k4)), (5, .int (iI l5))] → W p l e (headSpec wsX5_mergeBoth ({ frames := 3, cells := 0, slots := 0, locals := 67 } : Room)).room s m ([.ref (a 0), .int (iI p0), .int (iI p1)] : List Value).toArray below meth c H locs 0 0 (MQ below (xQi (dC, dI) vwCl (w5 cs a x) (w5 cs a res.2) s.heap.size res.1) ([.ref (a 0), .int (iI p0), .int (iI p1)] : List Value).toArray s 0 0 (va_A (w5 cs a x) s.heap.size)) (F0 m 26 ls []) := by
        intro k3 k4 n128
        induction n128 with
        | zero => intro l5 x127 hf; have hf : (none : Option (Int × ModS)) = some res := hf; cases hf
        | succ n128 ih26 =>
          intro l5 x127 hf H locs hP hS ls hl
          rw [f5_mergeBoth_L26] at hf
          refine lv_iload hx hb dX5_mergeBoth_26 (lv_at hl 3 rfl) ?_
          refine lv_aload_n hx hb dX5_mergeBoth_28 rfl (lv_at hl 0 rfl) ?_
          refine va_get (D := (dC, dI)) (ci := 5) (v := .ref (a 1)) (C := RX5) (T := TX5) (N := 13) hx hb hts hin5 hown hK hP 0 rfl rfl 1 (by decide) (hts (.fieldLink RX5 13 "BoatRunsModel" "now" "[I") (by decide +kernel)) (fun _ h9 => h9) rfl dX5_mergeBoth_29 ?_
          refine xk_iconst hx hb dX5_mergeBoth_32 ?_
          obtain ⟨v129, ev129, hf⟩ := x_bind hf
          refine xk_iald (f := g5_now x127) hx hb hK hP 1 0 ev129 (by decide) rfl rfl dX5_mergeBoth_33 ?_
          obtain ⟨c130a, c130b, c130t, c130f⟩ := x_ltE hf
          refine xk_icmp_ge (tgt := 62) hx hb c130a c130b dX5_mergeBoth_34 (by decide) (fun c130 => ?_) (fun c130 => ?_)
          · have hf := c130t c130
            refine lv_aload_n hx hb dX5_mergeBoth_37 rfl (lv_at hl 0 rfl) ?_
            refine lv_iload hx hb dX5_mergeBoth_38 (lv_at hl 3 rfl) ?_
            refine lv_iload hx hb dX5_mergeBoth_40 (lv_at hl 2 rfl) ?_
            obtain ⟨v131, ev131, hf⟩ := x_bind hf
            refine xc_ri (As := [.int (iI l5), .int (iI k4)]) (rest := []) ⟨hx, hb, hml, hown, hts⟩ (c5_isOf l dC dI cs a x127 l5 k4  _ ev131) (cwV 2 hts gX5_mergeBoth_X5_isOf rfl rfl rfl cdX5_isOf ⟨Nat.le_of_ble_eq_true rfl, Nat.le_of_ble_eq_true rfl⟩) hK hP [0, 1, 2, 3, 4, 5, 6, 7] rfl 0 rfl rfl rfl hl.1 rfl (Nat.le_of_ble_eq_true rfl) dX5_mergeBoth_42 ⟨Nat.zero_le _, Nat.zero_le _⟩ ?_
            obtain ⟨c132a, c132b, c132t, c132f⟩ := x_eqE hf
            refine xk_if_eq (tgt := 56) hx hb c132a dX5_mergeBoth_45 (by decide) (fun c132 => ?_) (fun c132 => ?_)
            · have hf := c132t c132
              refine xk_iinc (lv' := [(5, .int (iI (l5 + 1))), (0, .ref (a 0)), (3, .int (iI k3)), (4, .int (iI k4))]) hx hb dX5_mergeBoth_56 hl (k := 3) rfl (by decide) rfl (fun ls hl => ?_)
              refine lv_goto (tgt := 26) hx hb dX5_mergeBoth_59 (by decide) ?_
              exact ih26 (l5 + 1) x127 hf _ _ hP hS ls (lv_sub hl [1, 2, 3, 0] rfl)
            · have hf := c132f c132
              refine lv_aload_n hx hb dX5_mergeBoth_48 rfl (lv_at hl 0 rfl) ?_
              refine lv_iload hx hb dX5_mergeBoth_49 (lv_at hl 3 rfl) ?_
              refine xk_iconst hx hb dX5_mergeBoth_51 ?_
              refine lv_iload_n hx hb dX5_mergeBoth_52 rfl (lv_at hl 1 rfl) ?_
              obtain ⟨x133, ex133, hf⟩ := x_bind hf
              refine xc_wv (As := [.int (iI l5), .int (iI 3), .int (iI k3)]) (rest := []) ⟨hx, hb, hml, hown, hts⟩ (c5_be l dC dI cs a _ x127 l5 3 k3  _ ex133) (cwV 3 hts gX5_mergeBoth_X5_be rfl rfl rfl cdX5_be ⟨Nat.le_of_ble_eq_true rfl, Nat.le_of_ble_eq_true rfl⟩) hK hP (x_addr hD rfl) hS hA [0, 1, 2, 3, 4, 5, 6, 7] rfl (by decide) rfl 0 rfl rfl rfl hl.1 rfl (Nat.le_of_ble_eq_true rfl) dX5_mergeBoth_53 ⟨Nat.zero_le _, Nat.zero_le _⟩ (fun H locs hP hS => ?_)
              have hP : va_P (dC, dI) vwCl (w5 cs a x133) H := hP
              refine xk_iinc (lv' := [(5, .int (iI (l5 + 1))), (0, .ref (a 0)), (3, .int (iI k3)), (4, .int (iI k4))]) hx hb dX5_mergeBoth_56 hl (k := 3) rfl (by decide) rfl (fun ls hl => ?_)
              refine lv_goto (tgt := 26) hx hb dX5_mergeBoth_59 (by decide) ?_
              exact ih26 (l5 + 1) x133 hf _ _ hP hS ls (lv_sub hl [1, 2, 3, 0] rfl)
          · have hf := c130f c130
            refine lv_aload_n hx hb dX5_mergeBoth_62 rfl (lv_at hl 0 rfl) ?_
            refine lv_aload_n hx hb dX5_mergeBoth_63 rfl (lv_at hl 0 rfl) ?_
            refine lv_iload hx hb dX5_mergeBoth_64 (lv_at hl 2 rfl) ?_
            obtain ⟨v134, ev134, hf⟩ := x_bind hf
            refine xc_ri (As := [.int (iI k4)]) (rest := [.ref (a 0)]) ⟨hx, hb, hml, hown, hts⟩ (c5_placeOf l dC dI cs a x127 k4  _ ev134) (cwV 1 hts gX5_mergeBoth_X5_placeOf rfl rfl rfl cdX5_placeOf ⟨Nat.le_of_ble_eq_true rfl, Nat.le_of_ble_eq_true rfl⟩) hK hP [0, 1, 2, 3, 4, 5, 6, 7] rfl 0 rfl rfl rfl hl.1 rfl (Nat.le_of_ble_eq_true rfl) dX5_mergeBoth_66 ⟨Nat.zero_le _, Nat.zero_le _⟩ ?_
            obtain ⟨x135, ex135, hf⟩ := x_bind hf
            refine xc_wv (As := [.int (iI v134)]) (rest := []) ⟨hx, hb, hml, hown, hts⟩ (c5_dropRun l dC dI cs a _ x127 v134  _ ex135) (cwV 1 hts gX5_mergeBoth_X5_dropRun rfl rfl rfl cdX5_dropRun ⟨Nat.le_of_ble_eq_true rfl, Nat.le_of_ble_eq_true rfl⟩) hK hP (x_addr hD rfl) hS hA [0, 1, 2, 3, 4, 5, 6, 7] rfl (by decide) rfl 0 rfl rfl rfl hl.1 rfl (Nat.le_of_ble_eq_true rfl) dX5_mergeBoth_69 ⟨Nat.zero_le _, Nat.zero_le _⟩ (fun H locs hP hS => ?_)
            have hP : va_P (dC, dI) vwCl (w5 cs a x135) H := hP
            refine lv_aload_n hx hb dX5_mergeBoth_72 rfl (lv_at hl 0 rfl) ?_
            refine va_get (D := (dC, dI)) (ci := 5) (v := .ref (a 1)) (C := RX5) (T := TX5) (N := 13) hx hb hts hin5 hown hK hP 0 rfl rfl 1 (by decide) (hts (.fieldLink RX5 13 "BoatRunsModel" "now" "[I") (by decide +kernel)) (fun _ h9 => h9) rfl dX5_mergeBoth_73 ?_
            refine xk_bipush hx hb dX5_mergeBoth_76 (by decide) ?_
            refine lv_aload_n hx hb dX5_mergeBoth_78 rfl (lv_at hl 0 rfl) ?_
            refine va_get (D := (dC, dI)) (ci := 5) (v := .ref (a 1)) (C := RX5) (T := TX5) (N := 13) hx hb hts hin5 hown hK hP 0 rfl rfl 1 (by decide) (hts (.fieldLink RX5 13 "BoatRunsModel" "now" "[I") (by decide +kernel)) (fun _ h9 => h9) rfl dX5_mergeBoth_79 ?_
            refine xk_bipush hx hb dX5_mergeBoth_82 (by decide) ?_
            obtain ⟨v136, ev136, hf⟩ := x_bind hf
            refine xk_iald (f := g5_now x135) hx hb hK hP 1 0 ev136 (by decide) rfl rfl dX5_mergeBoth_84 ?_
            refine lv_iload_n hx hb dX5_mergeBoth_85 rfl (lv_at hl 1 rfl) ?_
            obtain ⟨c137a, c137b, c137t, c137f⟩ := x_eqE hf
            refine xk_icmp_eq (tgt := 101) hx hb c137a c137b dX5_mergeBoth_86 (by decide) (fun c137 => ?_) (fun c137 => ?_)
            · have hf := c137t c137
              refine xk_iconst hx hb dX5_mergeBoth_101 ?_
              refine lv_goto (tgt := 112) hx hb dX5_mergeBoth_102 (by decide) ?_
              obtain ⟨g138, eg138, hf⟩ := x_bind hf
              refine xk_iast (f := g5_now x135) hx hb hK hP (x_addr hD rfl) hS 1 0 eg138 (by decide) rfl rfl dX5_mergeBoth_112 (fun H locs hP hS => ?_)
              have hP : va_P (dC, dI) vwCl (w5C cs a (g5_thr x135) (g5_acts x135) (g5_typ x135) (g5_lat x135) (g5_pos x135) (g5_wra x135) g138 (g5_put x135) (g5_was x135) (g5_txt x135) (g5_lef x135) (g5_abo x135) (g5_ors x135)) H := hP
              refine lv_aload_n hx hb dX5_mergeBoth_113 rfl (lv_at hl 0 rfl) ?_
              refine lv_iload_n hx hb dX5_mergeBoth_114 rfl (lv_at hl 1 rfl) ?_
              obtain ⟨v139, ev139, hf⟩ := x_bind hf
              refine xc_ri (As := [.int (iI k3)]) (rest := []) ⟨hx, hb, hml, hown, hts⟩ (c5_weightOf l dC dI cs a (s5_now x135 g138) k3  _ ev139) (cwV 1 hts gX5_mergeBoth_X5_weightOf rfl rfl rfl cdX5_weightOf ⟨Nat.le_of_ble_eq_true rfl, Nat.le_of_ble_eq_true rfl⟩) hK hP [0, 1, 2, 3, 4, 5, 6, 7] rfl 0 rfl rfl rfl hl.1 rfl (Nat.le_of_ble_eq_true rfl) dX5_mergeBoth_115 ⟨Nat.zero_le _, Nat.zero_le _⟩ ?_
              refine lv_istore (lv' := [(5, .int (iI v139)), (0, .ref (a 0)), (3, .int (iI k3)), (4, .int (iI k4))]) hx hb dX5_mergeBoth_118 hl (by decide) rfl (fun ls hl => ?_)
              refine lv_aload_n hx hb dX5_mergeBoth_120 rfl (lv_at hl 1 rfl) ?_
              refine va_get (D := (dC, dI)) (ci := 5) (v := .ref (a 1)) (C := RX5) (T := TX5) (N := 13) hx hb hts hin5 hown hK hP 0 rfl rfl 1 (by decide) (hts (.fieldLink RX5 13 "BoatRunsModel" "now" "[I") (by decide +kernel)) (fun _ h9 => h9) rfl dX5_mergeBoth_121 ?_
              refine xk_iconst hx hb dX5_mergeBoth_124 ?_
              refine lv_dup2_11 hx hb dX5_mergeBoth_125 rfl rfl ?_
              obtain ⟨v140, ev140, hf⟩ := x_bind hf
              refine xk_iald (f := g138) hx hb hK hP 1 0 ev140 (by decide) rfl rfl dX5_mergeBoth_126 ?_
              refine lv_iload hx hb dX5_mergeBoth_127 (lv_at hl 0 rfl) ?_
              refine xk_iadd hx hb dX5_mergeBoth_129 ?_
              obtain ⟨g141, eg141, hf⟩ := x_bind hf
              refine xk_iast (f := g138) hx hb hK hP (x_addr hD rfl) hS 1 0 eg141 (by decide) rfl rfl dX5_mergeBoth_130 (fun H locs hP hS => ?_)
              have hP : va_P (dC, dI) vwCl (w5C cs a (g5_thr x135) (g5_acts x135) (g5_typ x135) (g5_lat x135) (g5_pos x135) (g5_wra x135) g141 (g5_put x135) (g5_was x135) (g5_txt x135) (g5_lef x135) (g5_abo x135) (g5_ors x135)) H := hP
              refine lv_aload_n hx hb dX5_mergeBoth_131 rfl (lv_at hl 1 rfl) ?_
              refine va_get (D := (dC, dI)) (ci := 5) (v := .ref (a 1)) (C := RX5) (T := TX5) (N := 13) hx hb hts hin5 hown hK hP 0 rfl rfl 1 (by decide) (hts (.fieldLink RX5 13 "BoatRunsModel" "now" "[I") (by decide +kernel)) (fun _ h9 => h9) rfl dX5_mergeBoth_132 ?_
              refine xk_iconst hx hb dX5_mergeBoth_135 ?_
              refine lv_dup2_11 hx hb dX5_mergeBoth_136 rfl rfl ?_
              obtain ⟨v142, ev142, hf⟩ := x_bind hf
              refine xk_iald (f := g141) hx hb hK hP 1 0 ev142 (by decide) rfl rfl dX5_mergeBoth_137 ?_
              refine xk_iconst hx hb dX5_mergeBoth_138 ?_
              refine xk_iadd hx hb dX5_mergeBoth_139 ?_
              obtain ⟨g143, eg143, hf⟩ := x_bind hf
              refine xk_iast (f := g141) hx hb hK hP (x_addr hD rfl) hS 1 0 eg143 (by decide) rfl rfl dX5_mergeBoth_140 (fun H locs hP hS => ?_)
              have hP : va_P (dC, dI) vwCl (w5C cs a (g5_thr x135) (g5_acts x135) (g5_typ x135) (g5_lat x135) (g5_pos x135) (g5_wra x135) g143 (g5_put x135) (g5_was x135) (g5_txt x135) (g5_lef x135) (g5_abo x135) (g5_ors x135)) H := hP
              refine lv_iload hx hb dX5_mergeBoth_141 (lv_at hl 0 rfl) ?_
              obtain rfl := Option.some.inj hf
              exact xe_wi hx hb hr hlocks hS hP dX5_mergeBoth_143
            · have hf := c137f c137
              refine lv_aload_n hx hb dX5_mergeBoth_89 rfl (lv_at hl 0 rfl) ?_
              refine va_get (D := (dC, dI)) (ci := 5) (v := .ref (a 1)) (C := RX5) (T := TX5) (N := 13) hx hb hts hin5 hown hK hP 0 rfl rfl 1 (by decide) (hts (.fieldLink RX5 13 "BoatRunsModel" "now" "[I") (by decide +kernel)) (fun _ h9 => h9) rfl dX5_mergeBoth_90 ?_
              refine xk_bipush hx hb dX5_mergeBoth_93 (by decide) ?_
              obtain ⟨v144, ev144, hf⟩ := x_bind hf
              refine xk_iald (f := g5_now x135) hx hb hK hP 1 0 ev144 (by decide) rfl rfl dX5_mergeBoth_95 ?_
              refine lv_iload hx hb dX5_mergeBoth_96 (lv_at hl 2 rfl) ?_
              obtain ⟨c145a, c145b, c145t, c145f⟩ := x_eqE hf
              refine xk_icmp_ne (tgt := 105) hx hb c145a c145b dX5_mergeBoth_98 (by decide) (fun c145 => ?_) (fun c145 => ?_)
              · have hf := c145t c145
                refine xk_iconst hx hb dX5_mergeBoth_101 ?_
                refine lv_goto (tgt := 112) hx hb dX5_mergeBoth_102 (by decide) ?_
                obtain ⟨g146, eg146, hf⟩ := x_bind hf
                refine xk_iast (f := g5_now x135) hx hb hK hP (x_addr hD rfl) hS 1 0 eg146 (by decide) rfl rfl dX5_mergeBoth_112 (fun H locs hP hS => ?_)
                have hP : va_P (dC, dI) vwCl (w5C cs a (g5_thr x135) (g5_acts x135) (g5_typ x135) (g5_lat x135) (g5_pos x135) (g5_wra x135) g146 (g5_put x135) (g5_was x135) (g5_txt x135) (g5_lef x135) (g5_abo x135) (g5_ors x135)) H := hP
                refine lv_aload_n hx hb dX5_mergeBoth_113 rfl (lv_at hl 0 rfl) ?_
                refine lv_iload_n hx hb dX5_mergeBoth_114 rfl (lv_at hl 1 rfl) ?_
                obtain ⟨v147, ev147, hf⟩ := x_bind hf
                refine xc_ri (As := [.int (iI k3)]) (rest := []) ⟨hx, hb, hml, hown, hts⟩ (c5_weightOf l dC dI cs a (s5_now x135 g146) k3  _ ev147) (cwV 1 hts gX5_mergeBoth_X5_weightOf rfl rfl rfl cdX5_weightOf ⟨Nat.le_of_ble_eq_true rfl, Nat.le_of_ble_eq_true rfl⟩) hK hP [0, 1, 2, 3, 4, 5, 6, 7] rfl 0 rfl rfl rfl hl.1 rfl (Nat.le_of_ble_eq_true rfl) dX5_mergeBoth_115 ⟨Nat.zero_le _, Nat.zero_le _⟩ ?_
                refine lv_istore (lv' := [(5, .int (iI v147)), (0, .ref (a 0)), (3, .int (iI k3)), (4, .int (iI k4))]) hx hb dX5_mergeBoth_118 hl (by decide) rfl (fun ls hl => ?_)
                refine lv_aload_n hx hb dX5_mergeBoth_120 rfl (lv_at hl 1 rfl) ?_
                refine va_get (D := (dC, dI)) (ci := 5) (v := .ref (a 1)) (C := RX5) (T := TX5) (N := 13) hx hb hts hin5 hown hK hP 0 rfl rfl 1 (by decide) (hts (.fieldLink RX5 13 "BoatRunsModel" "now" "[I") (by decide +kernel)) (fun _ h9 => h9) rfl dX5_mergeBoth_121 ?_
                refine xk_iconst hx hb dX5_mergeBoth_124 ?_
                refine lv_dup2_11 hx hb dX5_mergeBoth_125 rfl rfl ?_
                obtain ⟨v148, ev148, hf⟩ := x_bind hf
                refine xk_iald (f := g146) hx hb hK hP 1 0 ev148 (by decide) rfl rfl dX5_mergeBoth_126 ?_
                refine lv_iload hx hb dX5_mergeBoth_127 (lv_at hl 0 rfl) ?_
                refine xk_iadd hx hb dX5_mergeBoth_129 ?_
                obtain ⟨g149, eg149, hf⟩ := x_bind hf
                refine xk_iast (f := g146) hx hb hK hP (x_addr hD rfl) hS 1 0 eg149 (by decide) rfl rfl dX5_mergeBoth_130 (fun H locs hP hS => ?_)
                have hP : va_P (dC, dI) vwCl (w5C cs a (g5_thr x135) (g5_acts x135) (g5_typ x135) (g5_lat x135) (g5_pos x135) (g5_wra x135) g149 (g5_put x135) (g5_was x135) (g5_txt x135) (g5_lef x135) (g5_abo x135) (g5_ors x135)) H := hP
                refine lv_aload_n hx hb dX5_mergeBoth_131 rfl (lv_at hl 1 rfl) ?_
                refine va_get (D := (dC, dI)) (ci := 5) (v := .ref (a 1)) (C := RX5) (T := TX5) (N := 13) hx hb hts hin5 hown hK hP 0 rfl rfl 1 (by decide) (hts (.fieldLink RX5 13 "BoatRunsModel" "now" "[I") (by decide +kernel)) (fun _ h9 => h9) rfl dX5_mergeBoth_132 ?_
                refine xk_iconst hx hb dX5_mergeBoth_135 ?_
                refine lv_dup2_11 hx hb dX5_mergeBoth_136 rfl rfl ?_
                obtain ⟨v150, ev150, hf⟩ := x_bind hf
                refine xk_iald (f := g149) hx hb hK hP 1 0 ev150 (by decide) rfl rfl dX5_mergeBoth_137 ?_
                refine xk_iconst hx hb dX5_mergeBoth_138 ?_
                refine xk_iadd hx hb dX5_mergeBoth_139 ?_
                obtain ⟨g151, eg151, hf⟩ := x_bind hf
                refine xk_iast (f := g149) hx hb hK hP (x_addr hD rfl) hS 1 0 eg151 (by decide) rfl rfl dX5_mergeBoth_140 (fun H locs hP hS => ?_)
                have hP : va_P (dC, dI) vwCl (w5C cs a (g5_thr x135) (g5_acts x135) (g5_typ x135) (g5_lat x135) (g5_pos x135) (g5_wra x135) g151 (g5_put x135) (g5_was x135) (g5_txt x135) (g5_lef x135) (g5_abo x135) (g5_ors x135)) H := hP
                refine lv_iload hx hb dX5_mergeBoth_141 (lv_at hl 0 rfl) ?_
                obtain rfl := Option.some.inj hf
                exact xe_wi hx hb hr hlocks hS hP dX5_mergeBoth_143
              · have hf := c145f c145
                refine lv_aload_n hx hb dX5_mergeBoth_105 rfl (lv_at hl 0 rfl) ?_
                refine va_get (D := (dC, dI)) (ci := 5) (v := .ref (a 1)) (C := RX5) (T := TX5) (N := 13) hx hb hts hin5 hown hK hP 0 rfl rfl 1 (by decide) (hts (.fieldLink RX5 13 "BoatRunsModel" "now" "[I") (by decide +kernel)) (fun _ h9 => h9) rfl dX5_mergeBoth_106 ?_
                refine xk_bipush hx hb dX5_mergeBoth_109 (by decide) ?_
                obtain ⟨v152, ev152, hf⟩ := x_bind hf
                refine xk_iald (f := g5_now x135) hx hb hK hP 1 0 ev152 (by decide) rfl rfl dX5_mergeBoth_111 ?_
                obtain ⟨g153, eg153, hf⟩ := x_bind hf
                refine xk_iast (f := g5_now x135) hx hb hK hP (x_addr hD rfl) hS 1 0 eg153 (by decide) rfl rfl dX5_mergeBoth_112 (fun H locs hP hS => ?_)
                have hP : va_P (dC, dI) vwCl (w5C cs a (g5_thr x135) (g5_acts x135) (g5_typ x135) (g5_lat x135) (g5_pos x135) (g5_wra x135) g153 (g5_put x135) (g5_was x135) (g5_txt x135) (g5_lef x135) (g5_abo x135) (g5_ors x135)) H := hP
                refine lv_aload_n hx hb dX5_mergeBoth_113 rfl (lv_at hl 0 rfl) ?_
                refine lv_iload_n hx hb dX5_mergeBoth_114 rfl (lv_at hl 1 rfl) ?_
                obtain ⟨v154, ev154, hf⟩ := x_bind hf
                refine xc_ri (As := [.int (iI k3)]) (rest := []) ⟨hx, hb, hml, hown, hts⟩ (c5_weightOf l dC dI cs a (s5_now x135 g153) k3  _ ev154) (cwV 1 hts gX5_mergeBoth_X5_weightOf rfl rfl rfl cdX5_weightOf ⟨Nat.le_of_ble_eq_true rfl, Nat.le_of_ble_eq_true rfl⟩) hK hP [0, 1, 2, 3, 4, 5, 6, 7] rfl 0 rfl rfl rfl hl.1 rfl (Nat.le_of_ble_eq_true rfl) dX5_mergeBoth_115 ⟨Nat.zero_le _, Nat.zero_le _⟩ ?_
                refine lv_istore (lv' := [(5, .int (iI v154)), (0, .ref (a 0)), (3, .int (iI k3)), (4, .int (iI k4))]) hx hb dX5_mergeBoth_118 hl (by decide) rfl (fun ls hl => ?_)
                refine lv_aload_n hx hb dX5_mergeBoth_120 rfl (lv_at hl 1 rfl) ?_
                refine va_get (D := (dC, dI)) (ci := 5) (v := .ref (a 1)) (C := RX5) (T := TX5) (N := 13) hx hb hts hin5 hown hK hP 0 rfl rfl 1 (by decide) (hts (.fieldLink RX5 13 "BoatRunsModel" "now" "[I") (by decide +kernel)) (fun _ h9 => h9) rfl dX5_mergeBoth_121 ?_
                refine xk_iconst hx hb dX5_mergeBoth_124 ?_
                refine lv_dup2_11 hx hb dX5_mergeBoth_125 rfl rfl ?_
                obtain ⟨v155, ev155, hf⟩ := x_bind hf
                refine xk_iald (f := g153) hx hb hK hP 1 0 ev155 (by decide) rfl rfl dX5_mergeBoth_126 ?_
                refine lv_iload hx hb dX5_mergeBoth_127 (lv_at hl 0 rfl) ?_
                refine xk_iadd hx hb dX5_mergeBoth_129 ?_
                obtain ⟨g156, eg156, hf⟩ := x_bind hf
                refine xk_iast (f := g153) hx hb hK hP (x_addr hD rfl) hS 1 0 eg156 (by decide) rfl rfl dX5_mergeBoth_130 (fun H locs hP hS => ?_)
                have hP : va_P (dC, dI) vwCl (w5C cs a (g5_thr x135) (g5_acts x135) (g5_typ x135) (g5_lat x135) (g5_pos x135) (g5_wra x135) g156 (g5_put x135) (g5_was x135) (g5_txt x135) (g5_lef x135) (g5_abo x135) (g5_ors x135)) H := hP
                refine lv_aload_n hx hb dX5_mergeBoth_131 rfl (lv_at hl 1 rfl) ?_
                refine va_get (D := (dC, dI)) (ci := 5) (v := .ref (a 1)) (C := RX5) (T := TX5) (N := 13) hx hb hts hin5 hown hK hP 0 rfl rfl 1 (by decide) (hts (.fieldLink RX5 13 "BoatRunsModel" "now" "[I") (by decide +kernel)) (fun _ h9 => h9) rfl dX5_mergeBoth_132 ?_
                refine xk_iconst hx hb dX5_mergeBoth_135 ?_
                refine lv_dup2_11 hx hb dX5_mergeBoth_136 rfl rfl ?_
                obtain ⟨v157, ev157, hf⟩ := x_bind hf
                refine xk_iald (f := g156) hx hb hK hP 1 0 ev157 (by decide) rfl rfl dX5_mergeBoth_137 ?_
                refine xk_iconst hx hb dX5_mergeBoth_138 ?_
                refine xk_iadd hx hb dX5_mergeBoth_139 ?_
                obtain ⟨g158, eg158, hf⟩ := x_bind hf
                refine xk_iast (f := g156) hx hb hK hP (x_addr hD rfl) hS 1 0 eg158 (by decide) rfl rfl dX5_mergeBoth_140 (fun H locs hP hS => ?_)
                have hP : va_P (dC, dI) vwCl (w5C cs a (g5_thr x135) (g5_acts x135) (g5_typ x135) (g5_lat x135) (g5_pos x135) (g5_wra x135) g158 (g5_put x135) (g5_was x135) (g5_txt x135) (g5_lef x135) (g5_abo x135) (g5_ors x135)) H := hP
                refine lv_iload hx hb dX5_mergeBoth_141 (lv_at hl 0 rfl) ?_
                obtain rfl := Option.some.inj hf
                exact xe_wi hx hb hr hlocks hS hP dX5_mergeBoth_143
      exact hL26 p0 p0 xFU 0 x hf _ _ hP hS ls (lv_sub hl [3, 2, 1, 0] rfl)
  · have hf := c1f c1
    refine lv_iload_n hx hb dX5_mergeBoth_9 rfl (lv_at hl 2 rfl) ?_
    refine lv_istore_n (lv' := [(3, .int (iI p1)), (0, .ref (a 0)), (1, .int (iI p0)), (2, .int (iI p1))]) hx hb dX5_mergeBoth_10 rfl hl (by decide) rfl (fun ls hl => ?_)
    refine lv_iload_n hx hb dX5_mergeBoth_11 rfl (lv_at hl 2 rfl) ?_
    refine lv_iload_n hx hb dX5_mergeBoth_12 rfl (lv_at hl 3 rfl) ?_
    obtain ⟨c3a, c3b, c3t, c3f⟩ := x_ltE hf
    refine xk_icmp_ge (tgt := 20) hx hb c3a c3b dX5_mergeBoth_13 (by decide) (fun c3 => ?_) (fun c3 => ?_)
    · have hf := c3t c3
      refine lv_iload_n hx hb dX5_mergeBoth_16 rfl (lv_at hl 3 rfl) ?_
      refine lv_goto (tgt := 21) hx hb dX5_mergeBoth_17 (by decide) ?_
      refine lv_istore (lv' := [(4, .int (iI p1)), (3, .int (iI p1)), (0, .ref (a 0)), (1, .int (iI p0)), (2, .int (iI p1))]) hx hb dX5_mergeBoth_21 hl (by decide) rfl (fun ls hl => ?_)
      refine xk_iconst hx hb dX5_mergeBoth_23 ?_
      refine lv_istore (lv' := [(5, .int (iI 0)), (4, .int (iI p1)), (3, .int (iI p1)), (0, .ref (a 0)), (1, .int (iI p0)), (2, .int (iI p1))]) hx hb dX5_mergeBoth_24 hl (by decide) rfl (fun ls hl => ?_)
      have hL26 : ∀ (k3 : Int) (k4 : Int) (n128 : Nat) (l5 : Int) (x127 : ModS), f5_mergeBoth_L26 k3 k4 n128 l5 x127 = some res → ∀ (H : Heap) (locs : List Loc), va_P (dC, dI) vwCl (w5 cs a x127) H → va_S (va_A (w5 cs a x) s.heap.size) s.heap H locs → ∀ (ls : Array Slot), lv_has ls 6 [(0, .ref (a 0)), (3, .int (iI k3)), (4, .int (iI k4)), (5, .int (iI l5))] → W p l e (headSpec wsX5_mergeBoth ({ frames := 3, cells := 0, slots := 0, locals := 67 } : Room)).room s m ([.ref (a 0), .int (iI p0), .int (iI p1)] : List Value).toArray below meth c H locs 0 0 (MQ below (xQi (dC, dI) vwCl (w5 cs a x) (w5 cs a res.2) s.heap.size res.1) ([.ref (a 0), .int (iI p0), .int (iI p1)] : List Value).toArray s 0 0 (va_A (w5 cs a x) s.heap.size)) (F0 m 26 ls []) := by
        intro k3 k4 n128
        induction n128 with
        | zero => intro l5 x127 hf; have hf : (none : Option (Int × ModS)) = some res := hf; cases hf
        | succ n128 ih26 =>
          intro l5 x127 hf H locs hP hS ls hl
          rw [f5_mergeBoth_L26] at hf
          refine lv_iload hx hb dX5_mergeBoth_26 (lv_at hl 3 rfl) ?_
          refine lv_aload_n hx hb dX5_mergeBoth_28 rfl (lv_at hl 0 rfl) ?_
          refine va_get (D := (dC, dI)) (ci := 5) (v := .ref (a 1)) (C := RX5) (T := TX5) (N := 13) hx hb hts hin5 hown hK hP 0 rfl rfl 1 (by decide) (hts (.fieldLink RX5 13 "BoatRunsModel" "now" "[I") (by decide +kernel)) (fun _ h9 => h9) rfl dX5_mergeBoth_29 ?_
          refine xk_iconst hx hb dX5_mergeBoth_32 ?_
          obtain ⟨v129, ev129, hf⟩ := x_bind hf
          refine xk_iald (f := g5_now x127) hx hb hK hP 1 0 ev129 (by decide) rfl rfl dX5_mergeBoth_33 ?_
          obtain ⟨c130a, c130b, c130t, c130f⟩ := x_ltE hf
          refine xk_icmp_ge (tgt := 62) hx hb c130a c130b dX5_mergeBoth_34 (by decide) (fun c130 => ?_) (fun c130 => ?_)
          · have hf := c130t c130
            refine lv_aload_n hx hb dX5_mergeBoth_37 rfl (lv_at hl 0 rfl) ?_
            refine lv_iload hx hb dX5_mergeBoth_38 (lv_at hl 3 rfl) ?_
            refine lv_iload hx hb dX5_mergeBoth_40 (lv_at hl 2 rfl) ?_
            obtain ⟨v131, ev131, hf⟩ := x_bind hf
            refine xc_ri (As := [.int (iI l5), .int (iI k4)]) (rest := []) ⟨hx, hb, hml, hown, hts⟩ (c5_isOf l dC dI cs a x127 l5 k4  _ ev131) (cwV 2 hts gX5_mergeBoth_X5_isOf rfl rfl rfl cdX5_isOf ⟨Nat.le_of_ble_eq_true rfl, Nat.le_of_ble_eq_true rfl⟩) hK hP [0, 1, 2, 3, 4, 5, 6, 7] rfl 0 rfl rfl rfl hl.1 rfl (Nat.le_of_ble_eq_true rfl) dX5_mergeBoth_42 ⟨Nat.zero_le _, Nat.zero_le _⟩ ?_
            obtain ⟨c132a, c132b, c132t, c132f⟩ := x_eqE hf
            refine xk_if_eq (tgt := 56) hx hb c132a dX5_mergeBoth_45 (by decide) (fun c132 => ?_) (fun c132 => ?_)
            · have hf := c132t c132
              refine xk_iinc (lv' := [(5, .int (iI (l5 + 1))), (0, .ref (a 0)), (3, .int (iI k3)), (4, .int (iI k4))]) hx hb dX5_mergeBoth_56 hl (k := 3) rfl (by decide) rfl (fun ls hl => ?_)
              refine lv_goto (tgt := 26) hx hb dX5_mergeBoth_59 (by decide) ?_
              exact ih26 (l5 + 1) x127 hf _ _ hP hS ls (lv_sub hl [1, 2, 3, 0] rfl)
            · have hf := c132f c132
              refine lv_aload_n hx hb dX5_mergeBoth_48 rfl (lv_at hl 0 rfl) ?_
              refine lv_iload hx hb dX5_mergeBoth_49 (lv_at hl 3 rfl) ?_
              refine xk_iconst hx hb dX5_mergeBoth_51 ?_
              refine lv_iload_n hx hb dX5_mergeBoth_52 rfl (lv_at hl 1 rfl) ?_
              obtain ⟨x133, ex133, hf⟩ := x_bind hf
              refine xc_wv (As := [.int (iI l5), .int (iI 3), .int (iI k3)]) (rest := []) ⟨hx, hb, hml, hown, hts⟩ (c5_be l dC dI cs a _ x127 l5 3 k3  _ ex133) (cwV 3 hts gX5_mergeBoth_X5_be rfl rfl rfl cdX5_be ⟨Nat.le_of_ble_eq_true rfl, Nat.le_of_ble_eq_true rfl⟩) hK hP (x_addr hD rfl) hS hA [0, 1, 2, 3, 4, 5, 6, 7] rfl (by decide) rfl 0 rfl rfl rfl hl.1 rfl (Nat.le_of_ble_eq_true rfl) dX5_mergeBoth_53 ⟨Nat.zero_le _, Nat.zero_le _⟩ (fun H locs hP hS => ?_)
              have hP : va_P (dC, dI) vwCl (w5 cs a x133) H := hP
              refine xk_iinc (lv' := [(5, .int (iI (l5 + 1))), (0, .ref (a 0)), (3, .int (iI k3)), (4, .int (iI k4))]) hx hb dX5_mergeBoth_56 hl (k := 3) rfl (by decide) rfl (fun ls hl => ?_)
              refine lv_goto (tgt := 26) hx hb dX5_mergeBoth_59 (by decide) ?_
              exact ih26 (l5 + 1) x133 hf _ _ hP hS ls (lv_sub hl [1, 2, 3, 0] rfl)
          · have hf := c130f c130
            refine lv_aload_n hx hb dX5_mergeBoth_62 rfl (lv_at hl 0 rfl) ?_
            refine lv_aload_n hx hb dX5_mergeBoth_63 rfl (lv_at hl 0 rfl) ?_
            refine lv_iload hx hb dX5_mergeBoth_64 (lv_at hl 2 rfl) ?_
            obtain ⟨v134, ev134, hf⟩ := x_bind hf
            refine xc_ri (As := [.int (iI k4)]) (rest := [.ref (a 0)]) ⟨hx, hb, hml, hown, hts⟩ (c5_placeOf l dC dI cs a x127 k4  _ ev134) (cwV 1 hts gX5_mergeBoth_X5_placeOf rfl rfl rfl cdX5_placeOf ⟨Nat.le_of_ble_eq_true rfl, Nat.le_of_ble_eq_true rfl⟩) hK hP [0, 1, 2, 3, 4, 5, 6, 7] rfl 0 rfl rfl rfl hl.1 rfl (Nat.le_of_ble_eq_true rfl) dX5_mergeBoth_66 ⟨Nat.zero_le _, Nat.zero_le _⟩ ?_
            obtain ⟨x135, ex135, hf⟩ := x_bind hf
            refine xc_wv (As := [.int (iI v134)]) (rest := []) ⟨hx, hb, hml, hown, hts⟩ (c5_dropRun l dC dI cs a _ x127 v134  _ ex135) (cwV 1 hts gX5_mergeBoth_X5_dropRun rfl rfl rfl cdX5_dropRun ⟨Nat.le_of_ble_eq_true rfl, Nat.le_of_ble_eq_true rfl⟩) hK hP (x_addr hD rfl) hS hA [0, 1, 2, 3, 4, 5, 6, 7] rfl (by decide) rfl 0 rfl rfl rfl hl.1 rfl (Nat.le_of_ble_eq_true rfl) dX5_mergeBoth_69 ⟨Nat.zero_le _, Nat.zero_le _⟩ (fun H locs hP hS => ?_)
            have hP : va_P (dC, dI) vwCl (w5 cs a x135) H := hP
            refine lv_aload_n hx hb dX5_mergeBoth_72 rfl (lv_at hl 0 rfl) ?_
            refine va_get (D := (dC, dI)) (ci := 5) (v := .ref (a 1)) (C := RX5) (T := TX5) (N := 13) hx hb hts hin5 hown hK hP 0 rfl rfl 1 (by decide) (hts (.fieldLink RX5 13 "BoatRunsModel" "now" "[I") (by decide +kernel)) (fun _ h9 => h9) rfl dX5_mergeBoth_73 ?_
            refine xk_bipush hx hb dX5_mergeBoth_76 (by decide) ?_
            refine lv_aload_n hx hb dX5_mergeBoth_78 rfl (lv_at hl 0 rfl) ?_
            refine va_get (D := (dC, dI)) (ci := 5) (v := .ref (a 1)) (C := RX5) (T := TX5) (N := 13) hx hb hts hin5 hown hK hP 0 rfl rfl 1 (by decide) (hts (.fieldLink RX5 13 "BoatRunsModel" "now" "[I") (by decide +kernel)) (fun _ h9 => h9) rfl dX5_mergeBoth_79 ?_
            refine xk_bipush hx hb dX5_mergeBoth_82 (by decide) ?_
            obtain ⟨v136, ev136, hf⟩ := x_bind hf
            refine xk_iald (f := g5_now x135) hx hb hK hP 1 0 ev136 (by decide) rfl rfl dX5_mergeBoth_84 ?_
            refine lv_iload_n hx hb dX5_mergeBoth_85 rfl (lv_at hl 1 rfl) ?_
            obtain ⟨c137a, c137b, c137t, c137f⟩ := x_eqE hf
            refine xk_icmp_eq (tgt := 101) hx hb c137a c137b dX5_mergeBoth_86 (by decide) (fun c137 => ?_) (fun c137 => ?_)
            · have hf := c137t c137
              refine xk_iconst hx hb dX5_mergeBoth_101 ?_
              refine lv_goto (tgt := 112) hx hb dX5_mergeBoth_102 (by decide) ?_
              obtain ⟨g138, eg138, hf⟩ := x_bind hf
              refine xk_iast (f := g5_now x135) hx hb hK hP (x_addr hD rfl) hS 1 0 eg138 (by decide) rfl rfl dX5_mergeBoth_112 (fun H locs hP hS => ?_)
              have hP : va_P (dC, dI) vwCl (w5C cs a (g5_thr x135) (g5_acts x135) (g5_typ x135) (g5_lat x135) (g5_pos x135) (g5_wra x135) g138 (g5_put x135) (g5_was x135) (g5_txt x135) (g5_lef x135) (g5_abo x135) (g5_ors x135)) H := hP
              refine lv_aload_n hx hb dX5_mergeBoth_113 rfl (lv_at hl 0 rfl) ?_
              refine lv_iload_n hx hb dX5_mergeBoth_114 rfl (lv_at hl 1 rfl) ?_
              obtain ⟨v139, ev139, hf⟩ := x_bind hf
              refine xc_ri (As := [.int (iI k3)]) (rest := []) ⟨hx, hb, hml, hown, hts⟩ (c5_weightOf l dC dI cs a (s5_now x135 g138) k3  _ ev139) (cwV 1 hts gX5_mergeBoth_X5_weightOf rfl rfl rfl cdX5_weightOf ⟨Nat.le_of_ble_eq_true rfl, Nat.le_of_ble_eq_true rfl⟩) hK hP [0, 1, 2, 3, 4, 5, 6, 7] rfl 0 rfl rfl rfl hl.1 rfl (Nat.le_of_ble_eq_true rfl) dX5_mergeBoth_115 ⟨Nat.zero_le _, Nat.zero_le _⟩ ?_
              refine lv_istore (lv' := [(5, .int (iI v139)), (0, .ref (a 0)), (3, .int (iI k3)), (4, .int (iI k4))]) hx hb dX5_mergeBoth_118 hl (by decide) rfl (fun ls hl => ?_)
              refine lv_aload_n hx hb dX5_mergeBoth_120 rfl (lv_at hl 1 rfl) ?_
              refine va_get (D := (dC, dI)) (ci := 5) (v := .ref (a 1)) (C := RX5) (T := TX5) (N := 13) hx hb hts hin5 hown hK hP 0 rfl rfl 1 (by decide) (hts (.fieldLink RX5 13 "BoatRunsModel" "now" "[I") (by decide +kernel)) (fun _ h9 => h9) rfl dX5_mergeBoth_121 ?_
              refine xk_iconst hx hb dX5_mergeBoth_124 ?_
              refine lv_dup2_11 hx hb dX5_mergeBoth_125 rfl rfl ?_
              obtain ⟨v140, ev140, hf⟩ := x_bind hf
              refine xk_iald (f := g138) hx hb hK hP 1 0 ev140 (by decide) rfl rfl dX5_mergeBoth_126 ?_
              refine lv_iload hx hb dX5_mergeBoth_127 (lv_at hl 0 rfl) ?_
              refine xk_iadd hx hb dX5_mergeBoth_129 ?_
              obtain ⟨g141, eg141, hf⟩ := x_bind hf
              refine xk_iast (f := g138) hx hb hK hP (x_addr hD rfl) hS 1 0 eg141 (by decide) rfl rfl dX5_mergeBoth_130 (fun H locs hP hS => ?_)
              have hP : va_P (dC, dI) vwCl (w5C cs a (g5_thr x135) (g5_acts x135) (g5_typ x135) (g5_lat x135) (g5_pos x135) (g5_wra x135) g141 (g5_put x135) (g5_was x135) (g5_txt x135) (g5_lef x135) (g5_abo x135) (g5_ors x135)) H := hP
              refine lv_aload_n hx hb dX5_mergeBoth_131 rfl (lv_at hl 1 rfl) ?_
              refine va_get (D := (dC, dI)) (ci := 5) (v := .ref (a 1)) (C := RX5) (T := TX5) (N := 13) hx hb hts hin5 hown hK hP 0 rfl rfl 1 (by decide) (hts (.fieldLink RX5 13 "BoatRunsModel" "now" "[I") (by decide +kernel)) (fun _ h9 => h9) rfl dX5_mergeBoth_132 ?_
              refine xk_iconst hx hb dX5_mergeBoth_135 ?_
              refine lv_dup2_11 hx hb dX5_mergeBoth_136 rfl rfl ?_
              obtain ⟨v142, ev142, hf⟩ := x_bind hf
              refine xk_iald (f := g141) hx hb hK hP 1 0 ev142 (by decide) rfl rfl dX5_mergeBoth_137 ?_
              refine xk_iconst hx hb dX5_mergeBoth_138 ?_
              refine xk_iadd hx hb dX5_mergeBoth_139 ?_
              obtain ⟨g143, eg143, hf⟩ := x_bind hf
              refine xk_iast (f := g141) hx hb hK hP (x_addr hD rfl) hS 1 0 eg143 (by decide) rfl rfl dX5_mergeBoth_140 (fun H locs hP hS => ?_)
              have hP : va_P (dC, dI) vwCl (w5C cs a (g5_thr x135) (g5_acts x135) (g5_typ x135) (g5_lat x135) (g5_pos x135) (g5_wra x135) g143 (g5_put x135) (g5_was x135) (g5_txt x135) (g5_lef x135) (g5_abo x135) (g5_ors x135)) H := hP
              refine lv_iload hx hb dX5_mergeBoth_141 (lv_at hl 0 rfl) ?_
              obtain rfl := Option.some.inj hf
              exact xe_wi hx hb hr hlocks hS hP dX5_mergeBoth_143
            · have hf := c137f c137
              refine lv_aload_n hx hb dX5_mergeBoth_89 rfl (lv_at hl 0 rfl) ?_
              refine va_get (D := (dC, dI)) (ci := 5) (v := .ref (a 1)) (C := RX5) (T := TX5) (N := 13) hx hb hts hin5 hown hK hP 0 rfl rfl 1 (by decide) (hts (.fieldLink RX5 13 "BoatRunsModel" "now" "[I") (by decide +kernel)) (fun _ h9 => h9) rfl dX5_mergeBoth_90 ?_
              refine xk_bipush hx hb dX5_mergeBoth_93 (by decide) ?_
              obtain ⟨v144, ev144, hf⟩ := x_bind hf
              refine xk_iald (f := g5_now x135) hx hb hK hP 1 0 ev144 (by decide) rfl rfl dX5_mergeBoth_95 ?_
              refine lv_iload hx hb dX5_mergeBoth_96 (lv_at hl 2 rfl) ?_
              obtain ⟨c145a, c145b, c145t, c145f⟩ := x_eqE hf
              refine xk_icmp_ne (tgt := 105) hx hb c145a c145b dX5_mergeBoth_98 (by decide) (fun c145 => ?_) (fun c145 => ?_)
              · have hf := c145t c145
                refine xk_iconst hx hb dX5_mergeBoth_101 ?_
                refine lv_goto (tgt := 112) hx hb dX5_mergeBoth_102 (by decide) ?_
                obtain ⟨g146, eg146, hf⟩ := x_bind hf
                refine xk_iast (f := g5_now x135) hx hb hK hP (x_addr hD rfl) hS 1 0 eg146 (by decide) rfl rfl dX5_mergeBoth_112 (fun H locs hP hS => ?_)
                have hP : va_P (dC, dI) vwCl (w5C cs a (g5_thr x135) (g5_acts x135) (g5_typ x135) (g5_lat x135) (g5_pos x135) (g5_wra x135) g146 (g5_put x135) (g5_was x135) (g5_txt x135) (g5_lef x135) (g5_abo x135) (g5_ors x135)) H := hP
                refine lv_aload_n hx hb dX5_mergeBoth_113 rfl (lv_at hl 0 rfl) ?_
                refine lv_iload_n hx hb dX5_mergeBoth_114 rfl (lv_at hl 1 rfl) ?_
                obtain ⟨v147, ev147, hf⟩ := x_bind hf
                refine xc_ri (As := [.int (iI k3)]) (rest := []) ⟨hx, hb, hml, hown, hts⟩ (c5_weightOf l dC dI cs a (s5_now x135 g146) k3  _ ev147) (cwV 1 hts gX5_mergeBoth_X5_weightOf rfl rfl rfl cdX5_weightOf ⟨Nat.le_of_ble_eq_true rfl, Nat.le_of_ble_eq_true rfl⟩) hK hP [0, 1, 2, 3, 4, 5, 6, 7] rfl 0 rfl rfl rfl hl.1 rfl (Nat.le_of_ble_eq_true rfl) dX5_mergeBoth_115 ⟨Nat.zero_le _, Nat.zero_le _⟩ ?_
                refine lv_istore (lv' := [(5, .int (iI v147)), (0, .ref (a 0)), (3, .int (iI k3)), (4, .int (iI k4))]) hx hb dX5_mergeBoth_118 hl (by decide) rfl (fun ls hl => ?_)
                refine lv_aload_n hx hb dX5_mergeBoth_120 rfl (lv_at hl 1 rfl) ?_
                refine va_get (D := (dC, dI)) (ci := 5) (v := .ref (a 1)) (C := RX5) (T := TX5) (N := 13) hx hb hts hin5 hown hK hP 0 rfl rfl 1 (by decide) (hts (.fieldLink RX5 13 "BoatRunsModel" "now" "[I") (by decide +kernel)) (fun _ h9 => h9) rfl dX5_mergeBoth_121 ?_
                refine xk_iconst hx hb dX5_mergeBoth_124 ?_
                refine lv_dup2_11 hx hb dX5_mergeBoth_125 rfl rfl ?_
                obtain ⟨v148, ev148, hf⟩ := x_bind hf
                refine xk_iald (f := g146) hx hb hK hP 1 0 ev148 (by decide) rfl rfl dX5_mergeBoth_126 ?_
                refine lv_iload hx hb dX5_mergeBoth_127 (lv_at hl 0 rfl) ?_
                refine xk_iadd hx hb dX5_mergeBoth_129 ?_
                obtain ⟨g149, eg149, hf⟩ := x_bind hf
                refine xk_iast (f := g146) hx hb hK hP (x_addr hD rfl) hS 1 0 eg149 (by decide) rfl rfl dX5_mergeBoth_130 (fun H locs hP hS => ?_)
                have hP : va_P (dC, dI) vwCl (w5C cs a (g5_thr x135) (g5_acts x135) (g5_typ x135) (g5_lat x135) (g5_pos x135) (g5_wra x135) g149 (g5_put x135) (g5_was x135) (g5_txt x135) (g5_lef x135) (g5_abo x135) (g5_ors x135)) H := hP
                refine lv_aload_n hx hb dX5_mergeBoth_131 rfl (lv_at hl 1 rfl) ?_
                refine va_get (D := (dC, dI)) (ci := 5) (v := .ref (a 1)) (C := RX5) (T := TX5) (N := 13) hx hb hts hin5 hown hK hP 0 rfl rfl 1 (by decide) (hts (.fieldLink RX5 13 "BoatRunsModel" "now" "[I") (by decide +kernel)) (fun _ h9 => h9) rfl dX5_mergeBoth_132 ?_
                refine xk_iconst hx hb dX5_mergeBoth_135 ?_
                refine lv_dup2_11 hx hb dX5_mergeBoth_136 rfl rfl ?_
                obtain ⟨v150, ev150, hf⟩ := x_bind hf
                refine xk_iald (f := g149) hx hb hK hP 1 0 ev150 (by decide) rfl rfl dX5_mergeBoth_137 ?_
                refine xk_iconst hx hb dX5_mergeBoth_138 ?_
                refine xk_iadd hx hb dX5_mergeBoth_139 ?_
                obtain ⟨g151, eg151, hf⟩ := x_bind hf
                refine xk_iast (f := g149) hx hb hK hP (x_addr hD rfl) hS 1 0 eg151 (by decide) rfl rfl dX5_mergeBoth_140 (fun H locs hP hS => ?_)
                have hP : va_P (dC, dI) vwCl (w5C cs a (g5_thr x135) (g5_acts x135) (g5_typ x135) (g5_lat x135) (g5_pos x135) (g5_wra x135) g151 (g5_put x135) (g5_was x135) (g5_txt x135) (g5_lef x135) (g5_abo x135) (g5_ors x135)) H := hP
                refine lv_iload hx hb dX5_mergeBoth_141 (lv_at hl 0 rfl) ?_
                obtain rfl := Option.some.inj hf
                exact xe_wi hx hb hr hlocks hS hP dX5_mergeBoth_143
              · have hf := c145f c145
                refine lv_aload_n hx hb dX5_mergeBoth_105 rfl (lv_at hl 0 rfl) ?_
                refine va_get (D := (dC, dI)) (ci := 5) (v := .ref (a 1)) (C := RX5) (T := TX5) (N := 13) hx hb hts hin5 hown hK hP 0 rfl rfl 1 (by decide) (hts (.fieldLink RX5 13 "BoatRunsModel" "now" "[I") (by decide +kernel)) (fun _ h9 => h9) rfl dX5_mergeBoth_106 ?_
                refine xk_bipush hx hb dX5_mergeBoth_109 (by decide) ?_
                obtain ⟨v152, ev152, hf⟩ := x_bind hf
                refine xk_iald (f := g5_now x135) hx hb hK hP 1 0 ev152 (by decide) rfl rfl dX5_mergeBoth_111 ?_
                obtain ⟨g153, eg153, hf⟩ := x_bind hf
                refine xk_iast (f := g5_now x135) hx hb hK hP (x_addr hD rfl) hS 1 0 eg153 (by decide) rfl rfl dX5_mergeBoth_112 (fun H locs hP hS => ?_)
                have hP : va_P (dC, dI) vwCl (w5C cs a (g5_thr x135) (g5_acts x135) (g5_typ x135) (g5_lat x135) (g5_pos x135) (g5_wra x135) g153 (g5_put x135) (g5_was x135) (g5_txt x135) (g5_lef x135) (g5_abo x135) (g5_ors x135)) H := hP
                refine lv_aload_n hx hb dX5_mergeBoth_113 rfl (lv_at hl 0 rfl) ?_
                refine lv_iload_n hx hb dX5_mergeBoth_114 rfl (lv_at hl 1 rfl) ?_
                obtain ⟨v154, ev154, hf⟩ := x_bind hf
                refine xc_ri (As := [.int (iI k3)]) (rest := []) ⟨hx, hb, hml, hown, hts⟩ (c5_weightOf l dC dI cs a (s5_now x135 g153) k3  _ ev154) (cwV 1 hts gX5_mergeBoth_X5_weightOf rfl rfl rfl cdX5_weightOf ⟨Nat.le_of_ble_eq_true rfl, Nat.le_of_ble_eq_true rfl⟩) hK hP [0, 1, 2, 3, 4, 5, 6, 7] rfl 0 rfl rfl rfl hl.1 rfl (Nat.le_of_ble_eq_true rfl) dX5_mergeBoth_115 ⟨Nat.zero_le _, Nat.zero_le _⟩ ?_
                refine lv_istore (lv' := [(5, .int (iI v154)), (0, .ref (a 0)), (3, .int (iI k3)), (4, .int (iI k4))]) hx hb dX5_mergeBoth_118 hl (by decide) rfl (fun ls hl => ?_)
                refine lv_aload_n hx hb dX5_mergeBoth_120 rfl (lv_at hl 1 rfl) ?_
                refine va_get (D := (dC, dI)) (ci := 5) (v := .ref (a 1)) (C := RX5) (T := TX5) (N := 13) hx hb hts hin5 hown hK hP 0 rfl rfl 1 (by decide) (hts (.fieldLink RX5 13 "BoatRunsModel" "now" "[I") (by decide +kernel)) (fun _ h9 => h9) rfl dX5_mergeBoth_121 ?_
                refine xk_iconst hx hb dX5_mergeBoth_124 ?_
                refine lv_dup2_11 hx hb dX5_mergeBoth_125 rfl rfl ?_
                obtain ⟨v155, ev155, hf⟩ := x_bind hf
                refine xk_iald (f := g153) hx hb hK hP 1 0 ev155 (by decide) rfl rfl dX5_mergeBoth_126 ?_
                refine lv_iload hx hb dX5_mergeBoth_127 (lv_at hl 0 rfl) ?_
                refine xk_iadd hx hb dX5_mergeBoth_129 ?_
                obtain ⟨g156, eg156, hf⟩ := x_bind hf
                refine xk_iast (f := g153) hx hb hK hP (x_addr hD rfl) hS 1 0 eg156 (by decide) rfl rfl dX5_mergeBoth_130 (fun H locs hP hS => ?_)
                have hP : va_P (dC, dI) vwCl (w5C cs a (g5_thr x135) (g5_acts x135) (g5_typ x135) (g5_lat x135) (g5_pos x135) (g5_wra x135) g156 (g5_put x135) (g5_was x135) (g5_txt x135) (g5_lef x135) (g5_abo x135) (g5_ors x135)) H := hP
                refine lv_aload_n hx hb dX5_mergeBoth_131 rfl (lv_at hl 1 rfl) ?_
                refine va_get (D := (dC, dI)) (ci := 5) (v := .ref (a 1)) (C := RX5) (T := TX5) (N := 13) hx hb hts hin5 hown hK hP 0 rfl rfl 1 (by decide) (hts (.fieldLink RX5 13 "BoatRunsModel" "now" "[I") (by decide +kernel)) (fun _ h9 => h9) rfl dX5_mergeBoth_132 ?_
                refine xk_iconst hx hb dX5_mergeBoth_135 ?_
                refine lv_dup2_11 hx hb dX5_mergeBoth_136 rfl rfl ?_
                obtain ⟨v157, ev157, hf⟩ := x_bind hf
                refine xk_iald (f := g156) hx hb hK hP 1 0 ev157 (by decide) rfl rfl dX5_mergeBoth_137 ?_
                refine xk_iconst hx hb dX5_mergeBoth_138 ?_
                refine xk_iadd hx hb dX5_mergeBoth_139 ?_
                obtain ⟨g158, eg158, hf⟩ := x_bind hf
                refine xk_iast (f := g156) hx hb hK hP (x_addr hD rfl) hS 1 0 eg158 (by decide) rfl rfl dX5_mergeBoth_140 (fun H locs hP hS => ?_)
                have hP : va_P (dC, dI) vwCl (w5C cs a (g5_thr x135) (g5_acts x135) (g5_typ x135) (g5_lat x135) (g5_pos x135) (g5_wra x135) g158 (g5_put x135) (g5_was x135) (g5_txt x135) (g5_lef x135) (g5_abo x135) (g5_ors x135)) H := hP
                refine lv_iload hx hb dX5_mergeBoth_141 (lv_at hl 0 rfl) ?_
                obtain rfl := Option.some.inj hf
                exact xe_wi hx hb hr hlocks hS hP dX5_mergeBoth_143
      exact hL26 p1 p1 xFU 0 x hf _ _ hP hS ls (lv_sub hl [3, 2, 1, 0] rfl)
    · have hf := c3f c3
      refine lv_iload_n hx hb dX5_mergeBoth_20 rfl (lv_at hl 2 rfl) ?_
      refine lv_istore (lv' := [(4, .int (iI p0)), (3, .int (iI p1)), (0, .ref (a 0)), (1, .int (iI p0)), (2, .int (iI p1))]) hx hb dX5_mergeBoth_21 hl (by decide) rfl (fun ls hl => ?_)
      refine xk_iconst hx hb dX5_mergeBoth_23 ?_
      refine lv_istore (lv' := [(5, .int (iI 0)), (4, .int (iI p0)), (3, .int (iI p1)), (0, .ref (a 0)), (1, .int (iI p0)), (2, .int (iI p1))]) hx hb dX5_mergeBoth_24 hl (by decide) rfl (fun ls hl => ?_)
      have hL26 : ∀ (k3 : Int) (k4 : Int) (n128 : Nat) (l5 : Int) (x127 : ModS), f5_mergeBoth_L26 k3 k4 n128 l5 x127 = some res → ∀ (H : Heap) (locs : List Loc), va_P (dC, dI) vwCl (w5 cs a x127) H → va_S (va_A (w5 cs a x) s.heap.size) s.heap H locs → ∀ (ls : Array Slot), lv_has ls 6 [(0, .ref (a 0)), (3, .int (iI k3)), (4, .int (iI k4)), (5, .int (iI l5))] → W p l e (headSpec wsX5_mergeBoth ({ frames := 3, cells := 0, slots := 0, locals := 67 } : Room)).room s m ([.ref (a 0), .int (iI p0), .int (iI p1)] : List Value).toArray below meth c H locs 0 0 (MQ below (xQi (dC, dI) vwCl (w5 cs a x) (w5 cs a res.2) s.heap.size res.1) ([.ref (a 0), .int (iI p0), .int (iI p1)] : List Value).toArray s 0 0 (va_A (w5 cs a x) s.heap.size)) (F0 m 26 ls []) := by
        intro k3 k4 n128
        induction n128 with
        | zero => intro l5 x127 hf; have hf : (none : Option (Int × ModS)) = some res := hf; cases hf
        | succ n128 ih26 =>
          intro l5 x127 hf H locs hP hS ls hl
          rw [f5_mergeBoth_L26] at hf
          refine lv_iload hx hb dX5_mergeBoth_26 (lv_at hl 3 rfl) ?_
          refine lv_aload_n hx hb dX5_mergeBoth_28 rfl (lv_at hl 0 rfl) ?_
          refine va_get (D := (dC, dI)) (ci := 5) (v := .ref (a 1)) (C := RX5) (T := TX5) (N := 13) hx hb hts hin5 hown hK hP 0 rfl rfl 1 (by decide) (hts (.fieldLink RX5 13 "BoatRunsModel" "now" "[I") (by decide +kernel)) (fun _ h9 => h9) rfl dX5_mergeBoth_29 ?_
          refine xk_iconst hx hb dX5_mergeBoth_32 ?_
          obtain ⟨v129, ev129, hf⟩ := x_bind hf
          refine xk_iald (f := g5_now x127) hx hb hK hP 1 0 ev129 (by decide) rfl rfl dX5_mergeBoth_33 ?_
          obtain ⟨c130a, c130b, c130t, c130f⟩ := x_ltE hf
          refine xk_icmp_ge (tgt := 62) hx hb c130a c130b dX5_mergeBoth_34 (by decide) (fun c130 => ?_) (fun c130 => ?_)
          · have hf := c130t c130
            refine lv_aload_n hx hb dX5_mergeBoth_37 rfl (lv_at hl 0 rfl) ?_
            refine lv_iload hx hb dX5_mergeBoth_38 (lv_at hl 3 rfl) ?_
            refine lv_iload hx hb dX5_mergeBoth_40 (lv_at hl 2 rfl) ?_
            obtain ⟨v131, ev131, hf⟩ := x_bind hf
            refine xc_ri (As := [.int (iI l5), .int (iI k4)]) (rest := []) ⟨hx, hb, hml, hown, hts⟩ (c5_isOf l dC dI cs a x127 l5 k4  _ ev131) (cwV 2 hts gX5_mergeBoth_X5_isOf rfl rfl rfl cdX5_isOf ⟨Nat.le_of_ble_eq_true rfl, Nat.le_of_ble_eq_true rfl⟩) hK hP [0, 1, 2, 3, 4, 5, 6, 7] rfl 0 rfl rfl rfl hl.1 rfl (Nat.le_of_ble_eq_true rfl) dX5_mergeBoth_42 ⟨Nat.zero_le _, Nat.zero_le _⟩ ?_
            obtain ⟨c132a, c132b, c132t, c132f⟩ := x_eqE hf
            refine xk_if_eq (tgt := 56) hx hb c132a dX5_mergeBoth_45 (by decide) (fun c132 => ?_) (fun c132 => ?_)
            · have hf := c132t c132
              refine xk_iinc (lv' := [(5, .int (iI (l5 + 1))), (0, .ref (a 0)), (3, .int (iI k3)), (4, .int (iI k4))]) hx hb dX5_mergeBoth_56 hl (k := 3) rfl (by decide) rfl (fun ls hl => ?_)
              refine lv_goto (tgt := 26) hx hb dX5_mergeBoth_59 (by decide) ?_
              exact ih26 (l5 + 1) x127 hf _ _ hP hS ls (lv_sub hl [1, 2, 3, 0] rfl)
            · have hf := c132f c132
              refine lv_aload_n hx hb dX5_mergeBoth_48 rfl (lv_at hl 0 rfl) ?_
              refine lv_iload hx hb dX5_mergeBoth_49 (lv_at hl 3 rfl) ?_
              refine xk_iconst hx hb dX5_mergeBoth_51 ?_
              refine lv_iload_n hx hb dX5_mergeBoth_52 rfl (lv_at hl 1 rfl) ?_
              obtain ⟨x133, ex133, hf⟩ := x_bind hf
              refine xc_wv (As := [.int (iI l5), .int (iI 3), .int (iI k3)]) (rest := []) ⟨hx, hb, hml, hown, hts⟩ (c5_be l dC dI cs a _ x127 l5 3 k3  _ ex133) (cwV 3 hts gX5_mergeBoth_X5_be rfl rfl rfl cdX5_be ⟨Nat.le_of_ble_eq_true rfl, Nat.le_of_ble_eq_true rfl⟩) hK hP (x_addr hD rfl) hS hA [0, 1, 2, 3, 4, 5, 6, 7] rfl (by decide) rfl 0 rfl rfl rfl hl.1 rfl (Nat.le_of_ble_eq_true rfl) dX5_mergeBoth_53 ⟨Nat.zero_le _, Nat.zero_le _⟩ (fun H locs hP hS => ?_)
              have hP : va_P (dC, dI) vwCl (w5 cs a x133) H := hP
              refine xk_iinc (lv' := [(5, .int (iI (l5 + 1))), (0, .ref (a 0)), (3, .int (iI k3)), (4, .int (iI k4))]) hx hb dX5_mergeBoth_56 hl (k := 3) rfl (by decide) rfl (fun ls hl => ?_)
              refine lv_goto (tgt := 26) hx hb dX5_mergeBoth_59 (by decide) ?_
              exact ih26 (l5 + 1) x133 hf _ _ hP hS ls (lv_sub hl [1, 2, 3, 0] rfl)
          · have hf := c130f c130
            refine lv_aload_n hx hb dX5_mergeBoth_62 rfl (lv_at hl 0 rfl) ?_
            refine lv_aload_n hx hb dX5_mergeBoth_63 rfl (lv_at hl 0 rfl) ?_
            refine lv_iload hx hb dX5_mergeBoth_64 (lv_at hl 2 rfl) ?_
            obtain ⟨v134, ev134, hf⟩ := x_bind hf
            refine xc_ri (As := [.int (iI k4)]) (rest := [.ref (a 0)]) ⟨hx, hb, hml, hown, hts⟩ (c5_placeOf l dC dI cs a x127 k4  _ ev134) (cwV 1 hts gX5_mergeBoth_X5_placeOf rfl rfl rfl cdX5_placeOf ⟨Nat.le_of_ble_eq_true rfl, Nat.le_of_ble_eq_true rfl⟩) hK hP [0, 1, 2, 3, 4, 5, 6, 7] rfl 0 rfl rfl rfl hl.1 rfl (Nat.le_of_ble_eq_true rfl) dX5_mergeBoth_66 ⟨Nat.zero_le _, Nat.zero_le _⟩ ?_
            obtain ⟨x135, ex135, hf⟩ := x_bind hf
            refine xc_wv (As := [.int (iI v134)]) (rest := []) ⟨hx, hb, hml, hown, hts⟩ (c5_dropRun l dC dI cs a _ x127 v134  _ ex135) (cwV 1 hts gX5_mergeBoth_X5_dropRun rfl rfl rfl cdX5_dropRun ⟨Nat.le_of_ble_eq_true rfl, Nat.le_of_ble_eq_true rfl⟩) hK hP (x_addr hD rfl) hS hA [0, 1, 2, 3, 4, 5, 6, 7] rfl (by decide) rfl 0 rfl rfl rfl hl.1 rfl (Nat.le_of_ble_eq_true rfl) dX5_mergeBoth_69 ⟨Nat.zero_le _, Nat.zero_le _⟩ (fun H locs hP hS => ?_)
            have hP : va_P (dC, dI) vwCl (w5 cs a x135) H := hP
            refine lv_aload_n hx hb dX5_mergeBoth_72 rfl (lv_at hl 0 rfl) ?_
            refine va_get (D := (dC, dI)) (ci := 5) (v := .ref (a 1)) (C := RX5) (T := TX5) (N := 13) hx hb hts hin5 hown hK hP 0 rfl rfl 1 (by decide) (hts (.fieldLink RX5 13 "BoatRunsModel" "now" "[I") (by decide +kernel)) (fun _ h9 => h9) rfl dX5_mergeBoth_73 ?_
            refine xk_bipush hx hb dX5_mergeBoth_76 (by decide) ?_
            refine lv_aload_n hx hb dX5_mergeBoth_78 rfl (lv_at hl 0 rfl) ?_
            refine va_get (D := (dC, dI)) (ci := 5) (v := .ref (a 1)) (C := RX5) (T := TX5) (N := 13) hx hb hts hin5 hown hK hP 0 rfl rfl 1 (by decide) (hts (.fieldLink RX5 13 "BoatRunsModel" "now" "[I") (by decide +kernel)) (fun _ h9 => h9) rfl dX5_mergeBoth_79 ?_
            refine xk_bipush hx hb dX5_mergeBoth_82 (by decide) ?_
            obtain ⟨v136, ev136, hf⟩ := x_bind hf
            refine xk_iald (f := g5_now x135) hx hb hK hP 1 0 ev136 (by decide) rfl rfl dX5_mergeBoth_84 ?_
            refine lv_iload_n hx hb dX5_mergeBoth_85 rfl (lv_at hl 1 rfl) ?_
            obtain ⟨c137a, c137b, c137t, c137f⟩ := x_eqE hf
            refine xk_icmp_eq (tgt := 101) hx hb c137a c137b dX5_mergeBoth_86 (by decide) (fun c137 => ?_) (fun c137 => ?_)
            · have hf := c137t c137
              refine xk_iconst hx hb dX5_mergeBoth_101 ?_
              refine lv_goto (tgt := 112) hx hb dX5_mergeBoth_102 (by decide) ?_
              obtain ⟨g138, eg138, hf⟩ := x_bind hf
              refine xk_iast (f := g5_now x135) hx hb hK hP (x_addr hD rfl) hS 1 0 eg138 (by decide) rfl rfl dX5_mergeBoth_112 (fun H locs hP hS => ?_)
              have hP : va_P (dC, dI) vwCl (w5C cs a (g5_thr x135) (g5_acts x135) (g5_typ x135) (g5_lat x135) (g5_pos x135) (g5_wra x135) g138 (g5_put x135) (g5_was x135) (g5_txt x135) (g5_lef x135) (g5_abo x135) (g5_ors x135)) H := hP
              refine lv_aload_n hx hb dX5_mergeBoth_113 rfl (lv_at hl 0 rfl) ?_
              refine lv_iload_n hx hb dX5_mergeBoth_114 rfl (lv_at hl 1 rfl) ?_
              obtain ⟨v139, ev139, hf⟩ := x_bind hf
              refine xc_ri (As := [.int (iI k3)]) (rest := []) ⟨hx, hb, hml, hown, hts⟩ (c5_weightOf l dC dI cs a (s5_now x135 g138) k3  _ ev139) (cwV 1 hts gX5_mergeBoth_X5_weightOf rfl rfl rfl cdX5_weightOf ⟨Nat.le_of_ble_eq_true rfl, Nat.le_of_ble_eq_true rfl⟩) hK hP [0, 1, 2, 3, 4, 5, 6, 7] rfl 0 rfl rfl rfl hl.1 rfl (Nat.le_of_ble_eq_true rfl) dX5_mergeBoth_115 ⟨Nat.zero_le _, Nat.zero_le _⟩ ?_
              refine lv_istore (lv' := [(5, .int (iI v139)), (0, .ref (a 0)), (3, .int (iI k3)), (4, .int (iI k4))]) hx hb dX5_mergeBoth_118 hl (by decide) rfl (fun ls hl => ?_)
              refine lv_aload_n hx hb dX5_mergeBoth_120 rfl (lv_at hl 1 rfl) ?_
              refine va_get (D := (dC, dI)) (ci := 5) (v := .ref (a 1)) (C := RX5) (T := TX5) (N := 13) hx hb hts hin5 hown hK hP 0 rfl rfl 1 (by decide) (hts (.fieldLink RX5 13 "BoatRunsModel" "now" "[I") (by decide +kernel)) (fun _ h9 => h9) rfl dX5_mergeBoth_121 ?_
              refine xk_iconst hx hb dX5_mergeBoth_124 ?_
              refine lv_dup2_11 hx hb dX5_mergeBoth_125 rfl rfl ?_
              obtain ⟨v140, ev140, hf⟩ := x_bind hf
              refine xk_iald (f := g138) hx hb hK hP 1 0 ev140 (by decide) rfl rfl dX5_mergeBoth_126 ?_
              refine lv_iload hx hb dX5_mergeBoth_127 (lv_at hl 0 rfl) ?_
              refine xk_iadd hx hb dX5_mergeBoth_129 ?_
              obtain ⟨g141, eg141, hf⟩ := x_bind hf
              refine xk_iast (f := g138) hx hb hK hP (x_addr hD rfl) hS 1 0 eg141 (by decide) rfl rfl dX5_mergeBoth_130 (fun H locs hP hS => ?_)
              have hP : va_P (dC, dI) vwCl (w5C cs a (g5_thr x135) (g5_acts x135) (g5_typ x135) (g5_lat x135) (g5_pos x135) (g5_wra x135) g141 (g5_put x135) (g5_was x135) (g5_txt x135) (g5_lef x135) (g5_abo x135) (g5_ors x135)) H := hP
              refine lv_aload_n hx hb dX5_mergeBoth_131 rfl (lv_at hl 1 rfl) ?_
              refine va_get (D := (dC, dI)) (ci := 5) (v := .ref (a 1)) (C := RX5) (T := TX5) (N := 13) hx hb hts hin5 hown hK hP 0 rfl rfl 1 (by decide) (hts (.fieldLink RX5 13 "BoatRunsModel" "now" "[I") (by decide +kernel)) (fun _ h9 => h9) rfl dX5_mergeBoth_132 ?_
              refine xk_iconst hx hb dX5_mergeBoth_135 ?_
              refine lv_dup2_11 hx hb dX5_mergeBoth_136 rfl rfl ?_
              obtain ⟨v142, ev142, hf⟩ := x_bind hf
              refine xk_iald (f := g141) hx hb hK hP 1 0 ev142 (by decide) rfl rfl dX5_mergeBoth_137 ?_
              refine xk_iconst hx hb dX5_mergeBoth_138 ?_
              refine xk_iadd hx hb dX5_mergeBoth_139 ?_
              obtain ⟨g143, eg143, hf⟩ := x_bind hf
              refine xk_iast (f := g141) hx hb hK hP (x_addr hD rfl) hS 1 0 eg143 (by decide) rfl rfl dX5_mergeBoth_140 (fun H locs hP hS => ?_)
              have hP : va_P (dC, dI) vwCl (w5C cs a (g5_thr x135) (g5_acts x135) (g5_typ x135) (g5_lat x135) (g5_pos x135) (g5_wra x135) g143 (g5_put x135) (g5_was x135) (g5_txt x135) (g5_lef x135) (g5_abo x135) (g5_ors x135)) H := hP
              refine lv_iload hx hb dX5_mergeBoth_141 (lv_at hl 0 rfl) ?_
              obtain rfl := Option.some.inj hf
              exact xe_wi hx hb hr hlocks hS hP dX5_mergeBoth_143
            · have hf := c137f c137
              refine lv_aload_n hx hb dX5_mergeBoth_89 rfl (lv_at hl 0 rfl) ?_
              refine va_get (D := (dC, dI)) (ci := 5) (v := .ref (a 1)) (C := RX5) (T := TX5) (N := 13) hx hb hts hin5 hown hK hP 0 rfl rfl 1 (by decide) (hts (.fieldLink RX5 13 "BoatRunsModel" "now" "[I") (by decide +kernel)) (fun _ h9 => h9) rfl dX5_mergeBoth_90 ?_
              refine xk_bipush hx hb dX5_mergeBoth_93 (by decide) ?_
              obtain ⟨v144, ev144, hf⟩ := x_bind hf
              refine xk_iald (f := g5_now x135) hx hb hK hP 1 0 ev144 (by decide) rfl rfl dX5_mergeBoth_95 ?_
              refine lv_iload hx hb dX5_mergeBoth_96 (lv_at hl 2 rfl) ?_
              obtain ⟨c145a, c145b, c145t, c145f⟩ := x_eqE hf
              refine xk_icmp_ne (tgt := 105) hx hb c145a c145b dX5_mergeBoth_98 (by decide) (fun c145 => ?_) (fun c145 => ?_)
              · have hf := c145t c145
                refine xk_iconst hx hb dX5_mergeBoth_101 ?_
                refine lv_goto (tgt := 112) hx hb dX5_mergeBoth_102 (by decide) ?_
                obtain ⟨g146, eg146, hf⟩ := x_bind hf
                refine xk_iast (f := g5_now x135) hx hb hK hP (x_addr hD rfl) hS 1 0 eg146 (by decide) rfl rfl dX5_mergeBoth_112 (fun H locs hP hS => ?_)
                have hP : va_P (dC, dI) vwCl (w5C cs a (g5_thr x135) (g5_acts x135) (g5_typ x135) (g5_lat x135) (g5_pos x135) (g5_wra x135) g146 (g5_put x135) (g5_was x135) (g5_txt x135) (g5_lef x135) (g5_abo x135) (g5_ors x135)) H := hP
                refine lv_aload_n hx hb dX5_mergeBoth_113 rfl (lv_at hl 0 rfl) ?_
                refine lv_iload_n hx hb dX5_mergeBoth_114 rfl (lv_at hl 1 rfl) ?_
                obtain ⟨v147, ev147, hf⟩ := x_bind hf
                refine xc_ri (As := [.int (iI k3)]) (rest := []) ⟨hx, hb, hml, hown, hts⟩ (c5_weightOf l dC dI cs a (s5_now x135 g146) k3  _ ev147) (cwV 1 hts gX5_mergeBoth_X5_weightOf rfl rfl rfl cdX5_weightOf ⟨Nat.le_of_ble_eq_true rfl, Nat.le_of_ble_eq_true rfl⟩) hK hP [0, 1, 2, 3, 4, 5, 6, 7] rfl 0 rfl rfl rfl hl.1 rfl (Nat.le_of_ble_eq_true rfl) dX5_mergeBoth_115 ⟨Nat.zero_le _, Nat.zero_le _⟩ ?_
                refine lv_istore (lv' := [(5, .int (iI v147)), (0, .ref (a 0)), (3, .int (iI k3)), (4, .int (iI k4))]) hx hb dX5_mergeBoth_118 hl (by decide) rfl (fun ls hl => ?_)
                refine lv_aload_n hx hb dX5_mergeBoth_120 rfl (lv_at hl 1 rfl) ?_
                refine va_get (D := (dC, dI)) (ci := 5) (v := .ref (a 1)) (C := RX5) (T := TX5) (N := 13) hx hb hts hin5 hown hK hP 0 rfl rfl 1 (by decide) (hts (.fieldLink RX5 13 "BoatRunsModel" "now" "[I") (by decide +kernel)) (fun _ h9 => h9) rfl dX5_mergeBoth_121 ?_
                refine xk_iconst hx hb dX5_mergeBoth_124 ?_
                refine lv_dup2_11 hx hb dX5_mergeBoth_125 rfl rfl ?_
                obtain ⟨v148, ev148, hf⟩ := x_bind hf
                refine xk_iald (f := g146) hx hb hK hP 1 0 ev148 (by decide) rfl rfl dX5_mergeBoth_126 ?_
                refine lv_iload hx hb dX5_mergeBoth_127 (lv_at hl 0 rfl) ?_
                refine xk_iadd hx hb dX5_mergeBoth_129 ?_
                obtain ⟨g149, eg149, hf⟩ := x_bind hf
                refine xk_iast (f := g146) hx hb hK hP (x_addr hD rfl) hS 1 0 eg149 (by decide) rfl rfl dX5_mergeBoth_130 (fun H locs hP hS => ?_)
                have hP : va_P (dC, dI) vwCl (w5C cs a (g5_thr x135) (g5_acts x135) (g5_typ x135) (g5_lat x135) (g5_pos x135) (g5_wra x135) g149 (g5_put x135) (g5_was x135) (g5_txt x135) (g5_lef x135) (g5_abo x135) (g5_ors x135)) H := hP
                refine lv_aload_n hx hb dX5_mergeBoth_131 rfl (lv_at hl 1 rfl) ?_
                refine va_get (D := (dC, dI)) (ci := 5) (v := .ref (a 1)) (C := RX5) (T := TX5) (N := 13) hx hb hts hin5 hown hK hP 0 rfl rfl 1 (by decide) (hts (.fieldLink RX5 13 "BoatRunsModel" "now" "[I") (by decide +kernel)) (fun _ h9 => h9) rfl dX5_mergeBoth_132 ?_
                refine xk_iconst hx hb dX5_mergeBoth_135 ?_
                refine lv_dup2_11 hx hb dX5_mergeBoth_136 rfl rfl ?_
                obtain ⟨v150, ev150, hf⟩ := x_bind hf
                refine xk_iald (f := g149) hx hb hK hP 1 0 ev150 (by decide) rfl rfl dX5_mergeBoth_137 ?_
                refine xk_iconst hx hb dX5_mergeBoth_138 ?_
                refine xk_iadd hx hb dX5_mergeBoth_139 ?_
                obtain ⟨g151, eg151, hf⟩ := x_bind hf
                refine xk_iast (f := g149) hx hb hK hP (x_addr hD rfl) hS 1 0 eg151 (by decide) rfl rfl dX5_mergeBoth_140 (fun H locs hP hS => ?_)
                have hP : va_P (dC, dI) vwCl (w5C cs a (g5_thr x135) (g5_acts x135) (g5_typ x135) (g5_lat x135) (g5_pos x135) (g5_wra x135) g151 (g5_put x135) (g5_was x135) (g5_txt x135) (g5_lef x135) (g5_abo x135) (g5_ors x135)) H := hP
                refine lv_iload hx hb dX5_mergeBoth_141 (lv_at hl 0 rfl) ?_
                obtain rfl := Option.some.inj hf
                exact xe_wi hx hb hr hlocks hS hP dX5_mergeBoth_143
              · have hf := c145f c145
                refine lv_aload_n hx hb dX5_mergeBoth_105 rfl (lv_at hl 0 rfl) ?_
                refine va_get (D := (dC, dI)) (ci := 5) (v := .ref (a 1)) (C := RX5) (T := TX5) (N := 13) hx hb hts hin5 hown hK hP 0 rfl rfl 1 (by decide) (hts (.fieldLink RX5 13 "BoatRunsModel" "now" "[I") (by decide +kernel)) (fun _ h9 => h9) rfl dX5_mergeBoth_106 ?_
                refine xk_bipush hx hb dX5_mergeBoth_109 (by decide) ?_
                obtain ⟨v152, ev152, hf⟩ := x_bind hf
                refine xk_iald (f := g5_now x135) hx hb hK hP 1 0 ev152 (by decide) rfl rfl dX5_mergeBoth_111 ?_
                obtain ⟨g153, eg153, hf⟩ := x_bind hf
                refine xk_iast (f := g5_now x135) hx hb hK hP (x_addr hD rfl) hS 1 0 eg153 (by decide) rfl rfl dX5_mergeBoth_112 (fun H locs hP hS => ?_)
                have hP : va_P (dC, dI) vwCl (w5C cs a (g5_thr x135) (g5_acts x135) (g5_typ x135) (g5_lat x135) (g5_pos x135) (g5_wra x135) g153 (g5_put x135) (g5_was x135) (g5_txt x135) (g5_lef x135) (g5_abo x135) (g5_ors x135)) H := hP
                refine lv_aload_n hx hb dX5_mergeBoth_113 rfl (lv_at hl 0 rfl) ?_
                refine lv_iload_n hx hb dX5_mergeBoth_114 rfl (lv_at hl 1 rfl) ?_
                obtain ⟨v154, ev154, hf⟩ := x_bind hf
                refine xc_ri (As := [.int (iI k3)]) (rest := []) ⟨hx, hb, hml, hown, hts⟩ (c5_weightOf l dC dI cs a (s5_now x135 g153) k3  _ ev154) (cwV 1 hts gX5_mergeBoth_X5_weightOf rfl rfl rfl cdX5_weightOf ⟨Nat.le_of_ble_eq_true rfl, Nat.le_of_ble_eq_true rfl⟩) hK hP [0, 1, 2, 3, 4, 5, 6, 7] rfl 0 rfl rfl rfl hl.1 rfl (Nat.le_of_ble_eq_true rfl) dX5_mergeBoth_115 ⟨Nat.zero_le _, Nat.zero_le _⟩ ?_
                refine lv_istore (lv' := [(5, .int (iI v154)), (0, .ref (a 0)), (3, .int (iI k3)), (4, .int (iI k4))]) hx hb dX5_mergeBoth_118 hl (by decide) rfl (fun ls hl => ?_)
                refine lv_aload_n hx hb dX5_mergeBoth_120 rfl (lv_at hl 1 rfl) ?_
                refine va_get (D := (dC, dI)) (ci := 5) (v := .ref (a 1)) (C := RX5) (T := TX5) (N := 13) hx hb hts hin5 hown hK hP 0 rfl rfl 1 (by decide) (hts (.fieldLink RX5 13 "BoatRunsModel" "now" "[I") (by decide +kernel)) (fun _ h9 => h9) rfl dX5_mergeBoth_121 ?_
                refine xk_iconst hx hb dX5_mergeBoth_124 ?_
                refine lv_dup2_11 hx hb dX5_mergeBoth_125 rfl rfl ?_
                obtain ⟨v155, ev155, hf⟩ := x_bind hf
                refine xk_iald (f := g153) hx hb hK hP 1 0 ev155 (by decide) rfl rfl dX5_mergeBoth_126 ?_
                refine lv_iload hx hb dX5_mergeBoth_127 (lv_at hl 0 rfl) ?_
                refine xk_iadd hx hb dX5_mergeBoth_129 ?_
                obtain ⟨g156, eg156, hf⟩ := x_bind hf
                refine xk_iast (f := g153) hx hb hK hP (x_addr hD rfl) hS 1 0 eg156 (by decide) rfl rfl dX5_mergeBoth_130 (fun H locs hP hS => ?_)
                have hP : va_P (dC, dI) vwCl (w5C cs a (g5_thr x135) (g5_acts x135) (g5_typ x135) (g5_lat x135) (g5_pos x135) (g5_wra x135) g156 (g5_put x135) (g5_was x135) (g5_txt x135) (g5_lef x135) (g5_abo x135) (g5_ors x135)) H := hP
                refine lv_aload_n hx hb dX5_mergeBoth_131 rfl (lv_at hl 1 rfl) ?_
                refine va_get (D := (dC, dI)) (ci := 5) (v := .ref (a 1)) (C := RX5) (T := TX5) (N := 13) hx hb hts hin5 hown hK hP 0 rfl rfl 1 (by decide) (hts (.fieldLink RX5 13 "BoatRunsModel" "now" "[I") (by decide +kernel)) (fun _ h9 => h9) rfl dX5_mergeBoth_132 ?_
                refine xk_iconst hx hb dX5_mergeBoth_135 ?_
                refine lv_dup2_11 hx hb dX5_mergeBoth_136 rfl rfl ?_
                obtain ⟨v157, ev157, hf⟩ := x_bind hf
                refine xk_iald (f := g156) hx hb hK hP 1 0 ev157 (by decide) rfl rfl dX5_mergeBoth_137 ?_
                refine xk_iconst hx hb dX5_mergeBoth_138 ?_
                refine xk_iadd hx hb dX5_mergeBoth_139 ?_
                obtain ⟨g158, eg158, hf⟩ := x_bind hf
                refine xk_iast (f := g156) hx hb hK hP (x_addr hD rfl) hS 1 0 eg158 (by decide) rfl rfl dX5_mergeBoth_140 (fun H locs hP hS => ?_)
                have hP : va_P (dC, dI) vwCl (w5C cs a (g5_thr x135) (g5_acts x135) (g5_typ x135) (g5_lat x135) (g5_pos x135) (g5_wra x135) g158 (g5_put x135) (g5_was x135) (g5_txt x135) (g5_lef x135) (g5_abo x135) (g5_ors x135)) H := hP
                refine lv_iload hx hb dX5_mergeBoth_141 (lv_at hl 0 rfl) ?_
                obtain rfl := Option.some.inj hf
                exact xe_wi hx hb hr hlocks hS hP dX5_mergeBoth_143
      exact hL26 p1 p0 xFU 0 x hf _ _ hP hS ls (lv_sub hl [3, 2, 1, 0] rfl)
theorem cdX5_mergeBoth : yX5_mergeBoth.cls = RX5 ∧ yX5_mergeBoth.cls ≠ "java/lang/invoke/MethodHandle" ∧ yX5_mergeBoth.cls ≠ "java/lang/invoke/VarHandle" ∧ (parseMethodDescriptor yX5_mergeBoth.desc).map (fun d => d.parameters.length) = some 2 := by decide +kernel

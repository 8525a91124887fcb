set_option maxHeartbeats 4000000 in
set_option maxRecDepth 100000 in
theorem c3_length (l : Launch) (dC : Nat → ClassId) (dI : Nat → Nat → Nat) (cs : Nat → ClassId) (a : Nat → Nat) (t : TextS) (res : Int) (hf : f3_length t = some res) : Met l yX3_length wsX3_length ({ frames := 1, cells := 0, slots := 0, locals := 20 } : Room) (va_Pc [.ref (a 0)] (xPR (dC, dI) vwCl (w3 cs a t) (xT cs))) (vp_Si (fun r => r = iI res)) 0 0 (fun _ => False) := by
  refine Met.ofW (cc := cX3_length) (maxL := 1) (ret := (some .int)) (by decide) rfl ?_
  intro p e s m args below meth c s₁ B hml hv
  obtain ⟨rfl, hP, hK⟩ := hv
  have hx := B.exec
  have hb := B.bytes
  have hr := B.returns
  have hts := atoms_spec (ws := wsX3_length) B.pre
  have hown : s.vm.findClass RX3 = some m.cls := findClass_of_methodNamed B.named
  have hlocks := B.notSynchronized
  have hin3 : ∀ w ∈ wsX30, w ∈ wsX3_length := by decide +kernel
  have hl := lv_entry [.ref (a 0)] (n := 1) (Nat.le_of_ble_eq_true rfl)
  rw [lg_entry_eq]
  generalize (lg_sl [.ref (a 0)] ++ List.replicate (1 - (lg_sl [.ref (a 0)]).length) Slot.unset).toArray = ls at hl ⊢
  have hl : lv_has ls 1 [(0, .ref (a 0))] := hl
  unfold f3_length at hf
  refine lv_aload_n hx hb dX3_length_0 rfl (lv_at hl 0 rfl) ?_
  refine va_get (D := (dC, dI)) (ci := 3) (v := .ref (a 1)) (C := RX3) (T := TX3) (N := 6) hx hb hts hin3 hown hK hP 0 rfl rfl 0 (by decide) (hts (.fieldLink RX3 14 "BoatRuns$Text" "bytes" "LBoatRuns$Row;") (by decide +kernel)) (fun _ h9 => h9) rfl dX3_length_1 ?_
  obtain ⟨v1, ev1, hf⟩ := x_bind hf
  refine xc_ri (As := []) (rest := []) ⟨hx, hb, hml, hown, hts⟩ (c2_size l dC dI cs (a 1) (a 5) 100 (g3_byts t) (by decide) _ ev1) (cwV 0 hts gX3_length_X2_size rfl rfl rfl cdX2_size ⟨Nat.le_of_ble_eq_true rfl, Nat.le_of_ble_eq_true rfl⟩) hK hP [1, 5] rfl 1 rfl rfl rfl hl.1 rfl (Nat.le_of_ble_eq_true rfl) dX3_length_4 ⟨Nat.zero_le _, Nat.zero_le _⟩ ?_
  obtain rfl := Option.some.inj hf
  exact xe_ri hx hb hr hlocks dX3_length_7 rfl
theorem cdX3_length : yX3_length.cls = RX3 ∧ yX3_length.cls ≠ "java/lang/invoke/MethodHandle" ∧ yX3_length.cls ≠ "java/lang/invoke/VarHandle" ∧ (parseMethodDescriptor yX3_length.desc).map (fun d => d.parameters.length) = some 0 := by decide +kernel

set_option maxHeartbeats 4000000 in
set_option maxRecDepth 100000 in
theorem c3_write (l : Launch) (dC : Nat → ClassId) (dI : Nat → Nat → Nat) (cs : Nat → ClassId) (a : Nat → Nat) (sz : Nat) (t : TextS) (p0 : Int) (res : Int × TextS) (hf : f3_write t p0 = some res) : Met l yX3_write wsX3_write ({ frames := 2, cells := 0, slots := 0, locals := 44 } : Room) (va_Pc [.ref (a 0), .int (iI p0)] (xPW (dC, dI) vwCl (w3 cs a t) (xT cs) sz)) (xQi (dC, dI) vwCl (w3 cs a t) (w3 cs a res.2) sz res.1) 0 0 (va_A (w3 cs a t) sz) := by
  refine Met.ofW (cc := cX3_write) (maxL := 2) (ret := (some .int)) (by decide) rfl ?_
  intro p e s m args below meth c s₁ B hml hv
  obtain ⟨rfl, hsz, hP, hK, hD0⟩ := hv
  have hx := B.exec
  have hb := B.bytes
  have hr := B.returns
  have hts := atoms_spec (ws := wsX3_write) B.pre
  have hown : s.vm.findClass RX3 = some m.cls := findClass_of_methodNamed B.named
  have hlocks := B.notSynchronized
  have hin3 : ∀ w ∈ wsX30, w ∈ wsX3_write := by decide +kernel
  subst hsz
  have hD := hD0.self (sz := s.heap.size)
  have hA : ∀ z9 : Nat, s.heap.size ≤ z9 → va_A (w3 cs a t) s.heap.size z9 := fun z9 h => Or.inr h
  have hS : va_S (va_A (w3 cs a t) s.heap.size) s.heap s.heap [] := va_S.rf
  have hl := lv_entry [.ref (a 0), .int (iI p0)] (n := 2) (Nat.le_of_ble_eq_true rfl)
  rw [lg_entry_eq]
  generalize (lg_sl [.ref (a 0), .int (iI p0)] ++ List.replicate (2 - (lg_sl [.ref (a 0), .int (iI p0)]).length) Slot.unset).toArray = ls at hl ⊢
  have hl : lv_has ls 2 [(0, .ref (a 0)), (1, .int (iI p0))] := hl
  unfold f3_write at hf
  refine lv_aload_n hx hb dX3_write_0 rfl (lv_at hl 0 rfl) ?_
  refine va_get (D := (dC, dI)) (ci := 3) (v := .ref (a 1)) (C := RX3) (T := TX3) (N := 6) hx hb hts hin3 hown hK hP 0 rfl rfl 0 (by decide) (hts (.fieldLink RX3 14 "BoatRuns$Text" "bytes" "LBoatRuns$Row;") (by decide +kernel)) (fun _ h9 => h9) rfl dX3_write_1 ?_
  refine lv_iload_n hx hb dX3_write_4 rfl (lv_at hl 1 rfl) ?_
  obtain ⟨r1, er1, hf⟩ := x_bind hf
  refine xc_wv (As := [.int (iI p0)]) (rest := []) ⟨hx, hb, hml, hown, hts⟩ (c2_add l dC dI cs (a 1) (a 5) _ 100 (g3_byts t) p0 (by decide) _ er1) (cwV 1 hts gX3_write_X2_add rfl rfl rfl cdX2_add ⟨Nat.le_of_ble_eq_true rfl, Nat.le_of_ble_eq_true rfl⟩) hK hP (x_addr hD rfl) hS hA [1, 5] rfl (by decide) rfl 1 rfl rfl rfl hl.1 rfl (Nat.le_of_ble_eq_true rfl) dX3_write_5 ⟨Nat.zero_le _, Nat.zero_le _⟩ (fun H locs hP hS => ?_)
  have hP : va_P (dC, dI) vwCl (w3C cs a (g3_pos t) (g3_err t) r1 (g3_knds t) (g3_fsts t) (g3_snds t)) H := hP
  refine lv_aload_n hx hb dX3_write_8 rfl (lv_at hl 0 rfl) ?_
  refine va_get (D := (dC, dI)) (ci := 3) (v := .ref (a 1)) (C := RX3) (T := TX3) (N := 6) hx hb hts hin3 hown hK hP 0 rfl rfl 0 (by decide) (hts (.fieldLink RX3 14 "BoatRuns$Text" "bytes" "LBoatRuns$Row;") (by decide +kernel)) (fun _ h9 => h9) rfl dX3_write_9 ?_
  obtain ⟨v2, ev2, hf⟩ := x_bind hf
  refine xc_ri (As := []) (rest := []) ⟨hx, hb, hml, hown, hts⟩ (c2_size l dC dI cs (a 1) (a 5) 100 r1 (by decide) _ ev2) (cwV 0 hts gX3_write_X2_size rfl rfl rfl cdX2_size ⟨Nat.le_of_ble_eq_true rfl, Nat.le_of_ble_eq_true rfl⟩) hK hP [1, 5] rfl 1 rfl rfl rfl hl.1 rfl (Nat.le_of_ble_eq_true rfl) dX3_write_12 ⟨Nat.zero_le _, Nat.zero_le _⟩ ?_
  obtain rfl := Option.some.inj hf
  exact xe_wi hx hb hr hlocks hS hP dX3_write_15
theorem cdX3_write : yX3_write.cls = RX3 ∧ yX3_write.cls ≠ "java/lang/invoke/MethodHandle" ∧ yX3_write.cls ≠ "java/lang/invoke/VarHandle" ∧ (parseMethodDescriptor yX3_write.desc).map (fun d => d.parameters.length) = some 1 := by decide +kernel

set_option maxHeartbeats 4000000 in
set_option maxRecDepth 100000 in
theorem c3_wipe (l : Launch) (dC : Nat → ClassId) (dI : Nat → Nat → Nat) (cs : Nat → ClassId) (a : Nat → Nat) (sz : Nat) (t : TextS) (res : Int × TextS) (hf : f3_wipe t = some res) : Met l yX3_wipe wsX3_wipe ({ frames := 1, cells := 0, slots := 0, locals := 20 } : Room) (va_Pc [.ref (a 0)] (xPW (dC, dI) vwCl (w3 cs a t) (xT cs) sz)) (xQi (dC, dI) vwCl (w3 cs a t) (w3 cs a res.2) sz res.1) 0 0 (va_A (w3 cs a t) sz) := by
  refine Met.ofW (cc := cX3_wipe) (maxL := 2) (ret := (some .int)) (by decide) rfl ?_
  intro p e s m args below meth c s₁ B hml hv
  obtain ⟨rfl, hsz, hP, hK, hD0⟩ := hv
  have hx := B.exec
  have hb := B.bytes
  have hr := B.returns
  have hts := atoms_spec (ws := wsX3_wipe) B.pre
  have hown : s.vm.findClass RX3 = some m.cls := findClass_of_methodNamed B.named
  have hlocks := B.notSynchronized
  have hin3 : ∀ w ∈ wsX30, w ∈ wsX3_wipe := by decide +kernel
  subst hsz
  have hD := hD0.self (sz := s.heap.size)
  have hA : ∀ z9 : Nat, s.heap.size ≤ z9 → va_A (w3 cs a t) s.heap.size z9 := fun z9 h => Or.inr h
  have hS : va_S (va_A (w3 cs a t) s.heap.size) s.heap s.heap [] := va_S.rf
  have hl := lv_entry [.ref (a 0)] (n := 2) (Nat.le_of_ble_eq_true rfl)
  rw [lg_entry_eq]
  generalize (lg_sl [.ref (a 0)] ++ List.replicate (2 - (lg_sl [.ref (a 0)]).length) Slot.unset).toArray = ls at hl ⊢
  have hl : lv_has ls 2 [(0, .ref (a 0))] := hl
  unfold f3_wipe at hf
  refine lv_aload_n hx hb dX3_wipe_0 rfl (lv_at hl 0 rfl) ?_
  refine va_get (D := (dC, dI)) (ci := 3) (v := .ref (a 1)) (C := RX3) (T := TX3) (N := 6) hx hb hts hin3 hown hK hP 0 rfl rfl 0 (by decide) (hts (.fieldLink RX3 14 "BoatRuns$Text" "bytes" "LBoatRuns$Row;") (by decide +kernel)) (fun _ h9 => h9) rfl dX3_wipe_1 ?_
  obtain ⟨v1, ev1, hf⟩ := x_bind hf
  refine xc_ri (As := []) (rest := []) ⟨hx, hb, hml, hown, hts⟩ (c2_size l dC dI cs (a 1) (a 5) 100 (g3_byts t) (by decide) _ ev1) (cwV 0 hts gX3_wipe_X2_size rfl rfl rfl cdX2_size ⟨Nat.le_of_ble_eq_true rfl, Nat.le_of_ble_eq_true rfl⟩) hK hP [1, 5] rfl 1 rfl rfl rfl hl.1 rfl (Nat.le_of_ble_eq_true rfl) dX3_wipe_4 ⟨Nat.zero_le _, Nat.zero_le _⟩ ?_
  refine lv_istore_n (lv' := [(1, .int (iI v1)), (0, .ref (a 0))]) hx hb dX3_wipe_7 rfl hl (by decide) rfl (fun ls hl => ?_)
  refine lv_aload_n hx hb dX3_wipe_8 rfl (lv_at hl 1 rfl) ?_
  refine va_get (D := (dC, dI)) (ci := 3) (v := .ref (a 1)) (C := RX3) (T := TX3) (N := 6) hx hb hts hin3 hown hK hP 0 rfl rfl 0 (by decide) (hts (.fieldLink RX3 14 "BoatRuns$Text" "bytes" "LBoatRuns$Row;") (by decide +kernel)) (fun _ h9 => h9) rfl dX3_wipe_9 ?_
  obtain ⟨r2, er2, hf⟩ := x_bind hf
  refine xc_wv (As := []) (rest := []) ⟨hx, hb, hml, hown, hts⟩ (c2_clear l dC dI cs (a 1) (a 5) _ 100 (g3_byts t) (by decide) _ er2) (cwV 0 hts gX3_wipe_X2_clear rfl rfl rfl cdX2_clear ⟨Nat.le_of_ble_eq_true rfl, Nat.le_of_ble_eq_true rfl⟩) hK hP (x_addr hD rfl) hS hA [1, 5] rfl (by decide) rfl 1 rfl rfl rfl hl.1 rfl (Nat.le_of_ble_eq_true rfl) dX3_wipe_12 ⟨Nat.zero_le _, Nat.zero_le _⟩ (fun H locs hP hS => ?_)
  have hP : va_P (dC, dI) vwCl (w3C cs a (g3_pos t) (g3_err t) r2 (g3_knds t) (g3_fsts t) (g3_snds t)) H := hP
  refine lv_iload_n hx hb dX3_wipe_15 rfl (lv_at hl 0 rfl) ?_
  obtain rfl := Option.some.inj hf
  exact xe_wi hx hb hr hlocks hS hP dX3_wipe_16
theorem cdX3_wipe : yX3_wipe.cls = RX3 ∧ yX3_wipe.cls ≠ "java/lang/invoke/MethodHandle" ∧ yX3_wipe.cls ≠ "java/lang/invoke/VarHandle" ∧ (parseMethodDescriptor yX3_wipe.desc).map (fun d => d.parameters.length) = some 0 := by decide +kernel

set_option maxHeartbeats 4000000 in
set_option maxRecDepth 100000 in
theorem c3_orders (l : Launch) (dC : Nat → ClassId) (dI : Nat → Nat → Nat) (cs : Nat → ClassId) (a : Nat → Nat) (t : TextS) (res : Int) (hf : f3_orders t = some res) : Met l yX3_orders wsX3_orders ({ frames := 1, cells := 0, slots := 0, locals := 20 } : Room) (va_Pc [.ref (a 0)] (xPR (dC, dI) vwCl (w3 cs a t) (xT cs))) (vp_Si (fun r => r = iI res)) 0 0 (fun _ => False) := by
  refine Met.ofW (cc := cX3_orders) (maxL := 1) (ret := (some .int)) (by decide) rfl ?_
  intro p e s m args below meth c s₁ B hml hv
  obtain ⟨rfl, hP, hK⟩ := hv
  have hx := B.exec
  have hb := B.bytes
  have hr := B.returns
  have hts := atoms_spec (ws := wsX3_orders) B.pre
  have hown : s.vm.findClass RX3 = some m.cls := findClass_of_methodNamed B.named
  have hlocks := B.notSynchronized
  have hin3 : ∀ w ∈ wsX30, w ∈ wsX3_orders := by decide +kernel
  have hl := lv_entry [.ref (a 0)] (n := 1) (Nat.le_of_ble_eq_true rfl)
  rw [lg_entry_eq]
  generalize (lg_sl [.ref (a 0)] ++ List.replicate (1 - (lg_sl [.ref (a 0)]).length) Slot.unset).toArray = ls at hl ⊢
  have hl : lv_has ls 1 [(0, .ref (a 0))] := hl
  unfold f3_orders at hf
  refine lv_aload_n hx hb dX3_orders_0 rfl (lv_at hl 0 rfl) ?_
  refine va_get (D := (dC, dI)) (ci := 3) (v := .ref (a 2)) (C := RX3) (T := TX3) (N := 6) hx hb hts hin3 hown hK hP 0 rfl rfl 1 (by decide) (hts (.fieldLink RX3 20 "BoatRuns$Text" "kinds" "LBoatRuns$Row;") (by decide +kernel)) (fun _ h9 => h9) rfl dX3_orders_1 ?_
  obtain ⟨v1, ev1, hf⟩ := x_bind hf
  refine xc_ri (As := []) (rest := []) ⟨hx, hb, hml, hown, hts⟩ (c2_size l dC dI cs (a 2) (a 6) 50 (g3_knds t) (by decide) _ ev1) (cwV 0 hts gX3_orders_X2_size rfl rfl rfl cdX2_size ⟨Nat.le_of_ble_eq_true rfl, Nat.le_of_ble_eq_true rfl⟩) hK hP [2, 6] rfl 2 rfl rfl rfl hl.1 rfl (Nat.le_of_ble_eq_true rfl) dX3_orders_4 ⟨Nat.zero_le _, Nat.zero_le _⟩ ?_
  obtain rfl := Option.some.inj hf
  exact xe_ri hx hb hr hlocks dX3_orders_7 rfl
theorem cdX3_orders : yX3_orders.cls = RX3 ∧ yX3_orders.cls ≠ "java/lang/invoke/MethodHandle" ∧ yX3_orders.cls ≠ "java/lang/invoke/VarHandle" ∧ (parseMethodDescriptor yX3_orders.desc).map (fun d => d.parameters.length) = some 0 := by decide +kernel

set_option maxHeartbeats 4000000 in
set_option maxRecDepth 100000 in
theorem c3_kind (l : Launch) (dC : Nat → ClassId) (dI : Nat → Nat → Nat) (cs : Nat → ClassId) (a : Nat → Nat) (t : TextS) (p0 : Int) (res : Int) (hf : f3_kind t p0 = some res) : Met l yX3_kind wsX3_kind ({ frames := 1, cells := 0, slots := 0, locals := 21 } : Room) (va_Pc [.ref (a 0), .int (iI p0)] (xPR (dC, dI) vwCl (w3 cs a t) (xT cs))) (vp_Si (fun r => r = iI res)) 0 0 (fun _ => False) := by
  refine Met.ofW (cc := cX3_kind) (maxL := 2) (ret := (some .int)) (by decide) rfl ?_
  intro p e s m args below meth c s₁ B hml hv
  obtain ⟨rfl, hP, hK⟩ := hv
  have hx := B.exec
  have hb := B.bytes
  have hr := B.returns
  have hts := atoms_spec (ws := wsX3_kind) B.pre
  have hown : s.vm.findClass RX3 = some m.cls := findClass_of_methodNamed B.named
  have hlocks := B.notSynchronized
  have hin3 : ∀ w ∈ wsX30, w ∈ wsX3_kind := by decide +kernel
  have hl := lv_entry [.ref (a 0), .int (iI p0)] (n := 2) (Nat.le_of_ble_eq_true rfl)
  rw [lg_entry_eq]
  generalize (lg_sl [.ref (a 0), .int (iI p0)] ++ List.replicate (2 - (lg_sl [.ref (a 0), .int (iI p0)]).length) Slot.unset).toArray = ls at hl ⊢
  have hl : lv_has ls 2 [(0, .ref (a 0)), (1, .int (iI p0))] := hl
  unfold f3_kind at hf
  refine lv_aload_n hx hb dX3_kind_0 rfl (lv_at hl 0 rfl) ?_
  refine va_get (D := (dC, dI)) (ci := 3) (v := .ref (a 2)) (C := RX3) (T := TX3) (N := 6) hx hb hts hin3 hown hK hP 0 rfl rfl 1 (by decide) (hts (.fieldLink RX3 20 "BoatRuns$Text" "kinds" "LBoatRuns$Row;") (by decide +kernel)) (fun _ h9 => h9) rfl dX3_kind_1 ?_
  refine lv_iload_n hx hb dX3_kind_4 rfl (lv_at hl 1 rfl) ?_
  obtain ⟨v1, ev1, hf⟩ := x_bind hf
  refine xc_ri (As := [.int (iI p0)]) (rest := []) ⟨hx, hb, hml, hown, hts⟩ (c2_get l dC dI cs (a 2) (a 6) 50 (g3_knds t) p0 (by decide) _ ev1) (cwV 1 hts gX3_kind_X2_get rfl rfl rfl cdX2_get ⟨Nat.le_of_ble_eq_true rfl, Nat.le_of_ble_eq_true rfl⟩) hK hP [2, 6] rfl 2 rfl rfl rfl hl.1 rfl (Nat.le_of_ble_eq_true rfl) dX3_kind_5 ⟨Nat.zero_le _, Nat.zero_le _⟩ ?_
  obtain rfl := Option.some.inj hf
  exact xe_ri hx hb hr hlocks dX3_kind_8 rfl
theorem cdX3_kind : yX3_kind.cls = RX3 ∧ yX3_kind.cls ≠ "java/lang/invoke/MethodHandle" ∧ yX3_kind.cls ≠ "java/lang/invoke/VarHandle" ∧ (parseMethodDescriptor yX3_kind.desc).map (fun d => d.parameters.length) = some 1 := by decide +kernel

set_option maxHeartbeats 4000000 in
set_option maxRecDepth 100000 in
theorem c3_first (l : Launch) (dC : Nat → ClassId) (dI : Nat → Nat → Nat) (cs : Nat → ClassId) (a : Nat → Nat) (t : TextS) (p0 : Int) (res : Int) (hf : f3_first t p0 = some res) : Met l yX3_first wsX3_first ({ frames := 1, cells := 0, slots := 0, locals := 21 } : Room) (va_Pc [.ref (a 0), .int (iI p0)] (xPR (dC, dI) vwCl (w3 cs a t) (xT cs))) (vp_Si (fun r => r = iI res)) 0 0 (fun _ => False) := by
  refine Met.ofW (cc := cX3_first) (maxL := 2) (ret := (some .int)) (by decide) rfl ?_
  intro p e s m args below meth c s₁ B hml hv
  obtain ⟨rfl, hP, hK⟩ := hv
  have hx := B.exec
  have hb := B.bytes
  have hr := B.returns
  have hts := atoms_spec (ws := wsX3_first) B.pre
  have hown : s.vm.findClass RX3 = some m.cls := findClass_of_methodNamed B.named
  have hlocks := B.notSynchronized
  have hin3 : ∀ w ∈ wsX30, w ∈ wsX3_first := by decide +kernel
  have hl := lv_entry [.ref (a 0), .int (iI p0)] (n := 2) (Nat.le_of_ble_eq_true rfl)
  rw [lg_entry_eq]
  generalize (lg_sl [.ref (a 0), .int (iI p0)] ++ List.replicate (2 - (lg_sl [.ref (a 0), .int (iI p0)]).length) Slot.unset).toArray = ls at hl ⊢
  have hl : lv_has ls 2 [(0, .ref (a 0)), (1, .int (iI p0))] := hl
  unfold f3_first at hf
  refine lv_aload_n hx hb dX3_first_0 rfl (lv_at hl 0 rfl) ?_
  refine va_get (D := (dC, dI)) (ci := 3) (v := .ref (a 3)) (C := RX3) (T := TX3) (N := 6) hx hb hts hin3 hown hK hP 0 rfl rfl 2 (by decide) (hts (.fieldLink RX3 23 "BoatRuns$Text" "firsts" "LBoatRuns$Row;") (by decide +kernel)) (fun _ h9 => h9) rfl dX3_first_1 ?_
  refine lv_iload_n hx hb dX3_first_4 rfl (lv_at hl 1 rfl) ?_
  obtain ⟨v1, ev1, hf⟩ := x_bind hf
  refine xc_ri (As := [.int (iI p0)]) (rest := []) ⟨hx, hb, hml, hown, hts⟩ (c2_get l dC dI cs (a 3) (a 7) 50 (g3_fsts t) p0 (by decide) _ ev1) (cwV 1 hts gX3_first_X2_get rfl rfl rfl cdX2_get ⟨Nat.le_of_ble_eq_true rfl, Nat.le_of_ble_eq_true rfl⟩) hK hP [3, 7] rfl 3 rfl rfl rfl hl.1 rfl (Nat.le_of_ble_eq_true rfl) dX3_first_5 ⟨Nat.zero_le _, Nat.zero_le _⟩ ?_
  obtain rfl := Option.some.inj hf
  exact xe_ri hx hb hr hlocks dX3_first_8 rfl
theorem cdX3_first : yX3_first.cls = RX3 ∧ yX3_first.cls ≠ "java/lang/invoke/MethodHandle" ∧ yX3_first.cls ≠ "java/lang/invoke/VarHandle" ∧ (parseMethodDescriptor yX3_first.desc).map (fun d => d.parameters.length) = some 1 := by decide +kernel

set_option maxHeartbeats 4000000 in
set_option maxRecDepth 100000 in
theorem c3_second (l : Launch) (dC : Nat → ClassId) (dI : Nat → Nat → Nat) (cs : Nat → ClassId) (a : Nat → Nat) (t : TextS) (p0 : Int) (res : Int) (hf : f3_second t p0 = some res) : Met l yX3_second wsX3_second ({ frames := 1, cells := 0, slots := 0, locals := 21 } : Room) (va_Pc [.ref (a 0), .int (iI p0)] (xPR (dC, dI) vwCl (w3 cs a t) (xT cs))) (vp_Si (fun r => r = iI res)) 0 0 (fun _ => False) := by
  refine Met.ofW (cc := cX3_second) (maxL := 2) (ret := (some .int)) (by decide) rfl ?_
  intro p e s m args below meth c s₁ B hml hv
  obtain ⟨rfl, hP, hK⟩ := hv
  have hx := B.exec
  have hb := B.bytes
  have hr := B.returns
  have hts := atoms_spec (ws := wsX3_second) B.pre
  have hown : s.vm.findClass RX3 = some m.cls := findClass_of_methodNamed B.named
  have hlocks := B.notSynchronized
  have hin3 : ∀ w ∈ wsX30, w ∈ wsX3_second := by decide +kernel
  have hl := lv_entry [.ref (a 0), .int (iI p0)] (n := 2) (Nat.le_of_ble_eq_true rfl)
  rw [lg_entry_eq]
  generalize (lg_sl [.ref (a 0), .int (iI p0)] ++ List.replicate (2 - (lg_sl [.ref (a 0), .int (iI p0)]).length) Slot.unset).toArray = ls at hl ⊢
  have hl : lv_has ls 2 [(0, .ref (a 0)), (1, .int (iI p0))] := hl
  unfold f3_second at hf
  refine lv_aload_n hx hb dX3_second_0 rfl (lv_at hl 0 rfl) ?_
  refine va_get (D := (dC, dI)) (ci := 3) (v := .ref (a 4)) (C := RX3) (T := TX3) (N := 6) hx hb hts hin3 hown hK hP 0 rfl rfl 3 (by decide) (hts (.fieldLink RX3 26 "BoatRuns$Text" "seconds" "LBoatRuns$Row;") (by decide +kernel)) (fun _ h9 => h9) rfl dX3_second_1 ?_
  refine lv_iload_n hx hb dX3_second_4 rfl (lv_at hl 1 rfl) ?_
  obtain ⟨v1, ev1, hf⟩ := x_bind hf
  refine xc_ri (As := [.int (iI p0)]) (rest := []) ⟨hx, hb, hml, hown, hts⟩ (c2_get l dC dI cs (a 4) (a 8) 50 (g3_snds t) p0 (by decide) _ ev1) (cwV 1 hts gX3_second_X2_get rfl rfl rfl cdX2_get ⟨Nat.le_of_ble_eq_true rfl, Nat.le_of_ble_eq_true rfl⟩) hK hP [4, 8] rfl 4 rfl rfl rfl hl.1 rfl (Nat.le_of_ble_eq_true rfl) dX3_second_5 ⟨Nat.zero_le _, Nat.zero_le _⟩ ?_
  obtain rfl := Option.some.inj hf
  exact xe_ri hx hb hr hlocks dX3_second_8 rfl
theorem cdX3_second : yX3_second.cls = RX3 ∧ yX3_second.cls ≠ "java/lang/invoke/MethodHandle" ∧ yX3_second.cls ≠ "java/lang/invoke/VarHandle" ∧ (parseMethodDescriptor yX3_second.desc).map (fun d => d.parameters.length) = some 1 := by decide +kernel

set_option maxHeartbeats 4000000 in
set_option maxRecDepth 100000 in
theorem c3_here (l : Launch) (dC : Nat → ClassId) (dI : Nat → Nat → Nat) (cs : Nat → ClassId) (a : Nat → Nat) (t : TextS) (res : Int) (hf : f3_here t = some res) : Met l yX3_here wsX3_here ({ frames := 1, cells := 0, slots := 0, locals := 21 } : Room) (va_Pc [.ref (a 0)] (xPR (dC, dI) vwCl (w3 cs a t) (xT cs))) (vp_Si (fun r => r = iI res)) 0 0 (fun _ => False) := by
  refine Met.ofW (cc := cX3_here) (maxL := 1) (ret := (some .int)) (by decide) rfl ?_
  intro p e s m args below meth c s₁ B hml hv
  obtain ⟨rfl, hP, hK⟩ := hv
  have hx := B.exec
  have hb := B.bytes
  have hr := B.returns
  have hts := atoms_spec (ws := wsX3_here) B.pre
  have hown : s.vm.findClass RX3 = some m.cls := findClass_of_methodNamed B.named
  have hlocks := B.notSynchronized
  have hin3 : ∀ w ∈ wsX30, w ∈ wsX3_here := by decide +kernel
  have hl := lv_entry [.ref (a 0)] (n := 1) (Nat.le_of_ble_eq_true rfl)
  rw [lg_entry_eq]
  generalize (lg_sl [.ref (a 0)] ++ List.replicate (1 - (lg_sl [.ref (a 0)]).length) Slot.unset).toArray = ls at hl ⊢
  have hl : lv_has ls 1 [(0, .ref (a 0))] := hl
  unfold f3_here at hf
  refine lv_aload_n hx hb dX3_here_0 rfl (lv_at hl 0 rfl) ?_
  refine va_get (D := (dC, dI)) (ci := 3) (v := .ref (a 1)) (C := RX3) (T := TX3) (N := 6) hx hb hts hin3 hown hK hP 0 rfl rfl 0 (by decide) (hts (.fieldLink RX3 14 "BoatRuns$Text" "bytes" "LBoatRuns$Row;") (by decide +kernel)) (fun _ h9 => h9) rfl dX3_here_1 ?_
  refine lv_aload_n hx hb dX3_here_4 rfl (lv_at hl 0 rfl) ?_
  refine va_get (D := (dC, dI)) (ci := 3) (v := .int (iI (g3_pos t))) (C := RX3) (T := TX3) (N := 6) hx hb hts hin3 hown hK hP 0 rfl rfl 4 (by decide) (hts (.fieldLink RX3 47 "BoatRuns$Text" "at" "I") (by decide +kernel)) (fun _ h9 => h9) rfl dX3_here_5 ?_
  obtain ⟨v1, ev1, hf⟩ := x_bind hf
  refine xc_ri (As := [.int (iI (g3_pos t))]) (rest := []) ⟨hx, hb, hml, hown, hts⟩ (c2_get l dC dI cs (a 1) (a 5) 100 (g3_byts t) (g3_pos t) (by decide) _ ev1) (cwV 1 hts gX3_here_X2_get rfl rfl rfl cdX2_get ⟨Nat.le_of_ble_eq_true rfl, Nat.le_of_ble_eq_true rfl⟩) hK hP [1, 5] rfl 1 rfl rfl rfl hl.1 rfl (Nat.le_of_ble_eq_true rfl) dX3_here_8 ⟨Nat.zero_le _, Nat.zero_le _⟩ ?_
  obtain rfl := Option.some.inj hf
  exact xe_ri hx hb hr hlocks dX3_here_11 rfl
theorem cdX3_here : yX3_here.cls = RX3 ∧ yX3_here.cls ≠ "java/lang/invoke/MethodHandle" ∧ yX3_here.cls ≠ "java/lang/invoke/VarHandle" ∧ (parseMethodDescriptor yX3_here.desc).map (fun d => d.parameters.length) = some 0 := by decide +kernel

set_option maxHeartbeats 4000000 in
set_option maxRecDepth 100000 in
theorem c3_isDigitHere (l : Launch) (dC : Nat → ClassId) (dI : Nat → Nat → Nat) (cs : Nat → ClassId) (a : Nat → Nat) (t : TextS) (res : Int) (hf : f3_isDigitHere t = some res) : Met l yX3_isDigitHere wsX3_isDigitHere ({ frames := 2, cells := 0, slots := 0, locals := 41 } : Room) (va_Pc [.ref (a 0)] (xPR (dC, dI) vwCl (w3 cs a t) (xT cs))) (vp_Si (fun r => r = iI res)) 0 0 (fun _ => False) := by
  refine Met.ofW (cc := cX3_isDigitHere) (maxL := 1) (ret := (some .boolean)) (by decide) rfl ?_
  intro p e s m args below meth c s₁ B hml hv
  obtain ⟨rfl, hP, hK⟩ := hv
  have hx := B.exec
  have hb := B.bytes
  have hr := B.returns
  have hts := atoms_spec (ws := wsX3_isDigitHere) B.pre
  have hown : s.vm.findClass RX3 = some m.cls := findClass_of_methodNamed B.named
  have hlocks := B.notSynchronized
  have hl := lv_entry [.ref (a 0)] (n := 1) (Nat.le_of_ble_eq_true rfl)
  rw [lg_entry_eq]
  generalize (lg_sl [.ref (a 0)] ++ List.replicate (1 - (lg_sl [.ref (a 0)]).length) Slot.unset).toArray = ls at hl ⊢
  have hl : lv_has ls 1 [(0, .ref (a 0))] := hl
  unfold f3_isDigitHere at hf
  refine lv_aload_n hx hb dX3_isDigitHere_0 rfl (lv_at hl 0 rfl) ?_
  obtain ⟨v1, ev1, hf⟩ := x_bind hf
  refine xc_ri (As := []) (rest := []) ⟨hx, hb, hml, hown, hts⟩ (c3_here l dC dI cs a t  _ ev1) (cwV 0 hts gX3_isDigitHere_X3_here rfl rfl rfl cdX3_here ⟨Nat.le_of_ble_eq_true rfl, Nat.le_of_ble_eq_true rfl⟩) hK hP [0, 1, 2, 3, 4, 5, 6, 7, 8] rfl 0 rfl rfl rfl hl.1 rfl (Nat.le_of_ble_eq_true rfl) dX3_isDigitHere_1 ⟨Nat.zero_le _, Nat.zero_le _⟩ ?_
  refine xk_bipush hx hb dX3_isDigitHere_4 (by decide) ?_
  obtain ⟨c2a, c2b, c2t, c2f⟩ := x_ltE hf
  refine xk_icmp_lt (tgt := 22) hx hb c2a c2b dX3_isDigitHere_6 (by decide) (fun c2 => ?_) (fun c2 => ?_)
  · have hf := c2t c2
    refine xk_iconst hx hb dX3_isDigitHere_22 ?_
    obtain rfl := Option.some.inj hf
    exact xe_rz hx hb hr (Or.inl rfl) hlocks dX3_isDigitHere_23 rfl
  · have hf := c2f c2
    refine lv_aload_n hx hb dX3_isDigitHere_9 rfl (lv_at hl 0 rfl) ?_
    obtain ⟨v3, ev3, hf⟩ := x_bind hf
    refine xc_ri (As := []) (rest := []) ⟨hx, hb, hml, hown, hts⟩ (c3_here l dC dI cs a t  _ ev3) (cwV 0 hts gX3_isDigitHere_X3_here rfl rfl rfl cdX3_here ⟨Nat.le_of_ble_eq_true rfl, Nat.le_of_ble_eq_true rfl⟩) hK hP [0, 1, 2, 3, 4, 5, 6, 7, 8] rfl 0 rfl rfl rfl hl.1 rfl (Nat.le_of_ble_eq_true rfl) dX3_isDigitHere_10 ⟨Nat.zero_le _, Nat.zero_le _⟩ ?_
    refine xk_bipush hx hb dX3_isDigitHere_13 (by decide) ?_
    obtain ⟨c4a, c4b, c4t, c4f⟩ := x_ltE hf
    refine xk_icmp_gt (tgt := 22) hx hb c4b c4a dX3_isDigitHere_15 (by decide) (fun c4 => ?_) (fun c4 => ?_)
    · have hf := c4t c4
      refine xk_iconst hx hb dX3_isDigitHere_22 ?_
      obtain rfl := Option.some.inj hf
      exact xe_rz hx hb hr (Or.inl rfl) hlocks dX3_isDigitHere_23 rfl
    · have hf := c4f c4
      refine xk_iconst hx hb dX3_isDigitHere_18 ?_
      refine lv_goto (tgt := 23) hx hb dX3_isDigitHere_19 (by decide) ?_
      obtain rfl := Option.some.inj hf
      exact xe_rz hx hb hr (Or.inr rfl) hlocks dX3_isDigitHere_23 rfl
theorem cdX3_isDigitHere : yX3_isDigitHere.cls = RX3 ∧ yX3_isDigitHere.cls ≠ "java/lang/invoke/MethodHandle" ∧ yX3_isDigitHere.cls ≠ "java/lang/invoke/VarHandle" ∧ (parseMethodDescriptor yX3_isDigitHere.desc).map (fun d => d.parameters.length) = some 0 := by decide +kernel

set_option maxHeartbeats 4000000 in
set_option maxRecDepth 100000 in
theorem c3_readNumber (l : Launch) (dC : Nat → ClassId) (dI : Nat → Nat → Nat) (cs : Nat → ClassId) (a : Nat → Nat) (sz : Nat) (t : TextS) (p0 : Int) (p1 : Int) (p2 : Int) (res : Int × TextS) (hf : f3_readNumber t p0 p1 p2 = some res) : Met l yX3_readNumber wsX3_readNumber ({ frames := 3, cells := 0, slots := 0, locals := 61 } : Room) (va_Pc [.ref (a 0), .int (iI p0), .int (iI p1), .int (iI p2)] (xPW (dC, dI) vwCl (w3 cs a t) (xT cs) sz)) (xQi (dC, dI) vwCl (w3 cs a t) (w3 cs a res.2) sz res.1) 0 0 (va_A (w3 cs a t) sz) := by
  refine Met.ofW (cc := cX3_readNumber) (maxL := 7) (ret := (some .int)) (by decide) rfl ?_
  intro p e s m args below meth c s₁ B hml hv
  obtain ⟨rfl, hsz, hP, hK, hD0⟩ := hv
  have hx := B.exec
  have hb := B.bytes
  have hr := B.returns
  have hts := atoms_spec (ws := wsX3_readNumber) B.pre
  have hown : s.vm.findClass RX3 = some m.cls := findClass_of_methodNamed B.named
  have hlocks := B.notSynchronized
  have hin3 : ∀ w ∈ wsX30, w ∈ wsX3_readNumber := by decide +kernel
  subst hsz
  have hD := hD0.self (sz := s.heap.size)
  have hA : ∀ z9 : Nat, s.heap.size ≤ z9 → va_A (w3 cs a t) s.heap.size z9 := fun z9 h => Or.inr h
  have hS : va_S (va_A (w3 cs a t) s.heap.size) s.heap s.heap [] := va_S.rf
  have hl := lv_entry [.ref (a 0), .int (iI p0), .int (iI p1), .int (iI p2)] (n := 7) (Nat.le_of_ble_eq_true rfl)
  rw [lg_entry_eq]
  generalize (lg_sl [.ref (a 0), .int (iI p0), .int (iI p1), .int (iI p2)] ++ List.replicate (7 - (lg_sl [.ref (a 0), .int (iI p0), .int (iI p1), .int (iI p2)]).length) Slot.unset).toArray = ls at hl ⊢
  have hl : lv_has ls 7 [(0, .ref (a 0)), (1, .int (iI p0)), (2, .int (iI p1)), (3, .int (iI p2))] := hl
  unfold f3_readNumber at hf
  refine lv_aload_n hx hb dX3_readNumber_0 rfl (lv_at hl 0 rfl) ?_
  refine va_get (D := (dC, dI)) (ci := 3) (v := .int (iI (g3_err t))) (C := RX3) (T := TX3) (N := 6) hx hb hts hin3 hown hK hP 0 rfl rfl 5 (by decide) (hts (.fieldLink RX3 29 "BoatRuns$Text" "error" "I") (by decide +kernel)) (fun _ h9 => h9) rfl dX3_readNumber_1 ?_
  refine xk_iconst hx hb dX3_readNumber_4 ?_
  obtain ⟨c1a, c1b, c1t, c1f⟩ := x_eqE hf
  refine xk_icmp_eq (tgt := 10) hx hb c1a c1b dX3_readNumber_5 (by decide) (fun c1 => ?_) (fun c1 => ?_)
  · have hf := c1t c1
    refine lv_aload_n hx hb dX3_readNumber_10 rfl (lv_at hl 0 rfl) ?_
    refine va_get (D := (dC, dI)) (ci := 3) (v := .int (iI (g3_pos t))) (C := RX3) (T := TX3) (N := 6) hx hb hts hin3 hown hK hP 0 rfl rfl 4 (by decide) (hts (.fieldLink RX3 47 "BoatRuns$Text" "at" "I") (by decide +kernel)) (fun _ h9 => h9) rfl dX3_readNumber_11 ?_
    refine lv_istore (lv' := [(4, .int (iI (g3_pos t))), (0, .ref (a 0)), (1, .int (iI p0)), (2, .int (iI p1)), (3, .int (iI p2))]) hx hb dX3_readNumber_14 hl (by decide) rfl (fun ls hl => ?_)
    refine xk_iconst hx hb dX3_readNumber_16 ?_
    refine lv_istore (lv' := [(5, .int (iI 0)), (4, .int (iI (g3_pos t))), (0, .ref (a 0)), (1, .int (iI p0)), (2, .int (iI p1)), (3, .int (iI p2))]) hx hb dX3_readNumber_17 hl (by decide) rfl (fun ls hl => ?_)
    refine xk_iconst hx hb dX3_readNumber_19 ?_
    refine lv_istore (lv' := [(6, .int (iI 0)), (5, .int (iI 0)), (4, .int (iI (g3_pos t))), (0, .ref (a 0)), (1, .int (iI p0)), (2, .int (iI p1)), (3, .int (iI p2))]) hx hb dX3_readNumber_20 hl (by decide) rfl (fun ls hl => ?_)
    have hL22 : ∀ (n3 : Nat) (l5 : Int) (l6 : Int) (t2 : TextS), f3_readNumber_L22 t p0 p1 p2 n3 l5 l6 t2 = some res → ∀ (H : Heap) (locs : List Loc), va_P (dC, dI) vwCl (w3 cs a t2) H → va_S (va_A (w3 cs a t) s.heap.size) s.heap H locs → ∀ (ls : Array Slot), lv_has ls 7 [(0, .ref (a 0)), (1, .int (iI p0)), (2, .int (iI p1)), (3, .int (iI p2)), (4, .int (iI (g3_pos t))), (5, .int (iI l5)), (6, .int (iI l6))] → W p l e (headSpec wsX3_readNumber ({ frames := 3, cells := 0, slots := 0, locals := 61 } : Room)).room s m ([.ref (a 0), .int (iI p0), .int (iI p1), .int (iI p2)] : List Value).toArray below meth c H locs 0 0 (MQ below (xQi (dC, dI) vwCl (w3 cs a t) (w3 cs a res.2) s.heap.size res.1) ([.ref (a 0), .int (iI p0), .int (iI p1), .int (iI p2)] : List Value).toArray s 0 0 (va_A (w3 cs a t) s.heap.size)) (F0 m 22 ls []) := by
      intro  n3
      induction n3 with
      | zero => intro l5 l6 t2 hf; have hf : (none : Option (Int × TextS)) = some res := hf; cases hf
      | succ n3 ih22 =>
        intro l5 l6 t2 hf H locs hP hS ls hl
        rw [f3_readNumber_L22] at hf
        refine lv_iload hx hb dX3_readNumber_22 (lv_at hl 6 rfl) ?_
        refine lv_iload_n hx hb dX3_readNumber_24 rfl (lv_at hl 1 rfl) ?_
        obtain ⟨c4a, c4b, c4t, c4f⟩ := x_ltE hf
        refine xk_icmp_ge (tgt := 66) hx hb c4a c4b dX3_readNumber_25 (by decide) (fun c4 => ?_) (fun c4 => ?_)
        · have hf := c4t c4
          refine lv_aload_n hx hb dX3_readNumber_28 rfl (lv_at hl 0 rfl) ?_
          obtain ⟨v5, ev5, hf⟩ := x_bind hf
          refine xc_ri (As := []) (rest := []) ⟨hx, hb, hml, hown, hts⟩ (c3_isDigitHere l dC dI cs a t2  _ ev5) (cwV 0 hts gX3_readNumber_X3_isDigitHere rfl rfl rfl cdX3_isDigitHere ⟨Nat.le_of_ble_eq_true rfl, Nat.le_of_ble_eq_true rfl⟩) hK hP [0, 1, 2, 3, 4, 5, 6, 7, 8] rfl 0 rfl rfl rfl hl.1 rfl (Nat.le_of_ble_eq_true rfl) dX3_readNumber_29 ⟨Nat.zero_le _, Nat.zero_le _⟩ ?_
          obtain ⟨c6a, c6b, c6t, c6f⟩ := x_eqE hf
          refine xk_if_eq (tgt := 66) hx hb c6a dX3_readNumber_32 (by decide) (fun c6 => ?_) (fun c6 => ?_)
          · have hf := c6t c6
            refine lv_aload_n hx hb dX3_readNumber_66 rfl (lv_at hl 0 rfl) ?_
            refine va_get (D := (dC, dI)) (ci := 3) (v := .int (iI (g3_pos t2))) (C := RX3) (T := TX3) (N := 6) hx hb hts hin3 hown hK hP 0 rfl rfl 4 (by decide) (hts (.fieldLink RX3 47 "BoatRuns$Text" "at" "I") (by decide +kernel)) (fun _ h9 => h9) rfl dX3_readNumber_67 ?_
            refine lv_iload hx hb dX3_readNumber_70 (lv_at hl 4 rfl) ?_
            obtain ⟨c7a, c7b, c7t, c7f⟩ := x_eqE hf
            refine xk_icmp_eq (tgt := 82) hx hb c7a c7b dX3_readNumber_72 (by decide) (fun c7 => ?_) (fun c7 => ?_)
            · have hf := c7t c7
              refine lv_aload_n hx hb dX3_readNumber_82 rfl (lv_at hl 0 rfl) ?_
              refine lv_aload_n hx hb dX3_readNumber_83 rfl (lv_at hl 0 rfl) ?_
              refine va_get (D := (dC, dI)) (ci := 3) (v := .int (iI (g3_pos t2))) (C := RX3) (T := TX3) (N := 6) hx hb hts hin3 hown hK hP 0 rfl rfl 4 (by decide) (hts (.fieldLink RX3 47 "BoatRuns$Text" "at" "I") (by decide +kernel)) (fun _ h9 => h9) rfl dX3_readNumber_84 ?_
              refine va_put (D := (dC, dI)) (ci := 3) (v := .int (iI (g3_pos t2))) (ty := .int) (C := RX3) (T := TX3) (N := 6) hx hb hts hin3 tyX3 tyX3_ok nmX3 hown hK hP (x_addr hD rfl) hS 0 rfl rfl 5 (by decide) (hts (.fieldLink RX3 29 "BoatRuns$Text" "error" "I") (by decide +kernel)) (fun _ h9 => h9) rfl (by decide +kernel) rfl rfl (Nat.le_of_ble_eq_true rfl) dX3_readNumber_87 (fun H locs hP _ hS => ?_)
              have hP : va_P (dC, dI) vwCl (w3C cs a (g3_pos t2) (g3_pos t2) (g3_byts t2) (g3_knds t2) (g3_fsts t2) (g3_snds t2)) H := hP
              refine lv_goto (tgt := 111) hx hb dX3_readNumber_90 (by decide) ?_
              refine lv_iload hx hb dX3_readNumber_111 (lv_at hl 5 rfl) ?_
              obtain rfl := Option.some.inj hf
              exact xe_wi hx hb hr hlocks hS hP dX3_readNumber_113
            · have hf := c7f c7
              refine lv_aload_n hx hb dX3_readNumber_75 rfl (lv_at hl 0 rfl) ?_
              obtain ⟨v8, ev8, hf⟩ := x_bind hf
              refine xc_ri (As := []) (rest := []) ⟨hx, hb, hml, hown, hts⟩ (c3_isDigitHere l dC dI cs a t2  _ ev8) (cwV 0 hts gX3_readNumber_X3_isDigitHere rfl rfl rfl cdX3_isDigitHere ⟨Nat.le_of_ble_eq_true rfl, Nat.le_of_ble_eq_true rfl⟩) hK hP [0, 1, 2, 3, 4, 5, 6, 7, 8] rfl 0 rfl rfl rfl hl.1 rfl (Nat.le_of_ble_eq_true rfl) dX3_readNumber_76 ⟨Nat.zero_le _, Nat.zero_le _⟩ ?_
              obtain ⟨c9a, c9b, c9t, c9f⟩ := x_eqE hf
              refine xk_if_eq (tgt := 93) hx hb c9a dX3_readNumber_79 (by decide) (fun c9 => ?_) (fun c9 => ?_)
              · have hf := c9t c9
                refine lv_iload hx hb dX3_readNumber_93 (lv_at hl 5 rfl) ?_
                refine lv_iload_n hx hb dX3_readNumber_95 rfl (lv_at hl 2 rfl) ?_
                obtain ⟨c10a, c10b, c10t, c10f⟩ := x_ltE hf
                refine xk_icmp_lt (tgt := 105) hx hb c10a c10b dX3_readNumber_96 (by decide) (fun c10 => ?_) (fun c10 => ?_)
                · have hf := c10t c10
                  refine lv_aload_n hx hb dX3_readNumber_105 rfl (lv_at hl 0 rfl) ?_
                  refine lv_iload hx hb dX3_readNumber_106 (lv_at hl 4 rfl) ?_
                  refine va_put (D := (dC, dI)) (ci := 3) (v := .int (iI (g3_pos t))) (ty := .int) (C := RX3) (T := TX3) (N := 6) hx hb hts hin3 tyX3 tyX3_ok nmX3 hown hK hP (x_addr hD rfl) hS 0 rfl rfl 5 (by decide) (hts (.fieldLink RX3 29 "BoatRuns$Text" "error" "I") (by decide +kernel)) (fun _ h9 => h9) rfl (by decide +kernel) rfl rfl (Nat.le_of_ble_eq_true rfl) dX3_readNumber_108 (fun H locs hP _ hS => ?_)
                  have hP : va_P (dC, dI) vwCl (w3C cs a (g3_pos t2) (g3_pos t) (g3_byts t2) (g3_knds t2) (g3_fsts t2) (g3_snds t2)) H := hP
                  refine lv_iload hx hb dX3_readNumber_111 (lv_at hl 5 rfl) ?_
                  obtain rfl := Option.some.inj hf
                  exact xe_wi hx hb hr hlocks hS hP dX3_readNumber_113
                · have hf := c10f c10
                  refine lv_iload hx hb dX3_readNumber_99 (lv_at hl 5 rfl) ?_
                  refine lv_iload_n hx hb dX3_readNumber_101 rfl (lv_at hl 3 rfl) ?_
                  obtain ⟨c11a, c11b, c11t, c11f⟩ := x_ltE hf
                  refine xk_icmp_le (tgt := 111) hx hb c11b c11a dX3_readNumber_102 (by decide) (fun c11 => ?_) (fun c11 => ?_)
                  · have hf := c11t c11
                    refine lv_aload_n hx hb dX3_readNumber_105 rfl (lv_at hl 0 rfl) ?_
                    refine lv_iload hx hb dX3_readNumber_106 (lv_at hl 4 rfl) ?_
                    refine va_put (D := (dC, dI)) (ci := 3) (v := .int (iI (g3_pos t))) (ty := .int) (C := RX3) (T := TX3) (N := 6) hx hb hts hin3 tyX3 tyX3_ok nmX3 hown hK hP (x_addr hD rfl) hS 0 rfl rfl 5 (by decide) (hts (.fieldLink RX3 29 "BoatRuns$Text" "error" "I") (by decide +kernel)) (fun _ h9 => h9) rfl (by decide +kernel) rfl rfl (Nat.le_of_ble_eq_true rfl) dX3_readNumber_108 (fun H locs hP _ hS => ?_)
                    have hP : va_P (dC, dI) vwCl (w3C cs a (g3_pos t2) (g3_pos t) (g3_byts t2) (g3_knds t2) (g3_fsts t2) (g3_snds t2)) H := hP
                    refine lv_iload hx hb dX3_readNumber_111 (lv_at hl 5 rfl) ?_
                    obtain rfl := Option.some.inj hf
                    exact xe_wi hx hb hr hlocks hS hP dX3_readNumber_113
                  · have hf := c11f c11
                    refine lv_iload hx hb dX3_readNumber_111 (lv_at hl 5 rfl) ?_
                    obtain rfl := Option.some.inj hf
                    exact xe_wi hx hb hr hlocks hS hP dX3_readNumber_113
              · have hf := c9f c9
                refine lv_aload_n hx hb dX3_readNumber_82 rfl (lv_at hl 0 rfl) ?_
                refine lv_aload_n hx hb dX3_readNumber_83 rfl (lv_at hl 0 rfl) ?_
                refine va_get (D := (dC, dI)) (ci := 3) (v := .int (iI (g3_pos t2))) (C := RX3) (T := TX3) (N := 6) hx hb hts hin3 hown hK hP 0 rfl rfl 4 (by decide) (hts (.fieldLink RX3 47 "BoatRuns$Text" "at" "I") (by decide +kernel)) (fun _ h9 => h9) rfl dX3_readNumber_84 ?_
                refine va_put (D := (dC, dI)) (ci := 3) (v := .int (iI (g3_pos t2))) (ty := .int) (C := RX3) (T := TX3) (N := 6) hx hb hts hin3 tyX3 tyX3_ok nmX3 hown hK hP (x_addr hD rfl) hS 0 rfl rfl 5 (by decide) (hts (.fieldLink RX3 29 "BoatRuns$Text" "error" "I") (by decide +kernel)) (fun _ h9 => h9) rfl (by decide +kernel) rfl rfl (Nat.le_of_ble_eq_true rfl) dX3_readNumber_87 (fun H locs hP _ hS => ?_)
                have hP : va_P (dC, dI) vwCl (w3C cs a (g3_pos t2) (g3_pos t2) (g3_byts t2) (g3_knds t2) (g3_fsts t2) (g3_snds t2)) H := hP
                refine lv_goto (tgt := 111) hx hb dX3_readNumber_90 (by decide) ?_
                refine lv_iload hx hb dX3_readNumber_111 (lv_at hl 5 rfl) ?_
                obtain rfl := Option.some.inj hf
                exact xe_wi hx hb hr hlocks hS hP dX3_readNumber_113
          · have hf := c6f c6
            refine xk_bipush hx hb dX3_readNumber_35 (by decide) ?_
            refine lv_iload hx hb dX3_readNumber_37 (lv_at hl 5 rfl) ?_
            refine xk_imul hx hb dX3_readNumber_39 ?_
            refine lv_aload_n hx hb dX3_readNumber_40 rfl (lv_at hl 0 rfl) ?_
            obtain ⟨v12, ev12, hf⟩ := x_bind hf
            refine xc_ri (As := []) (rest := [.int (iI (10 * l5))]) ⟨hx, hb, hml, hown, hts⟩ (c3_here l dC dI cs a t2  _ ev12) (cwV 0 hts gX3_readNumber_X3_here rfl rfl rfl cdX3_here ⟨Nat.le_of_ble_eq_true rfl, Nat.le_of_ble_eq_true rfl⟩) hK hP [0, 1, 2, 3, 4, 5, 6, 7, 8] rfl 0 rfl rfl rfl hl.1 rfl (Nat.le_of_ble_eq_true rfl) dX3_readNumber_41 ⟨Nat.zero_le _, Nat.zero_le _⟩ ?_
            refine xk_iadd hx hb dX3_readNumber_44 ?_
            refine xk_bipush hx hb dX3_readNumber_45 (by decide) ?_
            refine xk_isub hx hb dX3_readNumber_47 ?_
            refine lv_istore (lv' := [(5, .int (iI (((10 * l5) + v12) - 48))), (0, .ref (a 0)), (1, .int (iI p0)), (2, .int (iI p1)), (3, .int (iI p2)), (4, .int (iI (g3_pos t))), (6, .int (iI l6))]) hx hb dX3_readNumber_48 hl (by decide) rfl (fun ls hl => ?_)
            refine lv_aload_n hx hb dX3_readNumber_50 rfl (lv_at hl 1 rfl) ?_
            refine lv_dup hx hb dX3_readNumber_51 rfl ?_
            refine va_get (D := (dC, dI)) (ci := 3) (v := .int (iI (g3_pos t2))) (C := RX3) (T := TX3) (N := 6) hx hb hts hin3 hown hK hP 0 rfl rfl 4 (by decide) (hts (.fieldLink RX3 47 "BoatRuns$Text" "at" "I") (by decide +kernel)) (fun _ h9 => h9) rfl dX3_readNumber_52 ?_
            refine xk_iconst hx hb dX3_readNumber_55 ?_
            refine xk_iadd hx hb dX3_readNumber_56 ?_
            refine va_put (D := (dC, dI)) (ci := 3) (v := .int (iI (g3_pos t2 + 1))) (ty := .int) (C := RX3) (T := TX3) (N := 6) hx hb hts hin3 tyX3 tyX3_ok nmX3 hown hK hP (x_addr hD rfl) hS 0 rfl rfl 4 (by decide) (hts (.fieldLink RX3 47 "BoatRuns$Text" "at" "I") (by decide +kernel)) (fun _ h9 => h9) rfl (by decide +kernel) rfl rfl (Nat.le_of_ble_eq_true rfl) dX3_readNumber_57 (fun H locs hP _ hS => ?_)
            have hP : va_P (dC, dI) vwCl (w3C cs a (g3_pos t2 + 1) (g3_err t2) (g3_byts t2) (g3_knds t2) (g3_fsts t2) (g3_snds t2)) H := hP
            refine xk_iinc (lv' := [(6, .int (iI (l6 + 1))), (5, .int (iI (((10 * l5) + v12) - 48))), (0, .ref (a 0)), (1, .int (iI p0)), (2, .int (iI p1)), (3, .int (iI p2)), (4, .int (iI (g3_pos t)))]) hx hb dX3_readNumber_60 hl (k := 6) rfl (by decide) rfl (fun ls hl => ?_)
            refine lv_goto (tgt := 22) hx hb dX3_readNumber_63 (by decide) ?_
            exact ih22 (((10 * l5) + v12) - 48) (l6 + 1) (s3_pos t2 (g3_pos t2 + 1)) hf _ _ hP hS ls (lv_sub hl [2, 3, 4, 5, 6, 1, 0] rfl)
        · have hf := c4f c4
          refine lv_aload_n hx hb dX3_readNumber_66 rfl (lv_at hl 0 rfl) ?_
          refine va_get (D := (dC, dI)) (ci := 3) (v := .int (iI (g3_pos t2))) (C := RX3) (T := TX3) (N := 6) hx hb hts hin3 hown hK hP 0 rfl rfl 4 (by decide) (hts (.fieldLink RX3 47 "BoatRuns$Text" "at" "I") (by decide +kernel)) (fun _ h9 => h9) rfl dX3_readNumber_67 ?_
          refine lv_iload hx hb dX3_readNumber_70 (lv_at hl 4 rfl) ?_
          obtain ⟨c13a, c13b, c13t, c13f⟩ := x_eqE hf
          refine xk_icmp_eq (tgt := 82) hx hb c13a c13b dX3_readNumber_72 (by decide) (fun c13 => ?_) (fun c13 => ?_)
          · have hf := c13t c13
            refine lv_aload_n hx hb dX3_readNumber_82 rfl (lv_at hl 0 rfl) ?_
            refine lv_aload_n hx hb dX3_readNumber_83 rfl (lv_at hl 0 rfl) ?_
            refine va_get (D := (dC, dI)) (ci := 3) (v := .int (iI (g3_pos t2))) (C := RX3) (T := TX3) (N := 6) hx hb hts hin3 hown hK hP 0 rfl rfl 4 (by decide) (hts (.fieldLink RX3 47 "BoatRuns$Text" "at" "I") (by decide +kernel)) (fun _ h9 => h9) rfl dX3_readNumber_84 ?_
            refine va_put (D := (dC, dI)) (ci := 3) (v := .int (iI (g3_pos t2))) (ty := .int) (C := RX3) (T := TX3) (N := 6) hx hb hts hin3 tyX3 tyX3_ok nmX3 hown hK hP (x_addr hD rfl) hS 0 rfl rfl 5 (by decide) (hts (.fieldLink RX3 29 "BoatRuns$Text" "error" "I") (by decide +kernel)) (fun _ h9 => h9) rfl (by decide +kernel) rfl rfl (Nat.le_of_ble_eq_true rfl) dX3_readNumber_87 (fun H locs hP _ hS => ?_)
            have hP : va_P (dC, dI) vwCl (w3C cs a (g3_pos t2) (g3_pos t2) (g3_byts t2) (g3_knds t2) (g3_fsts t2) (g3_snds t2)) H := hP
            refine lv_goto (tgt := 111) hx hb dX3_readNumber_90 (by decide) ?_
            refine lv_iload hx hb dX3_readNumber_111 (lv_at hl 5 rfl) ?_
            obtain rfl := Option.some.inj hf
            exact xe_wi hx hb hr hlocks hS hP dX3_readNumber_113
          · have hf := c13f c13
            refine lv_aload_n hx hb dX3_readNumber_75 rfl (lv_at hl 0 rfl) ?_
            obtain ⟨v14, ev14, hf⟩ := x_bind hf
            refine xc_ri (As := []) (rest := []) ⟨hx, hb, hml, hown, hts⟩ (c3_isDigitHere l dC dI cs a t2  _ ev14) (cwV 0 hts gX3_readNumber_X3_isDigitHere rfl rfl rfl cdX3_isDigitHere ⟨Nat.le_of_ble_eq_true rfl, Nat.le_of_ble_eq_true rfl⟩) hK hP [0, 1, 2, 3, 4, 5, 6, 7, 8] rfl 0 rfl rfl rfl hl.1 rfl (Nat.le_of_ble_eq_true rfl) dX3_readNumber_76 ⟨Nat.zero_le _, Nat.zero_le _⟩ ?_
            obtain ⟨c15a, c15b, c15t, c15f⟩ := x_eqE hf
            refine xk_if_eq (tgt := 93) hx hb c15a dX3_readNumber_79 (by decide) (fun c15 => ?_) (fun c15 => ?_)
            · have hf := c15t c15
              refine lv_iload hx hb dX3_readNumber_93 (lv_at hl 5 rfl) ?_
              refine lv_iload_n hx hb dX3_readNumber_95 rfl (lv_at hl 2 rfl) ?_
              obtain ⟨c16a, c16b, c16t, c16f⟩ := x_ltE hf
              refine xk_icmp_lt (tgt := 105) hx hb c16a c16b dX3_readNumber_96 (by decide) (fun c16 => ?_) (fun c16 => ?_)
              · have hf := c16t c16
                refine lv_aload_n hx hb dX3_readNumber_105 rfl (lv_at hl 0 rfl) ?_
                refine lv_iload hx hb dX3_readNumber_106 (lv_at hl 4 rfl) ?_
                refine va_put (D := (dC, dI)) (ci := 3) (v := .int (iI (g3_pos t))) (ty := .int) (C := RX3) (T := TX3) (N := 6) hx hb hts hin3 tyX3 tyX3_ok nmX3 hown hK hP (x_addr hD rfl) hS 0 rfl rfl 5 (by decide) (hts (.fieldLink RX3 29 "BoatRuns$Text" "error" "I") (by decide +kernel)) (fun _ h9 => h9) rfl (by decide +kernel) rfl rfl (Nat.le_of_ble_eq_true rfl) dX3_readNumber_108 (fun H locs hP _ hS => ?_)
                have hP : va_P (dC, dI) vwCl (w3C cs a (g3_pos t2) (g3_pos t) (g3_byts t2) (g3_knds t2) (g3_fsts t2) (g3_snds t2)) H := hP
                refine lv_iload hx hb dX3_readNumber_111 (lv_at hl 5 rfl) ?_
                obtain rfl := Option.some.inj hf
                exact xe_wi hx hb hr hlocks hS hP dX3_readNumber_113
              · have hf := c16f c16
                refine lv_iload hx hb dX3_readNumber_99 (lv_at hl 5 rfl) ?_
                refine lv_iload_n hx hb dX3_readNumber_101 rfl (lv_at hl 3 rfl) ?_
                obtain ⟨c17a, c17b, c17t, c17f⟩ := x_ltE hf
                refine xk_icmp_le (tgt := 111) hx hb c17b c17a dX3_readNumber_102 (by decide) (fun c17 => ?_) (fun c17 => ?_)
                · have hf := c17t c17
                  refine lv_aload_n hx hb dX3_readNumber_105 rfl (lv_at hl 0 rfl) ?_
                  refine lv_iload hx hb dX3_readNumber_106 (lv_at hl 4 rfl) ?_
                  refine va_put (D := (dC, dI)) (ci := 3) (v := .int (iI (g3_pos t))) (ty := .int) (C := RX3) (T := TX3) (N := 6) hx hb hts hin3 tyX3 tyX3_ok nmX3 hown hK hP (x_addr hD rfl) hS 0 rfl rfl 5 (by decide) (hts (.fieldLink RX3 29 "BoatRuns$Text" "error" "I") (by decide +kernel)) (fun _ h9 => h9) rfl (by decide +kernel) rfl rfl (Nat.le_of_ble_eq_true rfl) dX3_readNumber_108 (fun H locs hP _ hS => ?_)
                  have hP : va_P (dC, dI) vwCl (w3C cs a (g3_pos t2) (g3_pos t) (g3_byts t2) (g3_knds t2) (g3_fsts t2) (g3_snds t2)) H := hP
                  refine lv_iload hx hb dX3_readNumber_111 (lv_at hl 5 rfl) ?_
                  obtain rfl := Option.some.inj hf
                  exact xe_wi hx hb hr hlocks hS hP dX3_readNumber_113
                · have hf := c17f c17
                  refine lv_iload hx hb dX3_readNumber_111 (lv_at hl 5 rfl) ?_
                  obtain rfl := Option.some.inj hf
                  exact xe_wi hx hb hr hlocks hS hP dX3_readNumber_113
            · have hf := c15f c15
              refine lv_aload_n hx hb dX3_readNumber_82 rfl (lv_at hl 0 rfl) ?_
              refine lv_aload_n hx hb dX3_readNumber_83 rfl (lv_at hl 0 rfl) ?_
              refine va_get (D := (dC, dI)) (ci := 3) (v := .int (iI (g3_pos t2))) (C := RX3) (T := TX3) (N := 6) hx hb hts hin3 hown hK hP 0 rfl rfl 4 (by decide) (hts (.fieldLink RX3 47 "BoatRuns$Text" "at" "I") (by decide +kernel)) (fun _ h9 => h9) rfl dX3_readNumber_84 ?_
              refine va_put (D := (dC, dI)) (ci := 3) (v := .int (iI (g3_pos t2))) (ty := .int) (C := RX3) (T := TX3) (N := 6) hx hb hts hin3 tyX3 tyX3_ok nmX3 hown hK hP (x_addr hD rfl) hS 0 rfl rfl 5 (by decide) (hts (.fieldLink RX3 29 "BoatRuns$Text" "error" "I") (by decide +kernel)) (fun _ h9 => h9) rfl (by decide +kernel) rfl rfl (Nat.le_of_ble_eq_true rfl) dX3_readNumber_87 (fun H locs hP _ hS => ?_)
              have hP : va_P (dC, dI) vwCl (w3C cs a (g3_pos t2) (g3_pos t2) (g3_byts t2) (g3_knds t2) (g3_fsts t2) (g3_snds t2)) H := hP
              refine lv_goto (tgt := 111) hx hb dX3_readNumber_90 (by decide) ?_
              refine lv_iload hx hb dX3_readNumber_111 (lv_at hl 5 rfl) ?_
              obtain rfl := Option.some.inj hf
              exact xe_wi hx hb hr hlocks hS hP dX3_readNumber_113
    exact hL22  xFU 0 0 t hf _ _ hP hS ls (lv_sub hl [3, 4, 5, 6, 2, 1, 0] rfl)
  · have hf := c1f c1
    refine xk_iconst hx hb dX3_readNumber_8 ?_
    obtain rfl := Option.some.inj hf
    exact xe_wi hx hb hr hlocks hS hP dX3_readNumber_9
theorem cdX3_readNumber : yX3_readNumber.cls = RX3 ∧ yX3_readNumber.cls ≠ "java/lang/invoke/MethodHandle" ∧ yX3_readNumber.cls ≠ "java/lang/invoke/VarHandle" ∧ (parseMethodDescriptor yX3_readNumber.desc).map (fun d => d.parameters.length) = some 3 := by decide +kernel

set_option maxHeartbeats 4000000 in
set_option maxRecDepth 100000 in
theorem c3_readSign (l : Launch) (dC : Nat → ClassId) (dI : Nat → Nat → Nat) (cs : Nat → ClassId) (a : Nat → Nat) (sz : Nat) (t : TextS) (p0 : Int) (res : TextS) (hf : f3_readSign t p0 = some res) : Met l yX3_readSign wsX3_readSign ({ frames := 2, cells := 0, slots := 0, locals := 41 } : Room) (va_Pc [.ref (a 0), .int (iI p0)] (xPW (dC, dI) vwCl (w3 cs a t) (xT cs) sz)) (xQv (dC, dI) vwCl (w3 cs a t) (w3 cs a res) sz) 0 0 (va_A (w3 cs a t) sz) := by
  refine Met.ofW (cc := cX3_readSign) (maxL := 2) (ret := none) (by decide) rfl ?_
  intro p e s m args below meth c s₁ B hml hv
  obtain ⟨rfl, hsz, hP, hK, hD0⟩ := hv
  have hx := B.exec
  have hb := B.bytes
  have hr := B.returns
  have hts := atoms_spec (ws := wsX3_readSign) B.pre
  have hown : s.vm.findClass RX3 = some m.cls := findClass_of_methodNamed B.named
  have hlocks := B.notSynchronized
  have hin3 : ∀ w ∈ wsX30, w ∈ wsX3_readSign := by decide +kernel
  subst hsz
  have hD := hD0.self (sz := s.heap.size)
  have hA : ∀ z9 : Nat, s.heap.size ≤ z9 → va_A (w3 cs a t) s.heap.size z9 := fun z9 h => Or.inr h
  have hS : va_S (va_A (w3 cs a t) s.heap.size) s.heap s.heap [] := va_S.rf
  have hl := lv_entry [.ref (a 0), .int (iI p0)] (n := 2) (Nat.le_of_ble_eq_true rfl)
  rw [lg_entry_eq]
  generalize (lg_sl [.ref (a 0), .int (iI p0)] ++ List.replicate (2 - (lg_sl [.ref (a 0), .int (iI p0)]).length) Slot.unset).toArray = ls at hl ⊢
  have hl : lv_has ls 2 [(0, .ref (a 0)), (1, .int (iI p0))] := hl
  unfold f3_readSign at hf
  refine lv_aload_n hx hb dX3_readSign_0 rfl (lv_at hl 0 rfl) ?_
  refine va_get (D := (dC, dI)) (ci := 3) (v := .int (iI (g3_err t))) (C := RX3) (T := TX3) (N := 6) hx hb hts hin3 hown hK hP 0 rfl rfl 5 (by decide) (hts (.fieldLink RX3 29 "BoatRuns$Text" "error" "I") (by decide +kernel)) (fun _ h9 => h9) rfl dX3_readSign_1 ?_
  refine xk_iconst hx hb dX3_readSign_4 ?_
  obtain ⟨c1a, c1b, c1t, c1f⟩ := x_eqE hf
  refine xk_icmp_eq (tgt := 9) hx hb c1a c1b dX3_readSign_5 (by decide) (fun c1 => ?_) (fun c1 => ?_)
  · have hf := c1t c1
    refine lv_aload_n hx hb dX3_readSign_9 rfl (lv_at hl 0 rfl) ?_
    obtain ⟨v2, ev2, hf⟩ := x_bind hf
    refine xc_ri (As := []) (rest := []) ⟨hx, hb, hml, hown, hts⟩ (c3_here l dC dI cs a t  _ ev2) (cwV 0 hts gX3_readSign_X3_here rfl rfl rfl cdX3_here ⟨Nat.le_of_ble_eq_true rfl, Nat.le_of_ble_eq_true rfl⟩) hK hP [0, 1, 2, 3, 4, 5, 6, 7, 8] rfl 0 rfl rfl rfl hl.1 rfl (Nat.le_of_ble_eq_true rfl) dX3_readSign_10 ⟨Nat.zero_le _, Nat.zero_le _⟩ ?_
    refine lv_iload_n hx hb dX3_readSign_13 rfl (lv_at hl 1 rfl) ?_
    obtain ⟨c3a, c3b, c3t, c3f⟩ := x_eqE hf
    refine xk_icmp_ne (tgt := 30) hx hb c3a c3b dX3_readSign_14 (by decide) (fun c3 => ?_) (fun c3 => ?_)
    · have hf := c3t c3
      refine lv_aload_n hx hb dX3_readSign_17 rfl (lv_at hl 0 rfl) ?_
      refine lv_dup hx hb dX3_readSign_18 rfl ?_
      refine va_get (D := (dC, dI)) (ci := 3) (v := .int (iI (g3_pos t))) (C := RX3) (T := TX3) (N := 6) hx hb hts hin3 hown hK hP 0 rfl rfl 4 (by decide) (hts (.fieldLink RX3 47 "BoatRuns$Text" "at" "I") (by decide +kernel)) (fun _ h9 => h9) rfl dX3_readSign_19 ?_
      refine xk_iconst hx hb dX3_readSign_22 ?_
      refine xk_iadd hx hb dX3_readSign_23 ?_
      refine va_put (D := (dC, dI)) (ci := 3) (v := .int (iI (g3_pos t + 1))) (ty := .int) (C := RX3) (T := TX3) (N := 6) hx hb hts hin3 tyX3 tyX3_ok nmX3 hown hK hP (x_addr hD rfl) hS 0 rfl rfl 4 (by decide) (hts (.fieldLink RX3 47 "BoatRuns$Text" "at" "I") (by decide +kernel)) (fun _ h9 => h9) rfl (by decide +kernel) rfl rfl (Nat.le_of_ble_eq_true rfl) dX3_readSign_24 (fun H locs hP _ hS => ?_)
      have hP : va_P (dC, dI) vwCl (w3C cs a (g3_pos t + 1) (g3_err t) (g3_byts t) (g3_knds t) (g3_fsts t) (g3_snds t)) H := hP
      refine lv_goto (tgt := 38) hx hb dX3_readSign_27 (by decide) ?_
      obtain rfl := Option.some.inj hf
      exact xe_wv hx hb hr hlocks hS hP dX3_readSign_38
    · have hf := c3f c3
      refine lv_aload_n hx hb dX3_readSign_30 rfl (lv_at hl 0 rfl) ?_
      refine lv_aload_n hx hb dX3_readSign_31 rfl (lv_at hl 0 rfl) ?_
      refine va_get (D := (dC, dI)) (ci := 3) (v := .int (iI (g3_pos t))) (C := RX3) (T := TX3) (N := 6) hx hb hts hin3 hown hK hP 0 rfl rfl 4 (by decide) (hts (.fieldLink RX3 47 "BoatRuns$Text" "at" "I") (by decide +kernel)) (fun _ h9 => h9) rfl dX3_readSign_32 ?_
      refine va_put (D := (dC, dI)) (ci := 3) (v := .int (iI (g3_pos t))) (ty := .int) (C := RX3) (T := TX3) (N := 6) hx hb hts hin3 tyX3 tyX3_ok nmX3 hown hK hP (x_addr hD rfl) hS 0 rfl rfl 5 (by decide) (hts (.fieldLink RX3 29 "BoatRuns$Text" "error" "I") (by decide +kernel)) (fun _ h9 => h9) rfl (by decide +kernel) rfl rfl (Nat.le_of_ble_eq_true rfl) dX3_readSign_35 (fun H locs hP _ hS => ?_)
      have hP : va_P (dC, dI) vwCl (w3C cs a (g3_pos t) (g3_pos t) (g3_byts t) (g3_knds t) (g3_fsts t) (g3_snds t)) H := hP
      obtain rfl := Option.some.inj hf
      exact xe_wv hx hb hr hlocks hS hP dX3_readSign_38
  · have hf := c1f c1
    obtain rfl := Option.some.inj hf
    exact xe_wv hx hb hr hlocks hS hP dX3_readSign_8
theorem cdX3_readSign : yX3_readSign.cls = RX3 ∧ yX3_readSign.cls ≠ "java/lang/invoke/MethodHandle" ∧ yX3_readSign.cls ≠ "java/lang/invoke/VarHandle" ∧ (parseMethodDescriptor yX3_readSign.desc).map (fun d => d.parameters.length) = some 1 := by decide +kernel

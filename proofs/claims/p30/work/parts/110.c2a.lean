set_option maxHeartbeats 4000000 in
set_option maxRecDepth 100000 in
theorem c2_size (l : Launch) (dC : Nat → ClassId) (dI : Nat → Nat → Nat) (cs : Nat → ClassId) (a0 a1 : Nat) (N : Nat) (r : RowS) (hN : N ≤ 2147483647) (res : Int) (hf : f2_size N r = some res) : Met l yX2_size wsX2_size ({ frames := 0, cells := 0, slots := 0, locals := 0 } : Room) (va_Pc [.ref a0] (xPR (dC, dI) vwCl (w2 cs a0 a1 N r) (xT cs))) (vp_Si (fun r => r = iI res)) 0 0 (fun _ => False) := by
  refine Met.ofW (cc := cX2_size) (maxL := 1) (ret := (some .int)) (by decide) rfl ?_
  intro p e s m args below meth c s₁ B hml hv
  obtain ⟨rfl, hP, hK⟩ := hv
  have hx := B.exec
  have hb := B.bytes
  have hr := B.returns
  have hts := atoms_spec (ws := wsX2_size) B.pre
  have hown : s.vm.findClass RX2 = some m.cls := findClass_of_methodNamed B.named
  have hlocks := B.notSynchronized
  have hin2 : ∀ w ∈ wsX20, w ∈ wsX2_size := by decide +kernel
  have hl := lv_entry [.ref a0] (n := 1) (Nat.le_of_ble_eq_true rfl)
  rw [lg_entry_eq]
  generalize (lg_sl [.ref a0] ++ List.replicate (1 - (lg_sl [.ref a0]).length) Slot.unset).toArray = ls at hl ⊢
  have hl : lv_has ls 1 [(0, .ref a0)] := hl
  unfold f2_size at hf
  refine lv_aload_n hx hb dX2_size_0 rfl (lv_at hl 0 rfl) ?_
  refine va_get (D := (dC, dI)) (ci := 2) (v := .int (iI r.1)) (C := RX2) (T := TX2) (N := 2) hx hb hts hin2 hown hK hP 0 rfl rfl 1 (by decide) (hts (.fieldLink RX2 21 "BoatRuns$Row" "size" "I") (by decide +kernel)) (fun _ h9 => h9) rfl dX2_size_1 ?_
  obtain rfl := Option.some.inj hf
  exact xe_ri hx hb hr hlocks dX2_size_4 rfl
theorem cdX2_size : yX2_size.cls = RX2 ∧ yX2_size.cls ≠ "java/lang/invoke/MethodHandle" ∧ yX2_size.cls ≠ "java/lang/invoke/VarHandle" ∧ (parseMethodDescriptor yX2_size.desc).map (fun d => d.parameters.length) = some 0 := by decide +kernel

set_option maxHeartbeats 4000000 in
set_option maxRecDepth 100000 in
theorem c2_clear (l : Launch) (dC : Nat → ClassId) (dI : Nat → Nat → Nat) (cs : Nat → ClassId) (a0 a1 : Nat) (sz : Nat) (N : Nat) (r : RowS) (hN : N ≤ 2147483647) (res : RowS) (hf : f2_clear N r = some res) : Met l yX2_clear wsX2_clear ({ frames := 0, cells := 0, slots := 0, locals := 0 } : Room) (va_Pc [.ref a0] (xPW (dC, dI) vwCl (w2 cs a0 a1 N r) (xT cs) sz)) (xQv (dC, dI) vwCl (w2 cs a0 a1 N r) (w2 cs a0 a1 N res) sz) 0 0 (va_A (w2 cs a0 a1 N r) sz) := by
  refine Met.ofW (cc := cX2_clear) (maxL := 1) (ret := none) (by decide) rfl ?_
  intro p e s m args below meth c s₁ B hml hv
  obtain ⟨rfl, hsz, hP, hK, hD0⟩ := hv
  have hx := B.exec
  have hb := B.bytes
  have hr := B.returns
  have hts := atoms_spec (ws := wsX2_clear) B.pre
  have hown : s.vm.findClass RX2 = some m.cls := findClass_of_methodNamed B.named
  have hlocks := B.notSynchronized
  have hin2 : ∀ w ∈ wsX20, w ∈ wsX2_clear := by decide +kernel
  subst hsz
  have hD := hD0.self (sz := s.heap.size)
  have hA : ∀ z9 : Nat, s.heap.size ≤ z9 → va_A (w2 cs a0 a1 N r) s.heap.size z9 := fun z9 h => Or.inr h
  have hS : va_S (va_A (w2 cs a0 a1 N r) s.heap.size) s.heap s.heap [] := va_S.rf
  have hl := lv_entry [.ref a0] (n := 1) (Nat.le_of_ble_eq_true rfl)
  rw [lg_entry_eq]
  generalize (lg_sl [.ref a0] ++ List.replicate (1 - (lg_sl [.ref a0]).length) Slot.unset).toArray = ls at hl ⊢
  have hl : lv_has ls 1 [(0, .ref a0)] := hl
  unfold f2_clear at hf
  refine lv_aload_n hx hb dX2_clear_0 rfl (lv_at hl 0 rfl) ?_
  refine xk_iconst hx hb dX2_clear_1 ?_
  refine va_put (D := (dC, dI)) (ci := 2) (v := .int (iI 0)) (ty := .int) (C := RX2) (T := TX2) (N := 2) hx hb hts hin2 tyX2 tyX2_ok nmX2 hown hK hP (x_addr hD rfl) hS 0 rfl rfl 1 (by decide) (hts (.fieldLink RX2 21 "BoatRuns$Row" "size" "I") (by decide +kernel)) (fun _ h9 => h9) rfl (by decide +kernel) rfl rfl (Nat.le_of_ble_eq_true rfl) dX2_clear_2 (fun H locs hP _ hS => ?_)
  have hP : va_P (dC, dI) vwCl (w2 cs a0 a1 N (0, r.2)) H := hP
  obtain rfl := Option.some.inj hf
  exact xe_wv hx hb hr hlocks hS hP dX2_clear_5
theorem cdX2_clear : yX2_clear.cls = RX2 ∧ yX2_clear.cls ≠ "java/lang/invoke/MethodHandle" ∧ yX2_clear.cls ≠ "java/lang/invoke/VarHandle" ∧ (parseMethodDescriptor yX2_clear.desc).map (fun d => d.parameters.length) = some 0 := by decide +kernel

set_option maxHeartbeats 4000000 in
set_option maxRecDepth 100000 in
theorem c2_get (l : Launch) (dC : Nat → ClassId) (dI : Nat → Nat → Nat) (cs : Nat → ClassId) (a0 a1 : Nat) (N : Nat) (r : RowS) (p0 : Int) (hN : N ≤ 2147483647) (res : Int) (hf : f2_get N r p0 = some res) : Met l yX2_get wsX2_get ({ frames := 0, cells := 0, slots := 0, locals := 0 } : Room) (va_Pc [.ref a0, .int (iI p0)] (xPR (dC, dI) vwCl (w2 cs a0 a1 N r) (xT cs))) (vp_Si (fun r => r = iI res)) 0 0 (fun _ => False) := by
  refine Met.ofW (cc := cX2_get) (maxL := 2) (ret := (some .int)) (by decide) rfl ?_
  intro p e s m args below meth c s₁ B hml hv
  obtain ⟨rfl, hP, hK⟩ := hv
  have hx := B.exec
  have hb := B.bytes
  have hr := B.returns
  have hts := atoms_spec (ws := wsX2_get) B.pre
  have hown : s.vm.findClass RX2 = some m.cls := findClass_of_methodNamed B.named
  have hlocks := B.notSynchronized
  have hin2 : ∀ w ∈ wsX20, w ∈ wsX2_get := by decide +kernel
  have hl := lv_entry [.ref a0, .int (iI p0)] (n := 2) (Nat.le_of_ble_eq_true rfl)
  rw [lg_entry_eq]
  generalize (lg_sl [.ref a0, .int (iI p0)] ++ List.replicate (2 - (lg_sl [.ref a0, .int (iI p0)]).length) Slot.unset).toArray = ls at hl ⊢
  have hl : lv_has ls 2 [(0, .ref a0), (1, .int (iI p0))] := hl
  unfold f2_get at hf
  refine lv_iload_n hx hb dX2_get_0 rfl (lv_at hl 1 rfl) ?_
  obtain ⟨c1a, c1b, c1t, c1f⟩ := x_ltE hf
  refine xk_if_lt (tgt := 21) hx hb c1a dX2_get_1 (by decide) (fun c1 => ?_) (fun c1 => ?_)
  · have hf := c1t c1
    refine xk_iconst hx hb dX2_get_21 ?_
    obtain rfl := Option.some.inj hf
    exact xe_ri hx hb hr hlocks dX2_get_22 rfl
  · have hf := c1f c1
    refine lv_iload_n hx hb dX2_get_4 rfl (lv_at hl 1 rfl) ?_
    refine lv_aload_n hx hb dX2_get_5 rfl (lv_at hl 0 rfl) ?_
    refine va_get (D := (dC, dI)) (ci := 2) (v := .int (iI r.1)) (C := RX2) (T := TX2) (N := 2) hx hb hts hin2 hown hK hP 0 rfl rfl 1 (by decide) (hts (.fieldLink RX2 21 "BoatRuns$Row" "size" "I") (by decide +kernel)) (fun _ h9 => h9) rfl dX2_get_6 ?_
    obtain ⟨c2a, c2b, c2t, c2f⟩ := x_ltE hf
    refine xk_icmp_ge (tgt := 21) hx hb c2a c2b dX2_get_9 (by decide) (fun c2 => ?_) (fun c2 => ?_)
    · have hf := c2t c2
      refine lv_aload_n hx hb dX2_get_12 rfl (lv_at hl 0 rfl) ?_
      refine va_get (D := (dC, dI)) (ci := 2) (v := .ref a1) (C := RX2) (T := TX2) (N := 2) hx hb hts hin2 hown hK hP 0 rfl rfl 0 (by decide) (hts (.fieldLink RX2 15 "BoatRuns$Row" "cells" "[I") (by decide +kernel)) (fun _ h9 => h9) rfl dX2_get_13 ?_
      refine lv_iload_n hx hb dX2_get_16 rfl (lv_at hl 1 rfl) ?_
      obtain ⟨v3, ev3, hf⟩ := x_bind hf
      refine xk_iald (f := r.2) hx hb hK hP 1 0 ev3 hN rfl rfl dX2_get_17 ?_
      refine lv_goto (tgt := 22) hx hb dX2_get_18 (by decide) ?_
      obtain rfl := Option.some.inj hf
      exact xe_ri hx hb hr hlocks dX2_get_22 rfl
    · have hf := c2f c2
      refine xk_iconst hx hb dX2_get_21 ?_
      obtain rfl := Option.some.inj hf
      exact xe_ri hx hb hr hlocks dX2_get_22 rfl
theorem cdX2_get : yX2_get.cls = RX2 ∧ yX2_get.cls ≠ "java/lang/invoke/MethodHandle" ∧ yX2_get.cls ≠ "java/lang/invoke/VarHandle" ∧ (parseMethodDescriptor yX2_get.desc).map (fun d => d.parameters.length) = some 1 := by decide +kernel

set_option maxHeartbeats 4000000 in
set_option maxRecDepth 100000 in
theorem c2_set (l : Launch) (dC : Nat → ClassId) (dI : Nat → Nat → Nat) (cs : Nat → ClassId) (a0 a1 : Nat) (sz : Nat) (N : Nat) (r : RowS) (p0 : Int) (p1 : Int) (hN : N ≤ 2147483647) (res : RowS) (hf : f2_set N r p0 p1 = some res) : Met l yX2_set wsX2_set ({ frames := 0, cells := 0, slots := 0, locals := 0 } : Room) (va_Pc [.ref a0, .int (iI p0), .int (iI p1)] (xPW (dC, dI) vwCl (w2 cs a0 a1 N r) (xT cs) sz)) (xQv (dC, dI) vwCl (w2 cs a0 a1 N r) (w2 cs a0 a1 N res) sz) 0 0 (va_A (w2 cs a0 a1 N r) sz) := by
  refine Met.ofW (cc := cX2_set) (maxL := 3) (ret := none) (by decide) rfl ?_
  intro p e s m args below meth c s₁ B hml hv
  obtain ⟨rfl, hsz, hP, hK, hD0⟩ := hv
  have hx := B.exec
  have hb := B.bytes
  have hr := B.returns
  have hts := atoms_spec (ws := wsX2_set) B.pre
  have hown : s.vm.findClass RX2 = some m.cls := findClass_of_methodNamed B.named
  have hlocks := B.notSynchronized
  have hin2 : ∀ w ∈ wsX20, w ∈ wsX2_set := by decide +kernel
  subst hsz
  have hD := hD0.self (sz := s.heap.size)
  have hA : ∀ z9 : Nat, s.heap.size ≤ z9 → va_A (w2 cs a0 a1 N r) s.heap.size z9 := fun z9 h => Or.inr h
  have hS : va_S (va_A (w2 cs a0 a1 N r) s.heap.size) s.heap s.heap [] := va_S.rf
  have hl := lv_entry [.ref a0, .int (iI p0), .int (iI p1)] (n := 3) (Nat.le_of_ble_eq_true rfl)
  rw [lg_entry_eq]
  generalize (lg_sl [.ref a0, .int (iI p0), .int (iI p1)] ++ List.replicate (3 - (lg_sl [.ref a0, .int (iI p0), .int (iI p1)]).length) Slot.unset).toArray = ls at hl ⊢
  have hl : lv_has ls 3 [(0, .ref a0), (1, .int (iI p0)), (2, .int (iI p1))] := hl
  unfold f2_set at hf
  refine lv_iload_n hx hb dX2_set_0 rfl (lv_at hl 1 rfl) ?_
  obtain ⟨c1a, c1b, c1t, c1f⟩ := x_ltE hf
  refine xk_if_lt (tgt := 19) hx hb c1a dX2_set_1 (by decide) (fun c1 => ?_) (fun c1 => ?_)
  · have hf := c1t c1
    obtain rfl := Option.some.inj hf
    exact xe_wv hx hb hr hlocks hS hP dX2_set_19
  · have hf := c1f c1
    refine lv_iload_n hx hb dX2_set_4 rfl (lv_at hl 1 rfl) ?_
    refine lv_aload_n hx hb dX2_set_5 rfl (lv_at hl 0 rfl) ?_
    refine va_get (D := (dC, dI)) (ci := 2) (v := .int (iI r.1)) (C := RX2) (T := TX2) (N := 2) hx hb hts hin2 hown hK hP 0 rfl rfl 1 (by decide) (hts (.fieldLink RX2 21 "BoatRuns$Row" "size" "I") (by decide +kernel)) (fun _ h9 => h9) rfl dX2_set_6 ?_
    obtain ⟨c2a, c2b, c2t, c2f⟩ := x_ltE hf
    refine xk_icmp_ge (tgt := 19) hx hb c2a c2b dX2_set_9 (by decide) (fun c2 => ?_) (fun c2 => ?_)
    · have hf := c2t c2
      refine lv_aload_n hx hb dX2_set_12 rfl (lv_at hl 0 rfl) ?_
      refine va_get (D := (dC, dI)) (ci := 2) (v := .ref a1) (C := RX2) (T := TX2) (N := 2) hx hb hts hin2 hown hK hP 0 rfl rfl 0 (by decide) (hts (.fieldLink RX2 15 "BoatRuns$Row" "cells" "[I") (by decide +kernel)) (fun _ h9 => h9) rfl dX2_set_13 ?_
      refine lv_iload_n hx hb dX2_set_16 rfl (lv_at hl 1 rfl) ?_
      refine lv_iload_n hx hb dX2_set_17 rfl (lv_at hl 2 rfl) ?_
      obtain ⟨g3, eg3, hf⟩ := x_bind hf
      refine xk_iast (f := r.2) hx hb hK hP (x_addr hD rfl) hS 1 0 eg3 hN rfl rfl dX2_set_18 (fun H locs hP hS => ?_)
      have hP : va_P (dC, dI) vwCl (w2 cs a0 a1 N (r.1, g3)) H := hP
      obtain rfl := Option.some.inj hf
      exact xe_wv hx hb hr hlocks hS hP dX2_set_19
    · have hf := c2f c2
      obtain rfl := Option.some.inj hf
      exact xe_wv hx hb hr hlocks hS hP dX2_set_19
theorem cdX2_set : yX2_set.cls = RX2 ∧ yX2_set.cls ≠ "java/lang/invoke/MethodHandle" ∧ yX2_set.cls ≠ "java/lang/invoke/VarHandle" ∧ (parseMethodDescriptor yX2_set.desc).map (fun d => d.parameters.length) = some 2 := by decide +kernel

set_option maxHeartbeats 4000000 in
set_option maxRecDepth 100000 in
theorem c2_increase (l : Launch) (dC : Nat → ClassId) (dI : Nat → Nat → Nat) (cs : Nat → ClassId) (a0 a1 : Nat) (sz : Nat) (N : Nat) (r : RowS) (p0 : Int) (p1 : Int) (hN : N ≤ 2147483647) (res : RowS) (hf : f2_increase N r p0 p1 = some res) : Met l yX2_increase wsX2_increase ({ frames := 1, cells := 0, slots := 0, locals := 22 } : Room) (va_Pc [.ref a0, .int (iI p0), .int (iI p1)] (xPW (dC, dI) vwCl (w2 cs a0 a1 N r) (xT cs) sz)) (xQv (dC, dI) vwCl (w2 cs a0 a1 N r) (w2 cs a0 a1 N res) sz) 0 0 (va_A (w2 cs a0 a1 N r) sz) := by
  refine Met.ofW (cc := cX2_increase) (maxL := 3) (ret := none) (by decide) rfl ?_
  intro p e s m args below meth c s₁ B hml hv
  obtain ⟨rfl, hsz, hP, hK, hD0⟩ := hv
  have hx := B.exec
  have hb := B.bytes
  have hr := B.returns
  have hts := atoms_spec (ws := wsX2_increase) B.pre
  have hown : s.vm.findClass RX2 = some m.cls := findClass_of_methodNamed B.named
  have hlocks := B.notSynchronized
  subst hsz
  have hD := hD0.self (sz := s.heap.size)
  have hA : ∀ z9 : Nat, s.heap.size ≤ z9 → va_A (w2 cs a0 a1 N r) s.heap.size z9 := fun z9 h => Or.inr h
  have hS : va_S (va_A (w2 cs a0 a1 N r) s.heap.size) s.heap s.heap [] := va_S.rf
  have hl := lv_entry [.ref a0, .int (iI p0), .int (iI p1)] (n := 3) (Nat.le_of_ble_eq_true rfl)
  rw [lg_entry_eq]
  generalize (lg_sl [.ref a0, .int (iI p0), .int (iI p1)] ++ List.replicate (3 - (lg_sl [.ref a0, .int (iI p0), .int (iI p1)]).length) Slot.unset).toArray = ls at hl ⊢
  have hl : lv_has ls 3 [(0, .ref a0), (1, .int (iI p0)), (2, .int (iI p1))] := hl
  unfold f2_increase at hf
  refine lv_aload_n hx hb dX2_increase_0 rfl (lv_at hl 0 rfl) ?_
  refine lv_iload_n hx hb dX2_increase_1 rfl (lv_at hl 1 rfl) ?_
  refine lv_aload_n hx hb dX2_increase_2 rfl (lv_at hl 0 rfl) ?_
  refine lv_iload_n hx hb dX2_increase_3 rfl (lv_at hl 1 rfl) ?_
  obtain ⟨v1, ev1, hf⟩ := x_bind hf
  refine xc_ri (As := [.int (iI p0)]) (rest := [.int (iI p0), .ref a0]) ⟨hx, hb, hml, hown, hts⟩ (c2_get l dC dI cs a0 a1 N r p0 hN _ ev1) (cwV 1 hts gX2_increase_X2_get rfl rfl rfl cdX2_get ⟨Nat.le_of_ble_eq_true rfl, Nat.le_of_ble_eq_true rfl⟩) hK hP [0, 1] rfl 0 rfl rfl rfl hl.1 rfl (Nat.le_of_ble_eq_true rfl) dX2_increase_4 ⟨Nat.zero_le _, Nat.zero_le _⟩ ?_
  refine lv_iload_n hx hb dX2_increase_7 rfl (lv_at hl 2 rfl) ?_
  refine xk_iadd hx hb dX2_increase_8 ?_
  obtain ⟨r2, er2, hf⟩ := x_bind hf
  refine xc_wv (As := [.int (iI p0), .int (iI (v1 + p1))]) (rest := []) ⟨hx, hb, hml, hown, hts⟩ (c2_set l dC dI cs a0 a1 _ N r p0 (v1 + p1) hN _ er2) (cwV 2 hts gX2_increase_X2_set rfl rfl rfl cdX2_set ⟨Nat.le_of_ble_eq_true rfl, Nat.le_of_ble_eq_true rfl⟩) hK hP (x_addr hD rfl) hS hA [0, 1] rfl (by decide) rfl 0 rfl rfl rfl hl.1 rfl (Nat.le_of_ble_eq_true rfl) dX2_increase_9 ⟨Nat.zero_le _, Nat.zero_le _⟩ (fun H locs hP hS => ?_)
  have hP : va_P (dC, dI) vwCl (w2 cs a0 a1 N r2) H := hP
  obtain rfl := Option.some.inj hf
  exact xe_wv hx hb hr hlocks hS hP dX2_increase_12
theorem cdX2_increase : yX2_increase.cls = RX2 ∧ yX2_increase.cls ≠ "java/lang/invoke/MethodHandle" ∧ yX2_increase.cls ≠ "java/lang/invoke/VarHandle" ∧ (parseMethodDescriptor yX2_increase.desc).map (fun d => d.parameters.length) = some 2 := by decide +kernel

set_option maxHeartbeats 4000000 in
set_option maxRecDepth 100000 in
theorem c2_insert (l : Launch) (dC : Nat → ClassId) (dI : Nat → Nat → Nat) (cs : Nat → ClassId) (a0 a1 : Nat) (sz : Nat) (N : Nat) (r : RowS) (p0 : Int) (p1 : Int) (hN : N ≤ 2147483647) (res : RowS) (hf : f2_insert N r p0 p1 = some res) : Met l yX2_insert wsX2_insert ({ frames := 0, cells := 0, slots := 0, locals := 0 } : Room) (va_Pc [.ref a0, .int (iI p0), .int (iI p1)] (xPW (dC, dI) vwCl (w2 cs a0 a1 N r) (xT cs) sz)) (xQv (dC, dI) vwCl (w2 cs a0 a1 N r) (w2 cs a0 a1 N res) sz) 0 0 (va_A (w2 cs a0 a1 N r) sz) := by
  refine Met.ofW (cc := cX2_insert) (maxL := 4) (ret := none) (by decide) rfl ?_
  intro p e s m args below meth c s₁ B hml hv
  obtain ⟨rfl, hsz, hP, hK, hD0⟩ := hv
  have hx := B.exec
  have hb := B.bytes
  have hr := B.returns
  have hts := atoms_spec (ws := wsX2_insert) B.pre
  have hown : s.vm.findClass RX2 = some m.cls := findClass_of_methodNamed B.named
  have hlocks := B.notSynchronized
  have hin2 : ∀ w ∈ wsX20, w ∈ wsX2_insert := by decide +kernel
  subst hsz
  have hD := hD0.self (sz := s.heap.size)
  have hA : ∀ z9 : Nat, s.heap.size ≤ z9 → va_A (w2 cs a0 a1 N r) s.heap.size z9 := fun z9 h => Or.inr h
  have hS : va_S (va_A (w2 cs a0 a1 N r) s.heap.size) s.heap s.heap [] := va_S.rf
  have hl := lv_entry [.ref a0, .int (iI p0), .int (iI p1)] (n := 4) (Nat.le_of_ble_eq_true rfl)
  rw [lg_entry_eq]
  generalize (lg_sl [.ref a0, .int (iI p0), .int (iI p1)] ++ List.replicate (4 - (lg_sl [.ref a0, .int (iI p0), .int (iI p1)]).length) Slot.unset).toArray = ls at hl ⊢
  have hl : lv_has ls 4 [(0, .ref a0), (1, .int (iI p0)), (2, .int (iI p1))] := hl
  unfold f2_insert at hf
  refine lv_iload_n hx hb dX2_insert_0 rfl (lv_at hl 1 rfl) ?_
  obtain ⟨c1a, c1b, c1t, c1f⟩ := x_ltE hf
  refine xk_if_lt (tgt := 24) hx hb c1a dX2_insert_1 (by decide) (fun c1 => ?_) (fun c1 => ?_)
  · have hf := c1t c1
    obtain rfl := Option.some.inj hf
    exact xe_wv hx hb hr hlocks hS hP dX2_insert_24
  · have hf := c1f c1
    refine lv_iload_n hx hb dX2_insert_4 rfl (lv_at hl 1 rfl) ?_
    refine lv_aload_n hx hb dX2_insert_5 rfl (lv_at hl 0 rfl) ?_
    refine va_get (D := (dC, dI)) (ci := 2) (v := .int (iI r.1)) (C := RX2) (T := TX2) (N := 2) hx hb hts hin2 hown hK hP 0 rfl rfl 1 (by decide) (hts (.fieldLink RX2 21 "BoatRuns$Row" "size" "I") (by decide +kernel)) (fun _ h9 => h9) rfl dX2_insert_6 ?_
    obtain ⟨c2a, c2b, c2t, c2f⟩ := x_ltE hf
    refine xk_icmp_gt (tgt := 24) hx hb c2b c2a dX2_insert_9 (by decide) (fun c2 => ?_) (fun c2 => ?_)
    · have hf := c2t c2
      obtain rfl := Option.some.inj hf
      exact xe_wv hx hb hr hlocks hS hP dX2_insert_24
    · have hf := c2f c2
      refine lv_aload_n hx hb dX2_insert_12 rfl (lv_at hl 0 rfl) ?_
      refine va_get (D := (dC, dI)) (ci := 2) (v := .int (iI r.1)) (C := RX2) (T := TX2) (N := 2) hx hb hts hin2 hown hK hP 0 rfl rfl 1 (by decide) (hts (.fieldLink RX2 21 "BoatRuns$Row" "size" "I") (by decide +kernel)) (fun _ h9 => h9) rfl dX2_insert_13 ?_
      refine lv_aload_n hx hb dX2_insert_16 rfl (lv_at hl 0 rfl) ?_
      refine va_get (D := (dC, dI)) (ci := 2) (v := .ref a1) (C := RX2) (T := TX2) (N := 2) hx hb hts hin2 hown hK hP 0 rfl rfl 0 (by decide) (hts (.fieldLink RX2 15 "BoatRuns$Row" "cells" "[I") (by decide +kernel)) (fun _ h9 => h9) rfl dX2_insert_17 ?_
      refine xk_alen hx hb hK hP 1 0 rfl rfl dX2_insert_20 ?_
      obtain ⟨c3a, c3b, c3t, c3f⟩ := x_ltE hf
      refine xk_icmp_lt (tgt := 25) hx hb c3a c3b dX2_insert_21 (by decide) (fun c3 => ?_) (fun c3 => ?_)
      · have hf := c3t c3
        refine lv_aload_n hx hb dX2_insert_25 rfl (lv_at hl 0 rfl) ?_
        refine va_get (D := (dC, dI)) (ci := 2) (v := .int (iI r.1)) (C := RX2) (T := TX2) (N := 2) hx hb hts hin2 hown hK hP 0 rfl rfl 1 (by decide) (hts (.fieldLink RX2 21 "BoatRuns$Row" "size" "I") (by decide +kernel)) (fun _ h9 => h9) rfl dX2_insert_26 ?_
        refine lv_istore_n (lv' := [(3, .int (iI r.1)), (0, .ref a0), (1, .int (iI p0)), (2, .int (iI p1))]) hx hb dX2_insert_29 rfl hl (by decide) rfl (fun ls hl => ?_)
        have hL30 : ∀ (n5 : Nat) (l3 : Int) (r4 : RowS), f2_insert_L30 N p0 p1 n5 l3 r4 = some res → ∀ (H : Heap) (locs : List Loc), va_P (dC, dI) vwCl (w2 cs a0 a1 N r4) H → va_S (va_A (w2 cs a0 a1 N r) s.heap.size) s.heap H locs → ∀ (ls : Array Slot), lv_has ls 4 [(0, .ref a0), (1, .int (iI p0)), (2, .int (iI p1)), (3, .int (iI l3))] → W p l e (headSpec wsX2_insert ({ frames := 0, cells := 0, slots := 0, locals := 0 } : Room)).room s m ([.ref a0, .int (iI p0), .int (iI p1)] : List Value).toArray below meth c H locs 0 0 (MQ below (xQv (dC, dI) vwCl (w2 cs a0 a1 N r) (w2 cs a0 a1 N res) s.heap.size) ([.ref a0, .int (iI p0), .int (iI p1)] : List Value).toArray s 0 0 (va_A (w2 cs a0 a1 N r) s.heap.size)) (F0 m 30 ls []) := by
          intro  n5
          induction n5 with
          | zero => intro l3 r4 hf; have hf : (none : Option (RowS)) = some res := hf; cases hf
          | succ n5 ih30 =>
            intro l3 r4 hf H locs hP hS ls hl
            rw [f2_insert_L30] at hf
            refine lv_iload_n hx hb dX2_insert_30 rfl (lv_at hl 3 rfl) ?_
            refine lv_iload_n hx hb dX2_insert_31 rfl (lv_at hl 1 rfl) ?_
            obtain ⟨c6a, c6b, c6t, c6f⟩ := x_ltE hf
            refine xk_icmp_le (tgt := 55) hx hb c6b c6a dX2_insert_32 (by decide) (fun c6 => ?_) (fun c6 => ?_)
            · have hf := c6t c6
              refine lv_aload_n hx hb dX2_insert_35 rfl (lv_at hl 0 rfl) ?_
              refine va_get (D := (dC, dI)) (ci := 2) (v := .ref a1) (C := RX2) (T := TX2) (N := 2) hx hb hts hin2 hown hK hP 0 rfl rfl 0 (by decide) (hts (.fieldLink RX2 15 "BoatRuns$Row" "cells" "[I") (by decide +kernel)) (fun _ h9 => h9) rfl dX2_insert_36 ?_
              refine lv_iload_n hx hb dX2_insert_39 rfl (lv_at hl 3 rfl) ?_
              refine lv_aload_n hx hb dX2_insert_40 rfl (lv_at hl 0 rfl) ?_
              refine va_get (D := (dC, dI)) (ci := 2) (v := .ref a1) (C := RX2) (T := TX2) (N := 2) hx hb hts hin2 hown hK hP 0 rfl rfl 0 (by decide) (hts (.fieldLink RX2 15 "BoatRuns$Row" "cells" "[I") (by decide +kernel)) (fun _ h9 => h9) rfl dX2_insert_41 ?_
              refine lv_iload_n hx hb dX2_insert_44 rfl (lv_at hl 3 rfl) ?_
              refine xk_iconst hx hb dX2_insert_45 ?_
              refine xk_isub hx hb dX2_insert_46 ?_
              obtain ⟨v7, ev7, hf⟩ := x_bind hf
              refine xk_iald (f := r4.2) hx hb hK hP 1 0 ev7 hN rfl rfl dX2_insert_47 ?_
              obtain ⟨g8, eg8, hf⟩ := x_bind hf
              refine xk_iast (f := r4.2) hx hb hK hP (x_addr hD rfl) hS 1 0 eg8 hN rfl rfl dX2_insert_48 (fun H locs hP hS => ?_)
              have hP : va_P (dC, dI) vwCl (w2 cs a0 a1 N (r4.1, g8)) H := hP
              refine xk_iinc (lv' := [(3, .int (iI (l3 + (-1)))), (0, .ref a0), (1, .int (iI p0)), (2, .int (iI p1))]) hx hb dX2_insert_49 hl (k := 3) rfl (by decide) rfl (fun ls hl => ?_)
              refine lv_goto (tgt := 30) hx hb dX2_insert_52 (by decide) ?_
              exact ih30 (l3 + (-1)) (r4.1, g8) hf _ _ hP hS ls (lv_sub hl [1, 2, 3, 0] rfl)
            · have hf := c6f c6
              refine lv_aload_n hx hb dX2_insert_55 rfl (lv_at hl 0 rfl) ?_
              refine va_get (D := (dC, dI)) (ci := 2) (v := .ref a1) (C := RX2) (T := TX2) (N := 2) hx hb hts hin2 hown hK hP 0 rfl rfl 0 (by decide) (hts (.fieldLink RX2 15 "BoatRuns$Row" "cells" "[I") (by decide +kernel)) (fun _ h9 => h9) rfl dX2_insert_56 ?_
              refine lv_iload_n hx hb dX2_insert_59 rfl (lv_at hl 1 rfl) ?_
              refine lv_iload_n hx hb dX2_insert_60 rfl (lv_at hl 2 rfl) ?_
              obtain ⟨g9, eg9, hf⟩ := x_bind hf
              refine xk_iast (f := r4.2) hx hb hK hP (x_addr hD rfl) hS 1 0 eg9 hN rfl rfl dX2_insert_61 (fun H locs hP hS => ?_)
              have hP : va_P (dC, dI) vwCl (w2 cs a0 a1 N (r4.1, g9)) H := hP
              refine lv_aload_n hx hb dX2_insert_62 rfl (lv_at hl 0 rfl) ?_
              refine lv_dup hx hb dX2_insert_63 rfl ?_
              refine va_get (D := (dC, dI)) (ci := 2) (v := .int (iI r4.1)) (C := RX2) (T := TX2) (N := 2) hx hb hts hin2 hown hK hP 0 rfl rfl 1 (by decide) (hts (.fieldLink RX2 21 "BoatRuns$Row" "size" "I") (by decide +kernel)) (fun _ h9 => h9) rfl dX2_insert_64 ?_
              refine xk_iconst hx hb dX2_insert_67 ?_
              refine xk_iadd hx hb dX2_insert_68 ?_
              refine va_put (D := (dC, dI)) (ci := 2) (v := .int (iI (r4.1 + 1))) (ty := .int) (C := RX2) (T := TX2) (N := 2) hx hb hts hin2 tyX2 tyX2_ok nmX2 hown hK hP (x_addr hD rfl) hS 0 rfl rfl 1 (by decide) (hts (.fieldLink RX2 21 "BoatRuns$Row" "size" "I") (by decide +kernel)) (fun _ h9 => h9) rfl (by decide +kernel) rfl rfl (Nat.le_of_ble_eq_true rfl) dX2_insert_69 (fun H locs hP _ hS => ?_)
              have hP : va_P (dC, dI) vwCl (w2 cs a0 a1 N ((r4.1 + 1), g9)) H := hP
              obtain rfl := Option.some.inj hf
              exact xe_wv hx hb hr hlocks hS hP dX2_insert_72
        exact hL30  xFU r.1 r hf _ _ hP hS ls (lv_sub hl [1, 2, 3, 0] rfl)
      · have hf := c3f c3
        obtain rfl := Option.some.inj hf
        exact xe_wv hx hb hr hlocks hS hP dX2_insert_24
theorem cdX2_insert : yX2_insert.cls = RX2 ∧ yX2_insert.cls ≠ "java/lang/invoke/MethodHandle" ∧ yX2_insert.cls ≠ "java/lang/invoke/VarHandle" ∧ (parseMethodDescriptor yX2_insert.desc).map (fun d => d.parameters.length) = some 2 := by decide +kernel

set_option maxHeartbeats 4000000 in
set_option maxRecDepth 100000 in
theorem c2_add (l : Launch) (dC : Nat → ClassId) (dI : Nat → Nat → Nat) (cs : Nat → ClassId) (a0 a1 : Nat) (sz : Nat) (N : Nat) (r : RowS) (p0 : Int) (hN : N ≤ 2147483647) (res : RowS) (hf : f2_add N r p0 = some res) : Met l yX2_add wsX2_add ({ frames := 1, cells := 0, slots := 0, locals := 23 } : Room) (va_Pc [.ref a0, .int (iI p0)] (xPW (dC, dI) vwCl (w2 cs a0 a1 N r) (xT cs) sz)) (xQv (dC, dI) vwCl (w2 cs a0 a1 N r) (w2 cs a0 a1 N res) sz) 0 0 (va_A (w2 cs a0 a1 N r) sz) := by
  refine Met.ofW (cc := cX2_add) (maxL := 2) (ret := none) (by decide) rfl ?_
  intro p e s m args below meth c s₁ B hml hv
  obtain ⟨rfl, hsz, hP, hK, hD0⟩ := hv
  have hx := B.exec
  have hb := B.bytes
  have hr := B.returns
  have hts := atoms_spec (ws := wsX2_add) B.pre
  have hown : s.vm.findClass RX2 = some m.cls := findClass_of_methodNamed B.named
  have hlocks := B.notSynchronized
  have hin2 : ∀ w ∈ wsX20, w ∈ wsX2_add := by decide +kernel
  subst hsz
  have hD := hD0.self (sz := s.heap.size)
  have hA : ∀ z9 : Nat, s.heap.size ≤ z9 → va_A (w2 cs a0 a1 N r) s.heap.size z9 := fun z9 h => Or.inr h
  have hS : va_S (va_A (w2 cs a0 a1 N r) s.heap.size) s.heap s.heap [] := va_S.rf
  have hl := lv_entry [.ref a0, .int (iI p0)] (n := 2) (Nat.le_of_ble_eq_true rfl)
  rw [lg_entry_eq]
  generalize (lg_sl [.ref a0, .int (iI p0)] ++ List.replicate (2 - (lg_sl [.ref a0, .int (iI p0)]).length) Slot.unset).toArray = ls at hl ⊢
  have hl : lv_has ls 2 [(0, .ref a0), (1, .int (iI p0))] := hl
  unfold f2_add at hf
  refine lv_aload_n hx hb dX2_add_0 rfl (lv_at hl 0 rfl) ?_
  refine lv_aload_n hx hb dX2_add_1 rfl (lv_at hl 0 rfl) ?_
  refine va_get (D := (dC, dI)) (ci := 2) (v := .int (iI r.1)) (C := RX2) (T := TX2) (N := 2) hx hb hts hin2 hown hK hP 0 rfl rfl 1 (by decide) (hts (.fieldLink RX2 21 "BoatRuns$Row" "size" "I") (by decide +kernel)) (fun _ h9 => h9) rfl dX2_add_2 ?_
  refine lv_iload_n hx hb dX2_add_5 rfl (lv_at hl 1 rfl) ?_
  obtain ⟨r1, er1, hf⟩ := x_bind hf
  refine xc_wv (As := [.int (iI r.1), .int (iI p0)]) (rest := []) ⟨hx, hb, hml, hown, hts⟩ (c2_insert l dC dI cs a0 a1 _ N r r.1 p0 hN _ er1) (cwV 2 hts gX2_add_X2_insert rfl rfl rfl cdX2_insert ⟨Nat.le_of_ble_eq_true rfl, Nat.le_of_ble_eq_true rfl⟩) hK hP (x_addr hD rfl) hS hA [0, 1] rfl (by decide) rfl 0 rfl rfl rfl hl.1 rfl (Nat.le_of_ble_eq_true rfl) dX2_add_6 ⟨Nat.zero_le _, Nat.zero_le _⟩ (fun H locs hP hS => ?_)
  have hP : va_P (dC, dI) vwCl (w2 cs a0 a1 N r1) H := hP
  obtain rfl := Option.some.inj hf
  exact xe_wv hx hb hr hlocks hS hP dX2_add_9
theorem cdX2_add : yX2_add.cls = RX2 ∧ yX2_add.cls ≠ "java/lang/invoke/MethodHandle" ∧ yX2_add.cls ≠ "java/lang/invoke/VarHandle" ∧ (parseMethodDescriptor yX2_add.desc).map (fun d => d.parameters.length) = some 1 := by decide +kernel

set_option maxHeartbeats 4000000 in
set_option maxRecDepth 100000 in
theorem c2_remove (l : Launch) (dC : Nat → ClassId) (dI : Nat → Nat → Nat) (cs : Nat → ClassId) (a0 a1 : Nat) (sz : Nat) (N : Nat) (r : RowS) (p0 : Int) (hN : N ≤ 2147483647) (res : RowS) (hf : f2_remove N r p0 = some res) : Met l yX2_remove wsX2_remove ({ frames := 0, cells := 0, slots := 0, locals := 0 } : Room) (va_Pc [.ref a0, .int (iI p0)] (xPW (dC, dI) vwCl (w2 cs a0 a1 N r) (xT cs) sz)) (xQv (dC, dI) vwCl (w2 cs a0 a1 N r) (w2 cs a0 a1 N res) sz) 0 0 (va_A (w2 cs a0 a1 N r) sz) := by
  refine Met.ofW (cc := cX2_remove) (maxL := 3) (ret := none) (by decide) rfl ?_
  intro p e s m args below meth c s₁ B hml hv
  obtain ⟨rfl, hsz, hP, hK, hD0⟩ := hv
  have hx := B.exec
  have hb := B.bytes
  have hr := B.returns
  have hts := atoms_spec (ws := wsX2_remove) B.pre
  have hown : s.vm.findClass RX2 = some m.cls := findClass_of_methodNamed B.named
  have hlocks := B.notSynchronized
  have hin2 : ∀ w ∈ wsX20, w ∈ wsX2_remove := by decide +kernel
  subst hsz
  have hD := hD0.self (sz := s.heap.size)
  have hA : ∀ z9 : Nat, s.heap.size ≤ z9 → va_A (w2 cs a0 a1 N r) s.heap.size z9 := fun z9 h => Or.inr h
  have hS : va_S (va_A (w2 cs a0 a1 N r) s.heap.size) s.heap s.heap [] := va_S.rf
  have hl := lv_entry [.ref a0, .int (iI p0)] (n := 3) (Nat.le_of_ble_eq_true rfl)
  rw [lg_entry_eq]
  generalize (lg_sl [.ref a0, .int (iI p0)] ++ List.replicate (3 - (lg_sl [.ref a0, .int (iI p0)]).length) Slot.unset).toArray = ls at hl ⊢
  have hl : lv_has ls 3 [(0, .ref a0), (1, .int (iI p0))] := hl
  unfold f2_remove at hf
  refine lv_iload_n hx hb dX2_remove_0 rfl (lv_at hl 1 rfl) ?_
  obtain ⟨c1a, c1b, c1t, c1f⟩ := x_ltE hf
  refine xk_if_lt (tgt := 12) hx hb c1a dX2_remove_1 (by decide) (fun c1 => ?_) (fun c1 => ?_)
  · have hf := c1t c1
    obtain rfl := Option.some.inj hf
    exact xe_wv hx hb hr hlocks hS hP dX2_remove_12
  · have hf := c1f c1
    refine lv_iload_n hx hb dX2_remove_4 rfl (lv_at hl 1 rfl) ?_
    refine lv_aload_n hx hb dX2_remove_5 rfl (lv_at hl 0 rfl) ?_
    refine va_get (D := (dC, dI)) (ci := 2) (v := .int (iI r.1)) (C := RX2) (T := TX2) (N := 2) hx hb hts hin2 hown hK hP 0 rfl rfl 1 (by decide) (hts (.fieldLink RX2 21 "BoatRuns$Row" "size" "I") (by decide +kernel)) (fun _ h9 => h9) rfl dX2_remove_6 ?_
    obtain ⟨c2a, c2b, c2t, c2f⟩ := x_ltE hf
    refine xk_icmp_lt (tgt := 13) hx hb c2a c2b dX2_remove_9 (by decide) (fun c2 => ?_) (fun c2 => ?_)
    · have hf := c2t c2
      refine lv_iload_n hx hb dX2_remove_13 rfl (lv_at hl 1 rfl) ?_
      refine lv_istore_n (lv' := [(2, .int (iI p0)), (0, .ref a0), (1, .int (iI p0))]) hx hb dX2_remove_14 rfl hl (by decide) rfl (fun ls hl => ?_)
      have hL15 : ∀ (n4 : Nat) (l2 : Int) (r3 : RowS), f2_remove_L15 N n4 l2 r3 = some res → ∀ (H : Heap) (locs : List Loc), va_P (dC, dI) vwCl (w2 cs a0 a1 N r3) H → va_S (va_A (w2 cs a0 a1 N r) s.heap.size) s.heap H locs → ∀ (ls : Array Slot), lv_has ls 3 [(0, .ref a0), (2, .int (iI l2))] → W p l e (headSpec wsX2_remove ({ frames := 0, cells := 0, slots := 0, locals := 0 } : Room)).room s m ([.ref a0, .int (iI p0)] : List Value).toArray below meth c H locs 0 0 (MQ below (xQv (dC, dI) vwCl (w2 cs a0 a1 N r) (w2 cs a0 a1 N res) s.heap.size) ([.ref a0, .int (iI p0)] : List Value).toArray s 0 0 (va_A (w2 cs a0 a1 N r) s.heap.size)) (F0 m 15 ls []) := by
        intro  n4
        induction n4 with
        | zero => intro l2 r3 hf; have hf : (none : Option (RowS)) = some res := hf; cases hf
        | succ n4 ih15 =>
          intro l2 r3 hf H locs hP hS ls hl
          rw [f2_remove_L15] at hf
          refine lv_iload_n hx hb dX2_remove_15 rfl (lv_at hl 1 rfl) ?_
          refine lv_aload_n hx hb dX2_remove_16 rfl (lv_at hl 0 rfl) ?_
          refine va_get (D := (dC, dI)) (ci := 2) (v := .int (iI r3.1)) (C := RX2) (T := TX2) (N := 2) hx hb hts hin2 hown hK hP 0 rfl rfl 1 (by decide) (hts (.fieldLink RX2 21 "BoatRuns$Row" "size" "I") (by decide +kernel)) (fun _ h9 => h9) rfl dX2_remove_17 ?_
          refine xk_iconst hx hb dX2_remove_20 ?_
          refine xk_isub hx hb dX2_remove_21 ?_
          obtain ⟨c5a, c5b, c5t, c5f⟩ := x_ltE hf
          refine xk_icmp_ge (tgt := 45) hx hb c5a c5b dX2_remove_22 (by decide) (fun c5 => ?_) (fun c5 => ?_)
          · have hf := c5t c5
            refine lv_aload_n hx hb dX2_remove_25 rfl (lv_at hl 0 rfl) ?_
            refine va_get (D := (dC, dI)) (ci := 2) (v := .ref a1) (C := RX2) (T := TX2) (N := 2) hx hb hts hin2 hown hK hP 0 rfl rfl 0 (by decide) (hts (.fieldLink RX2 15 "BoatRuns$Row" "cells" "[I") (by decide +kernel)) (fun _ h9 => h9) rfl dX2_remove_26 ?_
            refine lv_iload_n hx hb dX2_remove_29 rfl (lv_at hl 1 rfl) ?_
            refine lv_aload_n hx hb dX2_remove_30 rfl (lv_at hl 0 rfl) ?_
            refine va_get (D := (dC, dI)) (ci := 2) (v := .ref a1) (C := RX2) (T := TX2) (N := 2) hx hb hts hin2 hown hK hP 0 rfl rfl 0 (by decide) (hts (.fieldLink RX2 15 "BoatRuns$Row" "cells" "[I") (by decide +kernel)) (fun _ h9 => h9) rfl dX2_remove_31 ?_
            refine lv_iload_n hx hb dX2_remove_34 rfl (lv_at hl 1 rfl) ?_
            refine xk_iconst hx hb dX2_remove_35 ?_
            refine xk_iadd hx hb dX2_remove_36 ?_
            obtain ⟨v6, ev6, hf⟩ := x_bind hf
            refine xk_iald (f := r3.2) hx hb hK hP 1 0 ev6 hN rfl rfl dX2_remove_37 ?_
            obtain ⟨g7, eg7, hf⟩ := x_bind hf
            refine xk_iast (f := r3.2) hx hb hK hP (x_addr hD rfl) hS 1 0 eg7 hN rfl rfl dX2_remove_38 (fun H locs hP hS => ?_)
            have hP : va_P (dC, dI) vwCl (w2 cs a0 a1 N (r3.1, g7)) H := hP
            refine xk_iinc (lv' := [(2, .int (iI (l2 + 1))), (0, .ref a0)]) hx hb dX2_remove_39 hl (k := 1) rfl (by decide) rfl (fun ls hl => ?_)
            refine lv_goto (tgt := 15) hx hb dX2_remove_42 (by decide) ?_
            exact ih15 (l2 + 1) (r3.1, g7) hf _ _ hP hS ls (lv_sub hl [1, 0] rfl)
          · have hf := c5f c5
            refine lv_aload_n hx hb dX2_remove_45 rfl (lv_at hl 0 rfl) ?_
            refine lv_dup hx hb dX2_remove_46 rfl ?_
            refine va_get (D := (dC, dI)) (ci := 2) (v := .int (iI r3.1)) (C := RX2) (T := TX2) (N := 2) hx hb hts hin2 hown hK hP 0 rfl rfl 1 (by decide) (hts (.fieldLink RX2 21 "BoatRuns$Row" "size" "I") (by decide +kernel)) (fun _ h9 => h9) rfl dX2_remove_47 ?_
            refine xk_iconst hx hb dX2_remove_50 ?_
            refine xk_isub hx hb dX2_remove_51 ?_
            refine va_put (D := (dC, dI)) (ci := 2) (v := .int (iI (r3.1 - 1))) (ty := .int) (C := RX2) (T := TX2) (N := 2) hx hb hts hin2 tyX2 tyX2_ok nmX2 hown hK hP (x_addr hD rfl) hS 0 rfl rfl 1 (by decide) (hts (.fieldLink RX2 21 "BoatRuns$Row" "size" "I") (by decide +kernel)) (fun _ h9 => h9) rfl (by decide +kernel) rfl rfl (Nat.le_of_ble_eq_true rfl) dX2_remove_52 (fun H locs hP _ hS => ?_)
            have hP : va_P (dC, dI) vwCl (w2 cs a0 a1 N ((r3.1 - 1), r3.2)) H := hP
            obtain rfl := Option.some.inj hf
            exact xe_wv hx hb hr hlocks hS hP dX2_remove_55
      exact hL15  xFU p0 r hf _ _ hP hS ls (lv_sub hl [1, 0] rfl)
    · have hf := c2f c2
      obtain rfl := Option.some.inj hf
      exact xe_wv hx hb hr hlocks hS hP dX2_remove_12
theorem cdX2_remove : yX2_remove.cls = RX2 ∧ yX2_remove.cls ≠ "java/lang/invoke/MethodHandle" ∧ yX2_remove.cls ≠ "java/lang/invoke/VarHandle" ∧ (parseMethodDescriptor yX2_remove.desc).map (fun d => d.parameters.length) = some 1 := by decide +kernel

set_option maxHeartbeats 4000000 in
set_option maxRecDepth 100000 in
theorem c2_indexOf (l : Launch) (dC : Nat → ClassId) (dI : Nat → Nat → Nat) (cs : Nat → ClassId) (a0 a1 : Nat) (N : Nat) (r : RowS) (p0 : Int) (hN : N ≤ 2147483647) (res : Int) (hf : f2_indexOf N r p0 = some res) : Met l yX2_indexOf wsX2_indexOf ({ frames := 0, cells := 0, slots := 0, locals := 0 } : Room) (va_Pc [.ref a0, .int (iI p0)] (xPR (dC, dI) vwCl (w2 cs a0 a1 N r) (xT cs))) (vp_Si (fun r => r = iI res)) 0 0 (fun _ => False) := by
  refine Met.ofW (cc := cX2_indexOf) (maxL := 3) (ret := (some .int)) (by decide) rfl ?_
  intro p e s m args below meth c s₁ B hml hv
  obtain ⟨rfl, hP, hK⟩ := hv
  have hx := B.exec
  have hb := B.bytes
  have hr := B.returns
  have hts := atoms_spec (ws := wsX2_indexOf) B.pre
  have hown : s.vm.findClass RX2 = some m.cls := findClass_of_methodNamed B.named
  have hlocks := B.notSynchronized
  have hin2 : ∀ w ∈ wsX20, w ∈ wsX2_indexOf := by decide +kernel
  have hl := lv_entry [.ref a0, .int (iI p0)] (n := 3) (Nat.le_of_ble_eq_true rfl)
  rw [lg_entry_eq]
  generalize (lg_sl [.ref a0, .int (iI p0)] ++ List.replicate (3 - (lg_sl [.ref a0, .int (iI p0)]).length) Slot.unset).toArray = ls at hl ⊢
  have hl : lv_has ls 3 [(0, .ref a0), (1, .int (iI p0))] := hl
  unfold f2_indexOf at hf
  refine xk_iconst hx hb dX2_indexOf_0 ?_
  refine lv_istore_n (lv' := [(2, .int (iI 0)), (0, .ref a0), (1, .int (iI p0))]) hx hb dX2_indexOf_1 rfl hl (by decide) rfl (fun ls hl => ?_)
  have hL2 : ∀ (n1 : Nat) (l2 : Int), f2_indexOf_L2 N r p0 n1 l2 = some res → ∀ (ls : Array Slot), lv_has ls 3 [(0, .ref a0), (1, .int (iI p0)), (2, .int (iI l2))] → W p l e (headSpec wsX2_indexOf ({ frames := 0, cells := 0, slots := 0, locals := 0 } : Room)).room s m ([.ref a0, .int (iI p0)] : List Value).toArray below meth c s.heap [] 0 0 (MQ below (vp_Si (fun r => r = iI res)) ([.ref a0, .int (iI p0)] : List Value).toArray s 0 0 (fun _ => False)) (F0 m 2 ls []) := by
    intro  n1
    induction n1 with
    | zero => intro l2 hf; have hf : (none : Option (Int)) = some res := hf; cases hf
    | succ n1 ih2 =>
      intro l2 hf ls hl
      rw [f2_indexOf_L2] at hf
      refine lv_iload_n hx hb dX2_indexOf_2 rfl (lv_at hl 2 rfl) ?_
      refine lv_aload_n hx hb dX2_indexOf_3 rfl (lv_at hl 0 rfl) ?_
      refine va_get (D := (dC, dI)) (ci := 2) (v := .int (iI r.1)) (C := RX2) (T := TX2) (N := 2) hx hb hts hin2 hown hK hP 0 rfl rfl 1 (by decide) (hts (.fieldLink RX2 21 "BoatRuns$Row" "size" "I") (by decide +kernel)) (fun _ h9 => h9) rfl dX2_indexOf_4 ?_
      obtain ⟨c2a, c2b, c2t, c2f⟩ := x_ltE hf
      refine xk_icmp_ge (tgt := 28) hx hb c2a c2b dX2_indexOf_7 (by decide) (fun c2 => ?_) (fun c2 => ?_)
      · have hf := c2t c2
        refine lv_aload_n hx hb dX2_indexOf_10 rfl (lv_at hl 0 rfl) ?_
        refine va_get (D := (dC, dI)) (ci := 2) (v := .ref a1) (C := RX2) (T := TX2) (N := 2) hx hb hts hin2 hown hK hP 0 rfl rfl 0 (by decide) (hts (.fieldLink RX2 15 "BoatRuns$Row" "cells" "[I") (by decide +kernel)) (fun _ h9 => h9) rfl dX2_indexOf_11 ?_
        refine lv_iload_n hx hb dX2_indexOf_14 rfl (lv_at hl 2 rfl) ?_
        obtain ⟨v3, ev3, hf⟩ := x_bind hf
        refine xk_iald (f := r.2) hx hb hK hP 1 0 ev3 hN rfl rfl dX2_indexOf_15 ?_
        refine lv_iload_n hx hb dX2_indexOf_16 rfl (lv_at hl 1 rfl) ?_
        obtain ⟨c4a, c4b, c4t, c4f⟩ := x_eqE hf
        refine xk_icmp_ne (tgt := 22) hx hb c4a c4b dX2_indexOf_17 (by decide) (fun c4 => ?_) (fun c4 => ?_)
        · have hf := c4t c4
          refine lv_iload_n hx hb dX2_indexOf_20 rfl (lv_at hl 2 rfl) ?_
          obtain rfl := Option.some.inj hf
          exact xe_ri hx hb hr hlocks dX2_indexOf_21 rfl
        · have hf := c4f c4
          refine xk_iinc (lv' := [(2, .int (iI (l2 + 1))), (0, .ref a0), (1, .int (iI p0))]) hx hb dX2_indexOf_22 hl (k := 2) rfl (by decide) rfl (fun ls hl => ?_)
          refine lv_goto (tgt := 2) hx hb dX2_indexOf_25 (by decide) ?_
          exact ih2 (l2 + 1) hf ls (lv_sub hl [1, 2, 0] rfl)
      · have hf := c2f c2
        refine xk_iconst hx hb dX2_indexOf_28 ?_
        obtain rfl := Option.some.inj hf
        exact xe_ri hx hb hr hlocks dX2_indexOf_29 rfl
  exact hL2  xFU 0 hf ls (lv_sub hl [1, 2, 0] rfl)
theorem cdX2_indexOf : yX2_indexOf.cls = RX2 ∧ yX2_indexOf.cls ≠ "java/lang/invoke/MethodHandle" ∧ yX2_indexOf.cls ≠ "java/lang/invoke/VarHandle" ∧ (parseMethodDescriptor yX2_indexOf.desc).map (fun d => d.parameters.length) = some 1 := by decide +kernel

set_option maxHeartbeats 4000000 in
set_option maxRecDepth 100000 in
theorem c2_copy (l : Launch) (dC : Nat → ClassId) (dI : Nat → Nat → Nat) (cs : Nat → ClassId) (a0 a1 : Nat) (aq0 aq1 : Nat) (sz : Nat) (N : Nat) (r : RowS) (M : Nat) (o : RowS) (hN : N ≤ 2147483647) (hM : M ≤ 2147483647) (res : RowS) (hf : f2_copy N r M o = some res) : Met l yX2_copy wsX2_copy ({ frames := 1, cells := 0, slots := 0, locals := 14 } : Room) (va_Pc [.ref a0, .ref aq0] (xPW (dC, dI) vwCl (w2 cs a0 a1 N r ++ w2 cs aq0 aq1 M o) (xT cs) sz)) (xQv (dC, dI) vwCl (w2 cs a0 a1 N r ++ w2 cs aq0 aq1 M o) (w2 cs a0 a1 N res ++ w2 cs aq0 aq1 M o) sz) 0 0 (va_A (w2 cs a0 a1 N r ++ w2 cs aq0 aq1 M o) sz) := by
  refine Met.ofW (cc := cX2_copy) (maxL := 3) (ret := none) (by decide) rfl ?_
  intro p e s m args below meth c s₁ B hml hv
  obtain ⟨rfl, hsz, hP, hK, hD0⟩ := hv
  have hx := B.exec
  have hb := B.bytes
  have hr := B.returns
  have hts := atoms_spec (ws := wsX2_copy) B.pre
  have hown : s.vm.findClass RX2 = some m.cls := findClass_of_methodNamed B.named
  have hlocks := B.notSynchronized
  have hin2 : ∀ w ∈ wsX20, w ∈ wsX2_copy := by decide +kernel
  subst hsz
  have hD := hD0.self (sz := s.heap.size)
  have hA : ∀ z9 : Nat, s.heap.size ≤ z9 → va_A (w2 cs a0 a1 N r ++ w2 cs aq0 aq1 M o) s.heap.size z9 := fun z9 h => Or.inr h
  have hS : va_S (va_A (w2 cs a0 a1 N r ++ w2 cs aq0 aq1 M o) s.heap.size) s.heap s.heap [] := va_S.rf
  have hl := lv_entry [.ref a0, .ref aq0] (n := 3) (Nat.le_of_ble_eq_true rfl)
  rw [lg_entry_eq]
  generalize (lg_sl [.ref a0, .ref aq0] ++ List.replicate (3 - (lg_sl [.ref a0, .ref aq0]).length) Slot.unset).toArray = ls at hl ⊢
  have hl : lv_has ls 3 [(0, .ref a0), (1, .ref aq0)] := hl
  unfold f2_copy at hf
  refine lv_aload_n hx hb dX2_copy_0 rfl (lv_at hl 0 rfl) ?_
  refine lv_aload_n hx hb dX2_copy_1 rfl (lv_at hl 1 rfl) ?_
  refine va_get (D := (dC, dI)) (ci := 2) (v := .int (iI o.1)) (C := RX2) (T := TX2) (N := 2) hx hb hts hin2 hown hK hP 2 rfl rfl 1 (by decide) (hts (.fieldLink RX2 21 "BoatRuns$Row" "size" "I") (by decide +kernel)) (fun _ h9 => h9) rfl dX2_copy_2 ?_
  refine lv_aload_n hx hb dX2_copy_5 rfl (lv_at hl 0 rfl) ?_
  refine va_get (D := (dC, dI)) (ci := 2) (v := .ref a1) (C := RX2) (T := TX2) (N := 2) hx hb hts hin2 hown hK hP 0 rfl rfl 0 (by decide) (hts (.fieldLink RX2 15 "BoatRuns$Row" "cells" "[I") (by decide +kernel)) (fun _ h9 => h9) rfl dX2_copy_6 ?_
  refine xk_alen hx hb hK hP 1 0 rfl rfl dX2_copy_9 ?_
  obtain ⟨v1, ev1, hf⟩ := x_bind hf
  refine xk_mmin hx hb (by rw [hml]; exact hl.1.symm) hown (hts (.methodLink RX2 36 Lib.Math.min.name) (by decide +kernel)) (hts (.static Lib.Math.min.name) (by decide +kernel)) (hts (.initialized "java/lang/Math") (by decide +kernel)) (hts (.code Lib.Math.min.name Lib.Math.min.code 2 (some .int)) (by decide +kernel)) (Nat.le_of_ble_eq_true rfl) (Nat.le_of_ble_eq_true rfl) (Nat.zero_le _) (Nat.zero_le _) ev1 dX2_copy_10 ?_
  refine va_put (D := (dC, dI)) (ci := 2) (v := .int (iI v1)) (ty := .int) (C := RX2) (T := TX2) (N := 2) hx hb hts hin2 tyX2 tyX2_ok nmX2 hown hK hP (x_addr hD rfl) hS 0 rfl rfl 1 (by decide) (hts (.fieldLink RX2 21 "BoatRuns$Row" "size" "I") (by decide +kernel)) (fun _ h9 => h9) rfl (by decide +kernel) rfl rfl (Nat.le_of_ble_eq_true rfl) dX2_copy_13 (fun H locs hP _ hS => ?_)
  have hP : va_P (dC, dI) vwCl (w2 cs a0 a1 N (v1, r.2) ++ w2 cs aq0 aq1 M o) H := hP
  refine xk_iconst hx hb dX2_copy_16 ?_
  refine lv_istore_n (lv' := [(2, .int (iI 0)), (0, .ref a0), (1, .ref aq0)]) hx hb dX2_copy_17 rfl hl (by decide) rfl (fun ls hl => ?_)
  have hL18 : ∀ (n3 : Nat) (l2 : Int) (r2 : RowS), f2_copy_L18 N M o n3 l2 r2 = some res → ∀ (H : Heap) (locs : List Loc), va_P (dC, dI) vwCl (w2 cs a0 a1 N r2 ++ w2 cs aq0 aq1 M o) H → va_S (va_A (w2 cs a0 a1 N r ++ w2 cs aq0 aq1 M o) s.heap.size) s.heap H locs → ∀ (ls : Array Slot), lv_has ls 3 [(0, .ref a0), (1, .ref aq0), (2, .int (iI l2))] → W p l e (headSpec wsX2_copy ({ frames := 1, cells := 0, slots := 0, locals := 14 } : Room)).room s m ([.ref a0, .ref aq0] : List Value).toArray below meth c H locs 0 0 (MQ below (xQv (dC, dI) vwCl (w2 cs a0 a1 N r ++ w2 cs aq0 aq1 M o) (w2 cs a0 a1 N res ++ w2 cs aq0 aq1 M o) s.heap.size) ([.ref a0, .ref aq0] : List Value).toArray s 0 0 (va_A (w2 cs a0 a1 N r ++ w2 cs aq0 aq1 M o) s.heap.size)) (F0 m 18 ls []) := by
    intro  n3
    induction n3 with
    | zero => intro l2 r2 hf; have hf : (none : Option (RowS)) = some res := hf; cases hf
    | succ n3 ih18 =>
      intro l2 r2 hf H locs hP hS ls hl
      rw [f2_copy_L18] at hf
      refine lv_iload_n hx hb dX2_copy_18 rfl (lv_at hl 2 rfl) ?_
      refine lv_aload_n hx hb dX2_copy_19 rfl (lv_at hl 0 rfl) ?_
      refine va_get (D := (dC, dI)) (ci := 2) (v := .int (iI r2.1)) (C := RX2) (T := TX2) (N := 2) hx hb hts hin2 hown hK hP 0 rfl rfl 1 (by decide) (hts (.fieldLink RX2 21 "BoatRuns$Row" "size" "I") (by decide +kernel)) (fun _ h9 => h9) rfl dX2_copy_20 ?_
      obtain ⟨c4a, c4b, c4t, c4f⟩ := x_ltE hf
      refine xk_icmp_ge (tgt := 44) hx hb c4a c4b dX2_copy_23 (by decide) (fun c4 => ?_) (fun c4 => ?_)
      · have hf := c4t c4
        refine lv_aload_n hx hb dX2_copy_26 rfl (lv_at hl 0 rfl) ?_
        refine va_get (D := (dC, dI)) (ci := 2) (v := .ref a1) (C := RX2) (T := TX2) (N := 2) hx hb hts hin2 hown hK hP 0 rfl rfl 0 (by decide) (hts (.fieldLink RX2 15 "BoatRuns$Row" "cells" "[I") (by decide +kernel)) (fun _ h9 => h9) rfl dX2_copy_27 ?_
        refine lv_iload_n hx hb dX2_copy_30 rfl (lv_at hl 2 rfl) ?_
        refine lv_aload_n hx hb dX2_copy_31 rfl (lv_at hl 1 rfl) ?_
        refine va_get (D := (dC, dI)) (ci := 2) (v := .ref aq1) (C := RX2) (T := TX2) (N := 2) hx hb hts hin2 hown hK hP 2 rfl rfl 0 (by decide) (hts (.fieldLink RX2 15 "BoatRuns$Row" "cells" "[I") (by decide +kernel)) (fun _ h9 => h9) rfl dX2_copy_32 ?_
        refine lv_iload_n hx hb dX2_copy_35 rfl (lv_at hl 2 rfl) ?_
        obtain ⟨v5, ev5, hf⟩ := x_bind hf
        refine xk_iald (f := o.2) hx hb hK hP 3 0 ev5 hM rfl rfl dX2_copy_36 ?_
        obtain ⟨g6, eg6, hf⟩ := x_bind hf
        refine xk_iast (f := r2.2) hx hb hK hP (x_addr hD rfl) hS 1 0 eg6 hN rfl rfl dX2_copy_37 (fun H locs hP hS => ?_)
        have hP : va_P (dC, dI) vwCl (w2 cs a0 a1 N (r2.1, g6) ++ w2 cs aq0 aq1 M o) H := hP
        refine xk_iinc (lv' := [(2, .int (iI (l2 + 1))), (0, .ref a0), (1, .ref aq0)]) hx hb dX2_copy_38 hl (k := 2) rfl (by decide) rfl (fun ls hl => ?_)
        refine lv_goto (tgt := 18) hx hb dX2_copy_41 (by decide) ?_
        exact ih18 (l2 + 1) (r2.1, g6) hf _ _ hP hS ls (lv_sub hl [1, 2, 0] rfl)
      · have hf := c4f c4
        obtain rfl := Option.some.inj hf
        exact xe_wv hx hb hr hlocks hS hP dX2_copy_44
  exact hL18  xFU 0 (v1, r.2) hf _ _ hP hS ls (lv_sub hl [1, 2, 0] rfl)
theorem cdX2_copy : yX2_copy.cls = RX2 ∧ yX2_copy.cls ≠ "java/lang/invoke/MethodHandle" ∧ yX2_copy.cls ≠ "java/lang/invoke/VarHandle" ∧ (parseMethodDescriptor yX2_copy.desc).map (fun d => d.parameters.length) = some 1 := by decide +kernel

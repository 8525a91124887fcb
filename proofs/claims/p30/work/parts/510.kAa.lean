set_option maxHeartbeats 8000000 in
set_option maxRecDepth 100000 in
theorem kL_low (l : Launch) (p0 : Int) (p1 : Int) (res : Int) (hf : fL_low p0 p1 = some res) : Met l yL_low wsL_low ({ frames := 0, cells := 0, slots := 0, locals := 0 } : Room) (va_Pc [.int (iI p0), .int (iI p1)] (fun _ => True)) (vp_Si (fun r => r = iI res)) 0 0 (fun _ => False) := by
  refine Met.ofW (cc := cL_low) (maxL := 2) (ret := (some .int)) (by decide) rfl ?_
  intro p e s m args below meth c s₁ B hml hv
  obtain ⟨rfl, -⟩ := hv
  have hx := B.exec
  have hb := B.bytes
  have hr := B.returns
  have hts := atoms_spec (ws := wsL_low) B.pre
  have hown : s.vm.findClass RL = some m.cls := findClass_of_methodNamed B.named
  have hlocks := B.notSynchronized
  have hl := lv_entry [.int (iI p0), .int (iI p1)] (n := 2) (Nat.le_of_ble_eq_true rfl)
  rw [lg_entry_eq]
  generalize (lg_sl [.int (iI p0), .int (iI p1)] ++ List.replicate (2 - (lg_sl [.int (iI p0), .int (iI p1)]).length) Slot.unset).toArray = ls at hl ⊢
  have hl : lv_has ls 2 [(0, .int (iI p0)), (1, .int (iI p1))] := hl
  unfold fL_low at hf
  refine lv_iload_n hx hb dL_low_0 rfl (lv_at hl 0 rfl) ?_
  refine xk_ldc (n := 2147483647) hx hb hown (hts (.constant RL 8 (2147483647)) (by decide +kernel)) dL_low_1 (by decide) ?_
  refine xk_iand hx hb dL_low_3 ?_
  refine lv_iload_n hx hb dL_low_4 rfl (lv_at hl 1 rfl) ?_
  obtain ⟨v1, ev1, hf⟩ := x_bind hf
  refine xk_irem hx hb ev1 dL_low_5 ?_
  obtain rfl := Option.some.inj hf
  exact xe_ri hx hb hr hlocks dL_low_6 rfl
theorem cdL_low : yL_low.cls ≠ "java/lang/invoke/MethodHandle" ∧ yL_low.cls ≠ "java/lang/invoke/VarHandle" ∧ (parseMethodDescriptor yL_low.desc).map (fun d => d.parameters.length) = some 2 := by decide +kernel

set_option maxHeartbeats 8000000 in
set_option maxRecDepth 100000 in
theorem kL_pack (l : Launch) (p0 : Int) (p1 : Int) (p2 : Int) (p3 : Int) (res : Int) (hf : fL_pack p0 p1 p2 p3 = some res) : Met l yL_pack wsL_pack ({ frames := 0, cells := 0, slots := 0, locals := 0 } : Room) (va_Pc [.int (iI p0), .int (iI p1), .int (iI p2), .int (iI p3)] (fun _ => True)) (vp_Si (fun r => r = iI res)) 0 0 (fun _ => False) := by
  refine Met.ofW (cc := cL_pack) (maxL := 4) (ret := (some .int)) (by decide) rfl ?_
  intro p e s m args below meth c s₁ B hml hv
  obtain ⟨rfl, -⟩ := hv
  have hx := B.exec
  have hb := B.bytes
  have hr := B.returns
  have hts := atoms_spec (ws := wsL_pack) B.pre
  have hown : s.vm.findClass RL = some m.cls := findClass_of_methodNamed B.named
  have hlocks := B.notSynchronized
  have hl := lv_entry [.int (iI p0), .int (iI p1), .int (iI p2), .int (iI p3)] (n := 4) (Nat.le_of_ble_eq_true rfl)
  rw [lg_entry_eq]
  generalize (lg_sl [.int (iI p0), .int (iI p1), .int (iI p2), .int (iI p3)] ++ List.replicate (4 - (lg_sl [.int (iI p0), .int (iI p1), .int (iI p2), .int (iI p3)]).length) Slot.unset).toArray = ls at hl ⊢
  have hl : lv_has ls 4 [(0, .int (iI p0)), (1, .int (iI p1)), (2, .int (iI p2)), (3, .int (iI p3))] := hl
  unfold fL_pack at hf
  refine lv_iload_n hx hb dL_pack_0 rfl (lv_at hl 0 rfl) ?_
  refine lv_iload_n hx hb dL_pack_1 rfl (lv_at hl 1 rfl) ?_
  refine xk_bipush hx hb dL_pack_2 (by decide) ?_
  refine xk_ishl hx hb dL_pack_4 ?_
  refine xk_ior hx hb dL_pack_5 ?_
  refine lv_iload_n hx hb dL_pack_6 rfl (lv_at hl 2 rfl) ?_
  refine xk_bipush hx hb dL_pack_7 (by decide) ?_
  refine xk_ishl hx hb dL_pack_9 ?_
  refine xk_ior hx hb dL_pack_10 ?_
  refine lv_iload_n hx hb dL_pack_11 rfl (lv_at hl 3 rfl) ?_
  refine xk_iconst hx hb dL_pack_12 ?_
  refine xk_iadd hx hb dL_pack_13 ?_
  refine xk_bipush hx hb dL_pack_14 (by decide) ?_
  refine xk_ishl hx hb dL_pack_16 ?_
  refine xk_ior hx hb dL_pack_17 ?_
  obtain rfl := Option.some.inj hf
  exact xe_ri hx hb hr hlocks dL_pack_18 rfl
theorem cdL_pack : yL_pack.cls ≠ "java/lang/invoke/MethodHandle" ∧ yL_pack.cls ≠ "java/lang/invoke/VarHandle" ∧ (parseMethodDescriptor yL_pack.desc).map (fun d => d.parameters.length) = some 4 := by decide +kernel

set_option maxHeartbeats 8000000 in
set_option maxRecDepth 100000 in
theorem kL_key (l : Launch) (dC : Nat → ClassId) (dI : Nat → Nat → Nat) (cs : Nat → ClassId) (aa : Nat) (va : Int → Int) (p1 : Int) (res : Int) (hf : fL_key va p1 = some res) : Met l yL_key wsL_key ({ frames := 0, cells := 0, slots := 0, locals := 0 } : Room) (va_Pc [.ref aa, .int (iI p1)] (xPR (dC, dI) vwCl ((([[qcC cs aa 64 va]] : List va_W)).flatten) (xT cs))) (vp_Si (fun r => r = iI res)) 0 0 (fun _ => False) := by
  refine Met.ofW (cc := cL_key) (maxL := 2) (ret := (some .int)) (by decide) rfl ?_
  intro p e s m args below meth c s₁ B hml hv
  obtain ⟨rfl, hP, hK⟩ := hv
  have hx := B.exec
  have hb := B.bytes
  have hr := B.returns
  have hts := atoms_spec (ws := wsL_key) B.pre
  have hown : s.vm.findClass RL = some m.cls := findClass_of_methodNamed B.named
  have hlocks := B.notSynchronized
  have hl := lv_entry [.ref aa, .int (iI p1)] (n := 2) (Nat.le_of_ble_eq_true rfl)
  rw [lg_entry_eq]
  generalize (lg_sl [.ref aa, .int (iI p1)] ++ List.replicate (2 - (lg_sl [.ref aa, .int (iI p1)]).length) Slot.unset).toArray = ls at hl ⊢
  have hl : lv_has ls 2 [(0, .ref aa), (1, .int (iI p1))] := hl
  unfold fL_key at hf
  refine lv_aload_n hx hb dL_key_0 rfl (lv_at hl 0 rfl) ?_
  refine lv_iload_n hx hb dL_key_1 rfl (lv_at hl 1 rfl) ?_
  obtain ⟨v1, ev1, hf⟩ := x_bind hf
  refine xk_iald (f := va) hx hb hK hP 0 0 ev1 (by decide) rfl rfl dL_key_2 ?_
  refine xk_sipush hx hb dL_key_3 (by decide) ?_
  refine xk_iand hx hb dL_key_6 ?_
  obtain rfl := Option.some.inj hf
  exact xe_ri hx hb hr hlocks dL_key_7 rfl
theorem cdL_key : yL_key.cls ≠ "java/lang/invoke/MethodHandle" ∧ yL_key.cls ≠ "java/lang/invoke/VarHandle" ∧ (parseMethodDescriptor yL_key.desc).map (fun d => d.parameters.length) = some 2 := by decide +kernel

set_option maxHeartbeats 8000000 in
set_option maxRecDepth 100000 in
theorem kL_weight (l : Launch) (dC : Nat → ClassId) (dI : Nat → Nat → Nat) (cs : Nat → ClassId) (aa : Nat) (va : Int → Int) (p1 : Int) (res : Int) (hf : fL_weight va p1 = some res) : Met l yL_weight wsL_weight ({ frames := 0, cells := 0, slots := 0, locals := 0 } : Room) (va_Pc [.ref aa, .int (iI p1)] (xPR (dC, dI) vwCl ((([[qcC cs aa 64 va]] : List va_W)).flatten) (xT cs))) (vp_Si (fun r => r = iI res)) 0 0 (fun _ => False) := by
  refine Met.ofW (cc := cL_weight) (maxL := 2) (ret := (some .int)) (by decide) rfl ?_
  intro p e s m args below meth c s₁ B hml hv
  obtain ⟨rfl, hP, hK⟩ := hv
  have hx := B.exec
  have hb := B.bytes
  have hr := B.returns
  have hts := atoms_spec (ws := wsL_weight) B.pre
  have hown : s.vm.findClass RL = some m.cls := findClass_of_methodNamed B.named
  have hlocks := B.notSynchronized
  have hl := lv_entry [.ref aa, .int (iI p1)] (n := 2) (Nat.le_of_ble_eq_true rfl)
  rw [lg_entry_eq]
  generalize (lg_sl [.ref aa, .int (iI p1)] ++ List.replicate (2 - (lg_sl [.ref aa, .int (iI p1)]).length) Slot.unset).toArray = ls at hl ⊢
  have hl : lv_has ls 2 [(0, .ref aa), (1, .int (iI p1))] := hl
  unfold fL_weight at hf
  refine lv_aload_n hx hb dL_weight_0 rfl (lv_at hl 0 rfl) ?_
  refine lv_iload_n hx hb dL_weight_1 rfl (lv_at hl 1 rfl) ?_
  obtain ⟨v1, ev1, hf⟩ := x_bind hf
  refine xk_iald (f := va) hx hb hK hP 0 0 ev1 (by decide) rfl rfl dL_weight_2 ?_
  refine xk_bipush hx hb dL_weight_3 (by decide) ?_
  refine xk_ishr hx hb dL_weight_5 ?_
  refine xk_bipush hx hb dL_weight_6 (by decide) ?_
  refine xk_iand hx hb dL_weight_8 ?_
  obtain rfl := Option.some.inj hf
  exact xe_ri hx hb hr hlocks dL_weight_9 rfl
theorem cdL_weight : yL_weight.cls ≠ "java/lang/invoke/MethodHandle" ∧ yL_weight.cls ≠ "java/lang/invoke/VarHandle" ∧ (parseMethodDescriptor yL_weight.desc).map (fun d => d.parameters.length) = some 2 := by decide +kernel

set_option maxHeartbeats 8000000 in
set_option maxRecDepth 100000 in
theorem kL_where (l : Launch) (dC : Nat → ClassId) (dI : Nat → Nat → Nat) (cs : Nat → ClassId) (aa : Nat) (va : Int → Int) (p1 : Int) (res : Int) (hf : fL_where va p1 = some res) : Met l yL_where wsL_where ({ frames := 0, cells := 0, slots := 0, locals := 0 } : Room) (va_Pc [.ref aa, .int (iI p1)] (xPR (dC, dI) vwCl ((([[qcC cs aa 64 va]] : List va_W)).flatten) (xT cs))) (vp_Si (fun r => r = iI res)) 0 0 (fun _ => False) := by
  refine Met.ofW (cc := cL_where) (maxL := 2) (ret := (some .int)) (by decide) rfl ?_
  intro p e s m args below meth c s₁ B hml hv
  obtain ⟨rfl, hP, hK⟩ := hv
  have hx := B.exec
  have hb := B.bytes
  have hr := B.returns
  have hts := atoms_spec (ws := wsL_where) B.pre
  have hown : s.vm.findClass RL = some m.cls := findClass_of_methodNamed B.named
  have hlocks := B.notSynchronized
  have hl := lv_entry [.ref aa, .int (iI p1)] (n := 2) (Nat.le_of_ble_eq_true rfl)
  rw [lg_entry_eq]
  generalize (lg_sl [.ref aa, .int (iI p1)] ++ List.replicate (2 - (lg_sl [.ref aa, .int (iI p1)]).length) Slot.unset).toArray = ls at hl ⊢
  have hl : lv_has ls 2 [(0, .ref aa), (1, .int (iI p1))] := hl
  unfold fL_where at hf
  refine lv_aload_n hx hb dL_where_0 rfl (lv_at hl 0 rfl) ?_
  refine lv_iload_n hx hb dL_where_1 rfl (lv_at hl 1 rfl) ?_
  obtain ⟨v1, ev1, hf⟩ := x_bind hf
  refine xk_iald (f := va) hx hb hK hP 0 0 ev1 (by decide) rfl rfl dL_where_2 ?_
  refine xk_bipush hx hb dL_where_3 (by decide) ?_
  refine xk_ishr hx hb dL_where_5 ?_
  refine xk_iconst hx hb dL_where_6 ?_
  refine xk_iand hx hb dL_where_7 ?_
  obtain rfl := Option.some.inj hf
  exact xe_ri hx hb hr hlocks dL_where_8 rfl
theorem cdL_where : yL_where.cls ≠ "java/lang/invoke/MethodHandle" ∧ yL_where.cls ≠ "java/lang/invoke/VarHandle" ∧ (parseMethodDescriptor yL_where.desc).map (fun d => d.parameters.length) = some 2 := by decide +kernel

set_option maxHeartbeats 8000000 in
set_option maxRecDepth 100000 in
theorem kL_run (l : Launch) (dC : Nat → ClassId) (dI : Nat → Nat → Nat) (cs : Nat → ClassId) (aa : Nat) (va : Int → Int) (p1 : Int) (res : Int) (hf : fL_run va p1 = some res) : Met l yL_run wsL_run ({ frames := 0, cells := 0, slots := 0, locals := 0 } : Room) (va_Pc [.ref aa, .int (iI p1)] (xPR (dC, dI) vwCl ((([[qcC cs aa 64 va]] : List va_W)).flatten) (xT cs))) (vp_Si (fun r => r = iI res)) 0 0 (fun _ => False) := by
  refine Met.ofW (cc := cL_run) (maxL := 2) (ret := (some .int)) (by decide) rfl ?_
  intro p e s m args below meth c s₁ B hml hv
  obtain ⟨rfl, hP, hK⟩ := hv
  have hx := B.exec
  have hb := B.bytes
  have hr := B.returns
  have hts := atoms_spec (ws := wsL_run) B.pre
  have hown : s.vm.findClass RL = some m.cls := findClass_of_methodNamed B.named
  have hlocks := B.notSynchronized
  have hl := lv_entry [.ref aa, .int (iI p1)] (n := 2) (Nat.le_of_ble_eq_true rfl)
  rw [lg_entry_eq]
  generalize (lg_sl [.ref aa, .int (iI p1)] ++ List.replicate (2 - (lg_sl [.ref aa, .int (iI p1)]).length) Slot.unset).toArray = ls at hl ⊢
  have hl : lv_has ls 2 [(0, .ref aa), (1, .int (iI p1))] := hl
  unfold fL_run at hf
  refine lv_aload_n hx hb dL_run_0 rfl (lv_at hl 0 rfl) ?_
  refine lv_iload_n hx hb dL_run_1 rfl (lv_at hl 1 rfl) ?_
  obtain ⟨v1, ev1, hf⟩ := x_bind hf
  refine xk_iald (f := va) hx hb hK hP 0 0 ev1 (by decide) rfl rfl dL_run_2 ?_
  refine xk_bipush hx hb dL_run_3 (by decide) ?_
  refine xk_ishr hx hb dL_run_5 ?_
  refine xk_iconst hx hb dL_run_6 ?_
  refine xk_isub hx hb dL_run_7 ?_
  obtain rfl := Option.some.inj hf
  exact xe_ri hx hb hr hlocks dL_run_8 rfl
theorem cdL_run : yL_run.cls ≠ "java/lang/invoke/MethodHandle" ∧ yL_run.cls ≠ "java/lang/invoke/VarHandle" ∧ (parseMethodDescriptor yL_run.desc).map (fun d => d.parameters.length) = some 2 := by decide +kernel

set_option maxHeartbeats 8000000 in
set_option maxRecDepth 100000 in
theorem kL_goes (l : Launch) (dC : Nat → ClassId) (dI : Nat → Nat → Nat) (cs : Nat → ClassId) (aa : Nat) (sz : Nat) (va : Int → Int) (p1 : Int) (p2 : Int) (p3 : Int) (res : Int → Int) (hf : fL_goes va p1 p2 p3 = some res) : Met l yL_goes wsL_goes ({ frames := 1, cells := 0, slots := 0, locals := 23 } : Room) (va_Pc [.ref aa, .int (iI p1), .int (iI p2), .int (iI p3)] (xPW (dC, dI) vwCl ((([[qcC cs aa 64 va]] : List va_W)).flatten) (xT cs) sz)) (xQv (dC, dI) vwCl ((([[qcC cs aa 64 va]] : List va_W)).flatten) ((([[qcC cs aa 64 res]] : List va_W)).flatten) sz) 0 0 (va_A ((([[qcC cs aa 64 va]] : List va_W)).flatten) sz) := by
  refine Met.ofW (cc := cL_goes) (maxL := 4) (ret := none) (by decide) rfl ?_
  intro p e s m args below meth c s₁ B hml hv
  obtain ⟨rfl, hsz, hP, hK, hD0⟩ := hv
  have hx := B.exec
  have hb := B.bytes
  have hr := B.returns
  have hts := atoms_spec (ws := wsL_goes) B.pre
  have hown : s.vm.findClass RL = some m.cls := findClass_of_methodNamed B.named
  have hlocks := B.notSynchronized
  subst hsz
  have hD := hD0.self (sz := s.heap.size)
  have hA : ∀ z9 : Nat, s.heap.size ≤ z9 → va_A ((([[qcC cs aa 64 va]] : List va_W)).flatten) s.heap.size z9 := fun z9 h => Or.inr h
  have hS : va_S (va_A ((([[qcC cs aa 64 va]] : List va_W)).flatten) s.heap.size) s.heap s.heap [] := va_S.rf
  have hl := lv_entry [.ref aa, .int (iI p1), .int (iI p2), .int (iI p3)] (n := 4) (Nat.le_of_ble_eq_true rfl)
  rw [lg_entry_eq]
  generalize (lg_sl [.ref aa, .int (iI p1), .int (iI p2), .int (iI p3)] ++ List.replicate (4 - (lg_sl [.ref aa, .int (iI p1), .int (iI p2), .int (iI p3)]).length) Slot.unset).toArray = ls at hl ⊢
  have hl : lv_has ls 4 [(0, .ref aa), (1, .int (iI p1)), (2, .int (iI p2)), (3, .int (iI p3))] := hl
  unfold fL_goes at hf
  refine lv_aload_n hx hb dL_goes_0 rfl (lv_at hl 0 rfl) ?_
  refine lv_iload_n hx hb dL_goes_1 rfl (lv_at hl 1 rfl) ?_
  refine lv_aload_n hx hb dL_goes_2 rfl (lv_at hl 0 rfl) ?_
  refine lv_iload_n hx hb dL_goes_3 rfl (lv_at hl 1 rfl) ?_
  obtain ⟨v1, ev1, hf⟩ := x_bind hf
  refine xf_sri (As := [.ref aa, .int (iI p1)]) (rest := [.int (iI p1), .ref aa]) (wcs := ([[qcC cs aa 64 va]] : List va_W)) ⟨hx, hb, hml, hown, hts⟩ (kL_key l dC dI cs aa va p1 _ ev1) (va_cwS 2 hts gL_goes_L_key rfl rfl rfl cdL_key ⟨Nat.le_of_ble_eq_true rfl, Nat.le_of_ble_eq_true rfl⟩) hK hP [0] rfl rfl rfl hl.1 rfl (Nat.le_of_ble_eq_true rfl) dL_goes_4 ⟨Nat.zero_le _, Nat.zero_le _⟩ ?_
  refine lv_aload_n hx hb dL_goes_7 rfl (lv_at hl 0 rfl) ?_
  refine lv_iload_n hx hb dL_goes_8 rfl (lv_at hl 1 rfl) ?_
  obtain ⟨v2, ev2, hf⟩ := x_bind hf
  refine xf_sri (As := [.ref aa, .int (iI p1)]) (rest := [.int (iI v1), .int (iI p1), .ref aa]) (wcs := ([[qcC cs aa 64 va]] : List va_W)) ⟨hx, hb, hml, hown, hts⟩ (kL_weight l dC dI cs aa va p1 _ ev2) (va_cwS 2 hts gL_goes_L_weight rfl rfl rfl cdL_weight ⟨Nat.le_of_ble_eq_true rfl, Nat.le_of_ble_eq_true rfl⟩) hK hP [0] rfl rfl rfl hl.1 rfl (Nat.le_of_ble_eq_true rfl) dL_goes_9 ⟨Nat.zero_le _, Nat.zero_le _⟩ ?_
  refine lv_iload_n hx hb dL_goes_12 rfl (lv_at hl 2 rfl) ?_
  refine lv_iload_n hx hb dL_goes_13 rfl (lv_at hl 3 rfl) ?_
  obtain ⟨v3, ev3, hf⟩ := x_bind hf
  refine xc_si (As := [.int (iI v1), .int (iI v2), .int (iI p2), .int (iI p3)]) (rest := [.int (iI p1), .ref aa]) ⟨hx, hb, hml, hown, hts⟩ (kL_pack l v1 v2 p2 p3 _ ev3) (va_cwS 4 hts gL_goes_L_pack rfl rfl rfl cdL_pack ⟨Nat.le_of_ble_eq_true rfl, Nat.le_of_ble_eq_true rfl⟩) rfl hl.1 rfl (Nat.le_of_ble_eq_true rfl) dL_goes_14 ⟨Nat.zero_le _, Nat.zero_le _⟩ ?_
  obtain ⟨g4, eg4, hf⟩ := x_bind hf
  refine xk_iast (f := va) hx hb hK hP (x_addrF hD rfl) hS 0 0 eg4 (by decide) rfl rfl dL_goes_17 (fun H locs hP hS => ?_)
  have hP : va_P (dC, dI) vwCl ((([[qcC cs aa 64 g4]] : List va_W)).flatten) H := hP
  obtain rfl := Option.some.inj hf
  exact xe_wv hx hb hr hlocks hS hP dL_goes_18
theorem cdL_goes : yL_goes.cls ≠ "java/lang/invoke/MethodHandle" ∧ yL_goes.cls ≠ "java/lang/invoke/VarHandle" ∧ (parseMethodDescriptor yL_goes.desc).map (fun d => d.parameters.length) = some 4 := by decide +kernel

set_option maxHeartbeats 8000000 in
set_option maxRecDepth 100000 in
theorem kL_isLess (l : Launch) (dC : Nat → ClassId) (dI : Nat → Nat → Nat) (cs : Nat → ClassId) (aa : Nat) (va : Int → Int) (p1 : Int) (p2 : Int) (res : Int) (hf : fL_isLess va p1 p2 = some res) : Met l yL_isLess wsL_isLess ({ frames := 1, cells := 0, slots := 0, locals := 21 } : Room) (va_Pc [.ref aa, .int (iI p1), .int (iI p2)] (xPR (dC, dI) vwCl ((([[qcC cs aa 64 va]] : List va_W)).flatten) (xT cs))) (vp_Si (fun r => r = iI res)) 0 0 (fun _ => False) := by
  refine Met.ofW (cc := cL_isLess) (maxL := 3) (ret := (some .boolean)) (by decide) rfl ?_
  intro p e s m args below meth c s₁ B hml hv
  obtain ⟨rfl, hP, hK⟩ := hv
  have hx := B.exec
  have hb := B.bytes
  have hr := B.returns
  have hts := atoms_spec (ws := wsL_isLess) B.pre
  have hown : s.vm.findClass RL = some m.cls := findClass_of_methodNamed B.named
  have hlocks := B.notSynchronized
  have hl := lv_entry [.ref aa, .int (iI p1), .int (iI p2)] (n := 3) (Nat.le_of_ble_eq_true rfl)
  rw [lg_entry_eq]
  generalize (lg_sl [.ref aa, .int (iI p1), .int (iI p2)] ++ List.replicate (3 - (lg_sl [.ref aa, .int (iI p1), .int (iI p2)]).length) Slot.unset).toArray = ls at hl ⊢
  have hl : lv_has ls 3 [(0, .ref aa), (1, .int (iI p1)), (2, .int (iI p2))] := hl
  unfold fL_isLess at hf
  refine lv_aload_n hx hb dL_isLess_0 rfl (lv_at hl 0 rfl) ?_
  refine lv_iload_n hx hb dL_isLess_1 rfl (lv_at hl 1 rfl) ?_
  obtain ⟨v1, ev1, hf⟩ := x_bind hf
  refine xf_sri (As := [.ref aa, .int (iI p1)]) (rest := []) (wcs := ([[qcC cs aa 64 va]] : List va_W)) ⟨hx, hb, hml, hown, hts⟩ (kL_key l dC dI cs aa va p1 _ ev1) (va_cwS 2 hts gL_isLess_L_key rfl rfl rfl cdL_key ⟨Nat.le_of_ble_eq_true rfl, Nat.le_of_ble_eq_true rfl⟩) hK hP [0] rfl rfl rfl hl.1 rfl (Nat.le_of_ble_eq_true rfl) dL_isLess_2 ⟨Nat.zero_le _, Nat.zero_le _⟩ ?_
  refine lv_aload_n hx hb dL_isLess_5 rfl (lv_at hl 0 rfl) ?_
  refine lv_iload_n hx hb dL_isLess_6 rfl (lv_at hl 2 rfl) ?_
  obtain ⟨v2, ev2, hf⟩ := x_bind hf
  refine xf_sri (As := [.ref aa, .int (iI p2)]) (rest := [.int (iI v1)]) (wcs := ([[qcC cs aa 64 va]] : List va_W)) ⟨hx, hb, hml, hown, hts⟩ (kL_key l dC dI cs aa va p2 _ ev2) (va_cwS 2 hts gL_isLess_L_key rfl rfl rfl cdL_key ⟨Nat.le_of_ble_eq_true rfl, Nat.le_of_ble_eq_true rfl⟩) hK hP [0] rfl rfl rfl hl.1 rfl (Nat.le_of_ble_eq_true rfl) dL_isLess_7 ⟨Nat.zero_le _, Nat.zero_le _⟩ ?_
  obtain ⟨c3a, c3b, c3t, c3f⟩ := x_eqE hf
  refine xk_icmp_eq (tgt := 34) hx hb c3a c3b dL_isLess_10 (by decide) (fun c3 => ?_) (fun c3 => ?_)
  · have hf := c3t c3
    refine lv_iload_n hx hb dL_isLess_34 rfl (lv_at hl 1 rfl) ?_
    refine lv_iload_n hx hb dL_isLess_35 rfl (lv_at hl 2 rfl) ?_
    obtain ⟨c4a, c4b, c4t, c4f⟩ := x_ltE hf
    refine xk_icmp_ge (tgt := 43) hx hb c4a c4b dL_isLess_36 (by decide) (fun c4 => ?_) (fun c4 => ?_)
    · have hf := c4t c4
      refine xk_iconst hx hb dL_isLess_39 ?_
      refine lv_goto (tgt := 44) hx hb dL_isLess_40 (by decide) ?_
      obtain rfl := Option.some.inj hf
      exact xe_rz hx hb hr (Or.inr rfl) hlocks dL_isLess_44 rfl
    · have hf := c4f c4
      refine xk_iconst hx hb dL_isLess_43 ?_
      obtain rfl := Option.some.inj hf
      exact xe_rz hx hb hr (Or.inl rfl) hlocks dL_isLess_44 rfl
  · have hf := c3f c3
    refine lv_aload_n hx hb dL_isLess_13 rfl (lv_at hl 0 rfl) ?_
    refine lv_iload_n hx hb dL_isLess_14 rfl (lv_at hl 1 rfl) ?_
    obtain ⟨v5, ev5, hf⟩ := x_bind hf
    refine xf_sri (As := [.ref aa, .int (iI p1)]) (rest := []) (wcs := ([[qcC cs aa 64 va]] : List va_W)) ⟨hx, hb, hml, hown, hts⟩ (kL_key l dC dI cs aa va p1 _ ev5) (va_cwS 2 hts gL_isLess_L_key rfl rfl rfl cdL_key ⟨Nat.le_of_ble_eq_true rfl, Nat.le_of_ble_eq_true rfl⟩) hK hP [0] rfl rfl rfl hl.1 rfl (Nat.le_of_ble_eq_true rfl) dL_isLess_15 ⟨Nat.zero_le _, Nat.zero_le _⟩ ?_
    refine lv_aload_n hx hb dL_isLess_18 rfl (lv_at hl 0 rfl) ?_
    refine lv_iload_n hx hb dL_isLess_19 rfl (lv_at hl 2 rfl) ?_
    obtain ⟨v6, ev6, hf⟩ := x_bind hf
    refine xf_sri (As := [.ref aa, .int (iI p2)]) (rest := [.int (iI v5)]) (wcs := ([[qcC cs aa 64 va]] : List va_W)) ⟨hx, hb, hml, hown, hts⟩ (kL_key l dC dI cs aa va p2 _ ev6) (va_cwS 2 hts gL_isLess_L_key rfl rfl rfl cdL_key ⟨Nat.le_of_ble_eq_true rfl, Nat.le_of_ble_eq_true rfl⟩) hK hP [0] rfl rfl rfl hl.1 rfl (Nat.le_of_ble_eq_true rfl) dL_isLess_20 ⟨Nat.zero_le _, Nat.zero_le _⟩ ?_
    obtain ⟨c7a, c7b, c7t, c7f⟩ := x_ltE hf
    refine xk_icmp_ge (tgt := 30) hx hb c7a c7b dL_isLess_23 (by decide) (fun c7 => ?_) (fun c7 => ?_)
    · have hf := c7t c7
      refine xk_iconst hx hb dL_isLess_26 ?_
      refine lv_goto (tgt := 44) hx hb dL_isLess_27 (by decide) ?_
      obtain rfl := Option.some.inj hf
      exact xe_rz hx hb hr (Or.inr rfl) hlocks dL_isLess_44 rfl
    · have hf := c7f c7
      refine xk_iconst hx hb dL_isLess_30 ?_
      refine lv_goto (tgt := 44) hx hb dL_isLess_31 (by decide) ?_
      obtain rfl := Option.some.inj hf
      exact xe_rz hx hb hr (Or.inl rfl) hlocks dL_isLess_44 rfl
theorem cdL_isLess : yL_isLess.cls ≠ "java/lang/invoke/MethodHandle" ∧ yL_isLess.cls ≠ "java/lang/invoke/VarHandle" ∧ (parseMethodDescriptor yL_isLess.desc).map (fun d => d.parameters.length) = some 3 := by decide +kernel

set_option maxHeartbeats 8000000 in
set_option maxRecDepth 100000 in
theorem kL_many (l : Launch) (dC : Nat → ClassId) (dI : Nat → Nat → Nat) (cs : Nat → ClassId) (aa : Nat) (ah : Nat) (va : Int → Int) (vh : Int → Int) (p2 : Int) (p3 : Int) (res : Int) (hf : fL_many va vh p2 p3 = some res) : Met l yL_many wsL_many ({ frames := 1, cells := 0, slots := 0, locals := 21 } : Room) (va_Pc [.ref aa, .ref ah, .int (iI p2), .int (iI p3)] (xPR (dC, dI) vwCl ((([[qcC cs aa 64 va], [qcC cs ah 8 vh]] : List va_W)).flatten) (xT cs))) (vp_Si (fun r => r = iI res)) 0 0 (fun _ => False) := by
  refine Met.ofW (cc := cL_many) (maxL := 6) (ret := (some .int)) (by decide) rfl ?_
  intro p e s m args below meth c s₁ B hml hv
  obtain ⟨rfl, hP, hK⟩ := hv
  have hx := B.exec
  have hb := B.bytes
  have hr := B.returns
  have hts := atoms_spec (ws := wsL_many) B.pre
  have hown : s.vm.findClass RL = some m.cls := findClass_of_methodNamed B.named
  have hlocks := B.notSynchronized
  have hl := lv_entry [.ref aa, .ref ah, .int (iI p2), .int (iI p3)] (n := 6) (Nat.le_of_ble_eq_true rfl)
  rw [lg_entry_eq]
  generalize (lg_sl [.ref aa, .ref ah, .int (iI p2), .int (iI p3)] ++ List.replicate (6 - (lg_sl [.ref aa, .ref ah, .int (iI p2), .int (iI p3)]).length) Slot.unset).toArray = ls at hl ⊢
  have hl : lv_has ls 6 [(0, .ref aa), (1, .ref ah), (2, .int (iI p2)), (3, .int (iI p3))] := hl
  unfold fL_many at hf
  refine xk_iconst hx hb dL_many_0 ?_
  refine lv_istore (lv' := [(4, .int (iI 0)), (0, .ref aa), (1, .ref ah), (2, .int (iI p2)), (3, .int (iI p3))]) hx hb dL_many_1 hl (by decide) rfl (fun ls hl => ?_)
  refine xk_iconst hx hb dL_many_3 ?_
  refine lv_istore (lv' := [(5, .int (iI 0)), (4, .int (iI 0)), (0, .ref aa), (1, .ref ah), (2, .int (iI p2)), (3, .int (iI p3))]) hx hb dL_many_4 hl (by decide) rfl (fun ls hl => ?_)
  have hL6 : ∀ (n1 : Nat) (l4 : Int) (l5 : Int), fL_many_L6 va vh p2 p3 n1 l4 l5 = some res → ∀ (ls : Array Slot), lv_has ls 6 [(0, .ref aa), (1, .ref ah), (2, .int (iI p2)), (3, .int (iI p3)), (4, .int (iI l4)), (5, .int (iI l5))] → W p l e (headSpec wsL_many ({ frames := 1, cells := 0, slots := 0, locals := 21 } : Room)).room s m ([.ref aa, .ref ah, .int (iI p2), .int (iI p3)] : List Value).toArray below meth c s.heap [] 0 0 (MQ below (vp_Si (fun r => r = iI res)) ([.ref aa, .ref ah, .int (iI p2), .int (iI p3)] : List Value).toArray s 0 0 (fun _ => False)) (F0 m 6 ls []) := by
    intro  n1
    induction n1 with
    | zero => intro l4 l5 hf; have hf : (none : Option (Int)) = some res := hf; cases hf
    | succ n1 ih6 =>
      intro l4 l5 hf ls hl
      rw [fL_many_L6] at hf
      refine lv_iload hx hb dL_many_6 (lv_at hl 5 rfl) ?_
      refine lv_aload_n hx hb dL_many_8 rfl (lv_at hl 1 rfl) ?_
      refine xk_iconst hx hb dL_many_9 ?_
      obtain ⟨v2, ev2, hf⟩ := x_bind hf
      refine xk_iald (f := vh) hx hb hK hP 1 0 ev2 (by decide) rfl rfl dL_many_10 ?_
      obtain ⟨c3a, c3b, c3t, c3f⟩ := x_ltE hf
      refine xk_icmp_ge (tgt := 50) hx hb c3a c3b dL_many_11 (by decide) (fun c3 => ?_) (fun c3 => ?_)
      · have hf := c3t c3
        refine lv_iload hx hb dL_many_14 (lv_at hl 4 rfl) ?_
        refine lv_aload_n hx hb dL_many_16 rfl (lv_at hl 0 rfl) ?_
        refine lv_iload hx hb dL_many_17 (lv_at hl 5 rfl) ?_
        obtain ⟨v4, ev4, hf⟩ := x_bind hf
        refine xf_sri (As := [.ref aa, .int (iI l5)]) (rest := [.int (iI l4)]) (wcs := ([[qcC cs aa 64 va]] : List va_W)) ⟨hx, hb, hml, hown, hts⟩ (kL_where l dC dI cs aa va l5 _ ev4) (va_cwS 2 hts gL_many_L_where rfl rfl rfl cdL_where ⟨Nat.le_of_ble_eq_true rfl, Nat.le_of_ble_eq_true rfl⟩) hK hP [0] rfl rfl rfl hl.1 rfl (Nat.le_of_ble_eq_true rfl) dL_many_19 ⟨Nat.zero_le _, Nat.zero_le _⟩ ?_
        refine lv_iload_n hx hb dL_many_22 rfl (lv_at hl 2 rfl) ?_
        obtain ⟨c5a, c5b, c5t, c5f⟩ := x_eqE hf
        refine xk_icmp_ne (tgt := 40) hx hb c5a c5b dL_many_23 (by decide) (fun c5 => ?_) (fun c5 => ?_)
        · have hf := c5t c5
          refine lv_aload_n hx hb dL_many_26 rfl (lv_at hl 0 rfl) ?_
          refine lv_iload hx hb dL_many_27 (lv_at hl 5 rfl) ?_
          obtain ⟨v6, ev6, hf⟩ := x_bind hf
          refine xf_sri (As := [.ref aa, .int (iI l5)]) (rest := [.int (iI l4)]) (wcs := ([[qcC cs aa 64 va]] : List va_W)) ⟨hx, hb, hml, hown, hts⟩ (kL_run l dC dI cs aa va l5 _ ev6) (va_cwS 2 hts gL_many_L_run rfl rfl rfl cdL_run ⟨Nat.le_of_ble_eq_true rfl, Nat.le_of_ble_eq_true rfl⟩) hK hP [0] rfl rfl rfl hl.1 rfl (Nat.le_of_ble_eq_true rfl) dL_many_29 ⟨Nat.zero_le _, Nat.zero_le _⟩ ?_
          refine lv_iload_n hx hb dL_many_32 rfl (lv_at hl 3 rfl) ?_
          obtain ⟨c7a, c7b, c7t, c7f⟩ := x_eqE hf
          refine xk_icmp_ne (tgt := 40) hx hb c7a c7b dL_many_33 (by decide) (fun c7 => ?_) (fun c7 => ?_)
          · have hf := c7t c7
            refine xk_iconst hx hb dL_many_36 ?_
            refine lv_goto (tgt := 41) hx hb dL_many_37 (by decide) ?_
            refine xk_iadd hx hb dL_many_41 ?_
            refine lv_istore (lv' := [(4, .int (iI (l4 + 1))), (0, .ref aa), (1, .ref ah), (2, .int (iI p2)), (3, .int (iI p3)), (5, .int (iI l5))]) hx hb dL_many_42 hl (by decide) rfl (fun ls hl => ?_)
            refine xk_iinc (lv' := [(5, .int (iI (l5 + 1))), (4, .int (iI (l4 + 1))), (0, .ref aa), (1, .ref ah), (2, .int (iI p2)), (3, .int (iI p3))]) hx hb dL_many_44 hl (k := 5) rfl (by decide) rfl (fun ls hl => ?_)
            refine lv_goto (tgt := 6) hx hb dL_many_47 (by decide) ?_
            exact ih6 (l4 + 1) (l5 + 1) hf ls (lv_sub hl [2, 3, 4, 5, 1, 0] rfl)
          · have hf := c7f c7
            refine xk_iconst hx hb dL_many_40 ?_
            refine xk_iadd hx hb dL_many_41 ?_
            refine lv_istore (lv' := [(4, .int (iI (l4 + 0))), (0, .ref aa), (1, .ref ah), (2, .int (iI p2)), (3, .int (iI p3)), (5, .int (iI l5))]) hx hb dL_many_42 hl (by decide) rfl (fun ls hl => ?_)
            refine xk_iinc (lv' := [(5, .int (iI (l5 + 1))), (4, .int (iI (l4 + 0))), (0, .ref aa), (1, .ref ah), (2, .int (iI p2)), (3, .int (iI p3))]) hx hb dL_many_44 hl (k := 5) rfl (by decide) rfl (fun ls hl => ?_)
            refine lv_goto (tgt := 6) hx hb dL_many_47 (by decide) ?_
            exact ih6 (l4 + 0) (l5 + 1) hf ls (lv_sub hl [2, 3, 4, 5, 1, 0] rfl)
        · have hf := c5f c5
          refine xk_iconst hx hb dL_many_40 ?_
          refine xk_iadd hx hb dL_many_41 ?_
          refine lv_istore (lv' := [(4, .int (iI (l4 + 0))), (0, .ref aa), (1, .ref ah), (2, .int (iI p2)), (3, .int (iI p3)), (5, .int (iI l5))]) hx hb dL_many_42 hl (by decide) rfl (fun ls hl => ?_)
          refine xk_iinc (lv' := [(5, .int (iI (l5 + 1))), (4, .int (iI (l4 + 0))), (0, .ref aa), (1, .ref ah), (2, .int (iI p2)), (3, .int (iI p3))]) hx hb dL_many_44 hl (k := 5) rfl (by decide) rfl (fun ls hl => ?_)
          refine lv_goto (tgt := 6) hx hb dL_many_47 (by decide) ?_
          exact ih6 (l4 + 0) (l5 + 1) hf ls (lv_sub hl [2, 3, 4, 5, 1, 0] rfl)
      · have hf := c3f c3
        refine lv_iload hx hb dL_many_50 (lv_at hl 4 rfl) ?_
        obtain rfl := Option.some.inj hf
        exact xe_ri hx hb hr hlocks dL_many_52 rfl
  exact hL6  xFU 0 0 hf ls (lv_sub hl [2, 3, 4, 5, 1, 0] rfl)
theorem cdL_many : yL_many.cls ≠ "java/lang/invoke/MethodHandle" ∧ yL_many.cls ≠ "java/lang/invoke/VarHandle" ∧ (parseMethodDescriptor yL_many.desc).map (fun d => d.parameters.length) = some 4 := by decide +kernel

set_option maxHeartbeats 8000000 in
set_option maxRecDepth 100000 in
theorem kL_weighs (l : Launch) (dC : Nat → ClassId) (dI : Nat → Nat → Nat) (cs : Nat → ClassId) (aa : Nat) (ah : Nat) (va : Int → Int) (vh : Int → Int) (p2 : Int) (res : Int) (hf : fL_weighs va vh p2 = some res) : Met l yL_weighs wsL_weighs ({ frames := 1, cells := 0, slots := 0, locals := 21 } : Room) (va_Pc [.ref aa, .ref ah, .int (iI p2)] (xPR (dC, dI) vwCl ((([[qcC cs aa 64 va], [qcC cs ah 8 vh]] : List va_W)).flatten) (xT cs))) (vp_Si (fun r => r = iI res)) 0 0 (fun _ => False) := by
  refine Met.ofW (cc := cL_weighs) (maxL := 5) (ret := (some .int)) (by decide) rfl ?_
  intro p e s m args below meth c s₁ B hml hv
  obtain ⟨rfl, hP, hK⟩ := hv
  have hx := B.exec
  have hb := B.bytes
  have hr := B.returns
  have hts := atoms_spec (ws := wsL_weighs) B.pre
  have hown : s.vm.findClass RL = some m.cls := findClass_of_methodNamed B.named
  have hlocks := B.notSynchronized
  have hl := lv_entry [.ref aa, .ref ah, .int (iI p2)] (n := 5) (Nat.le_of_ble_eq_true rfl)
  rw [lg_entry_eq]
  generalize (lg_sl [.ref aa, .ref ah, .int (iI p2)] ++ List.replicate (5 - (lg_sl [.ref aa, .ref ah, .int (iI p2)]).length) Slot.unset).toArray = ls at hl ⊢
  have hl : lv_has ls 5 [(0, .ref aa), (1, .ref ah), (2, .int (iI p2))] := hl
  unfold fL_weighs at hf
  refine xk_iconst hx hb dL_weighs_0 ?_
  refine lv_istore_n (lv' := [(3, .int (iI 0)), (0, .ref aa), (1, .ref ah), (2, .int (iI p2))]) hx hb dL_weighs_1 rfl hl (by decide) rfl (fun ls hl => ?_)
  refine xk_iconst hx hb dL_weighs_2 ?_
  refine lv_istore (lv' := [(4, .int (iI 0)), (3, .int (iI 0)), (0, .ref aa), (1, .ref ah), (2, .int (iI p2))]) hx hb dL_weighs_3 hl (by decide) rfl (fun ls hl => ?_)
  have hL5 : ∀ (n1 : Nat) (l3 : Int) (l4 : Int), fL_weighs_L5 va vh p2 n1 l3 l4 = some res → ∀ (ls : Array Slot), lv_has ls 5 [(0, .ref aa), (1, .ref ah), (2, .int (iI p2)), (3, .int (iI l3)), (4, .int (iI l4))] → W p l e (headSpec wsL_weighs ({ frames := 1, cells := 0, slots := 0, locals := 21 } : Room)).room s m ([.ref aa, .ref ah, .int (iI p2)] : List Value).toArray below meth c s.heap [] 0 0 (MQ below (vp_Si (fun r => r = iI res)) ([.ref aa, .ref ah, .int (iI p2)] : List Value).toArray s 0 0 (fun _ => False)) (F0 m 5 ls []) := by
    intro  n1
    induction n1 with
    | zero => intro l3 l4 hf; have hf : (none : Option (Int)) = some res := hf; cases hf
    | succ n1 ih5 =>
      intro l3 l4 hf ls hl
      rw [fL_weighs_L5] at hf
      refine lv_iload hx hb dL_weighs_5 (lv_at hl 4 rfl) ?_
      refine lv_aload_n hx hb dL_weighs_7 rfl (lv_at hl 1 rfl) ?_
      refine xk_iconst hx hb dL_weighs_8 ?_
      obtain ⟨v2, ev2, hf⟩ := x_bind hf
      refine xk_iald (f := vh) hx hb hK hP 1 0 ev2 (by decide) rfl rfl dL_weighs_9 ?_
      obtain ⟨c3a, c3b, c3t, c3f⟩ := x_ltE hf
      refine xk_icmp_ge (tgt := 52) hx hb c3a c3b dL_weighs_10 (by decide) (fun c3 => ?_) (fun c3 => ?_)
      · have hf := c3t c3
        refine lv_iload_n hx hb dL_weighs_13 rfl (lv_at hl 3 rfl) ?_
        refine lv_aload_n hx hb dL_weighs_14 rfl (lv_at hl 0 rfl) ?_
        refine lv_iload hx hb dL_weighs_15 (lv_at hl 4 rfl) ?_
        obtain ⟨v4, ev4, hf⟩ := x_bind hf
        refine xf_sri (As := [.ref aa, .int (iI l4)]) (rest := [.int (iI l3)]) (wcs := ([[qcC cs aa 64 va]] : List va_W)) ⟨hx, hb, hml, hown, hts⟩ (kL_where l dC dI cs aa va l4 _ ev4) (va_cwS 2 hts gL_weighs_L_where rfl rfl rfl cdL_where ⟨Nat.le_of_ble_eq_true rfl, Nat.le_of_ble_eq_true rfl⟩) hK hP [0] rfl rfl rfl hl.1 rfl (Nat.le_of_ble_eq_true rfl) dL_weighs_17 ⟨Nat.zero_le _, Nat.zero_le _⟩ ?_
        refine xk_iconst hx hb dL_weighs_20 ?_
        obtain ⟨c5a, c5b, c5t, c5f⟩ := x_eqE hf
        refine xk_icmp_ne (tgt := 43) hx hb c5a c5b dL_weighs_21 (by decide) (fun c5 => ?_) (fun c5 => ?_)
        · have hf := c5t c5
          refine lv_aload_n hx hb dL_weighs_24 rfl (lv_at hl 0 rfl) ?_
          refine lv_iload hx hb dL_weighs_25 (lv_at hl 4 rfl) ?_
          obtain ⟨v6, ev6, hf⟩ := x_bind hf
          refine xf_sri (As := [.ref aa, .int (iI l4)]) (rest := [.int (iI l3)]) (wcs := ([[qcC cs aa 64 va]] : List va_W)) ⟨hx, hb, hml, hown, hts⟩ (kL_run l dC dI cs aa va l4 _ ev6) (va_cwS 2 hts gL_weighs_L_run rfl rfl rfl cdL_run ⟨Nat.le_of_ble_eq_true rfl, Nat.le_of_ble_eq_true rfl⟩) hK hP [0] rfl rfl rfl hl.1 rfl (Nat.le_of_ble_eq_true rfl) dL_weighs_27 ⟨Nat.zero_le _, Nat.zero_le _⟩ ?_
          refine lv_iload_n hx hb dL_weighs_30 rfl (lv_at hl 2 rfl) ?_
          obtain ⟨c7a, c7b, c7t, c7f⟩ := x_eqE hf
          refine xk_icmp_ne (tgt := 43) hx hb c7a c7b dL_weighs_31 (by decide) (fun c7 => ?_) (fun c7 => ?_)
          · have hf := c7t c7
            refine lv_aload_n hx hb dL_weighs_34 rfl (lv_at hl 0 rfl) ?_
            refine lv_iload hx hb dL_weighs_35 (lv_at hl 4 rfl) ?_
            obtain ⟨v8, ev8, hf⟩ := x_bind hf
            refine xf_sri (As := [.ref aa, .int (iI l4)]) (rest := [.int (iI l3)]) (wcs := ([[qcC cs aa 64 va]] : List va_W)) ⟨hx, hb, hml, hown, hts⟩ (kL_weight l dC dI cs aa va l4 _ ev8) (va_cwS 2 hts gL_weighs_L_weight rfl rfl rfl cdL_weight ⟨Nat.le_of_ble_eq_true rfl, Nat.le_of_ble_eq_true rfl⟩) hK hP [0] rfl rfl rfl hl.1 rfl (Nat.le_of_ble_eq_true rfl) dL_weighs_37 ⟨Nat.zero_le _, Nat.zero_le _⟩ ?_
            refine lv_goto (tgt := 44) hx hb dL_weighs_40 (by decide) ?_
            refine xk_iadd hx hb dL_weighs_44 ?_
            refine lv_istore_n (lv' := [(3, .int (iI (l3 + v8))), (0, .ref aa), (1, .ref ah), (2, .int (iI p2)), (4, .int (iI l4))]) hx hb dL_weighs_45 rfl hl (by decide) rfl (fun ls hl => ?_)
            refine xk_iinc (lv' := [(4, .int (iI (l4 + 1))), (3, .int (iI (l3 + v8))), (0, .ref aa), (1, .ref ah), (2, .int (iI p2))]) hx hb dL_weighs_46 hl (k := 4) rfl (by decide) rfl (fun ls hl => ?_)
            refine lv_goto (tgt := 5) hx hb dL_weighs_49 (by decide) ?_
            exact ih5 (l3 + v8) (l4 + 1) hf ls (lv_sub hl [2, 3, 4, 1, 0] rfl)
          · have hf := c7f c7
            refine xk_iconst hx hb dL_weighs_43 ?_
            refine xk_iadd hx hb dL_weighs_44 ?_
            refine lv_istore_n (lv' := [(3, .int (iI (l3 + 0))), (0, .ref aa), (1, .ref ah), (2, .int (iI p2)), (4, .int (iI l4))]) hx hb dL_weighs_45 rfl hl (by decide) rfl (fun ls hl => ?_)
            refine xk_iinc (lv' := [(4, .int (iI (l4 + 1))), (3, .int (iI (l3 + 0))), (0, .ref aa), (1, .ref ah), (2, .int (iI p2))]) hx hb dL_weighs_46 hl (k := 4) rfl (by decide) rfl (fun ls hl => ?_)
            refine lv_goto (tgt := 5) hx hb dL_weighs_49 (by decide) ?_
            exact ih5 (l3 + 0) (l4 + 1) hf ls (lv_sub hl [2, 3, 4, 1, 0] rfl)
        · have hf := c5f c5
          refine xk_iconst hx hb dL_weighs_43 ?_
          refine xk_iadd hx hb dL_weighs_44 ?_
          refine lv_istore_n (lv' := [(3, .int (iI (l3 + 0))), (0, .ref aa), (1, .ref ah), (2, .int (iI p2)), (4, .int (iI l4))]) hx hb dL_weighs_45 rfl hl (by decide) rfl (fun ls hl => ?_)
          refine xk_iinc (lv' := [(4, .int (iI (l4 + 1))), (3, .int (iI (l3 + 0))), (0, .ref aa), (1, .ref ah), (2, .int (iI p2))]) hx hb dL_weighs_46 hl (k := 4) rfl (by decide) rfl (fun ls hl => ?_)
          refine lv_goto (tgt := 5) hx hb dL_weighs_49 (by decide) ?_
          exact ih5 (l3 + 0) (l4 + 1) hf ls (lv_sub hl [2, 3, 4, 1, 0] rfl)
      · have hf := c3f c3
        refine lv_iload_n hx hb dL_weighs_52 rfl (lv_at hl 3 rfl) ?_
        obtain rfl := Option.some.inj hf
        exact xe_ri hx hb hr hlocks dL_weighs_53 rfl
  exact hL5  xFU 0 0 hf ls (lv_sub hl [2, 3, 4, 1, 0] rfl)
theorem cdL_weighs : yL_weighs.cls ≠ "java/lang/invoke/MethodHandle" ∧ yL_weighs.cls ≠ "java/lang/invoke/VarHandle" ∧ (parseMethodDescriptor yL_weighs.desc).map (fun d => d.parameters.length) = some 3 := by decide +kernel

set_option maxHeartbeats 8000000 in
set_option maxRecDepth 100000 in
theorem kL_ranked (l : Launch) (dC : Nat → ClassId) (dI : Nat → Nat → Nat) (cs : Nat → ClassId) (aa : Nat) (ah : Nat) (va : Int → Int) (vh : Int → Int) (p2 : Int) (p3 : Int) (p4 : Int) (res : Int) (hf : fL_ranked va vh p2 p3 p4 = some res) : Met l yL_ranked wsL_ranked ({ frames := 2, cells := 0, slots := 0, locals := 43 } : Room) (va_Pc [.ref aa, .ref ah, .int (iI p2), .int (iI p3), .int (iI p4)] (xPR (dC, dI) vwCl ((([[qcC cs aa 64 va], [qcC cs ah 8 vh]] : List va_W)).flatten) (xT cs))) (vp_Si (fun r => r = iI res)) 0 0 (fun _ => False) := by
  refine Met.ofW (cc := cL_ranked) (maxL := 9) (ret := (some .int)) (by decide) rfl ?_
  intro p e s m args below meth c s₁ B hml hv
  obtain ⟨rfl, hP, hK⟩ := hv
  have hx := B.exec
  have hb := B.bytes
  have hr := B.returns
  have hts := atoms_spec (ws := wsL_ranked) B.pre
  have hown : s.vm.findClass RL = some m.cls := findClass_of_methodNamed B.named
  have hlocks := B.notSynchronized
  have hl := lv_entry [.ref aa, .ref ah, .int (iI p2), .int (iI p3), .int (iI p4)] (n := 9) (Nat.le_of_ble_eq_true rfl)
  rw [lg_entry_eq]
  generalize (lg_sl [.ref aa, .ref ah, .int (iI p2), .int (iI p3), .int (iI p4)] ++ List.replicate (9 - (lg_sl [.ref aa, .ref ah, .int (iI p2), .int (iI p3), .int (iI p4)]).length) Slot.unset).toArray = ls at hl ⊢
  have hl : lv_has ls 9 [(0, .ref aa), (1, .ref ah), (2, .int (iI p2)), (3, .int (iI p3)), (4, .int (iI p4))] := hl
  unfold fL_ranked at hf
  refine xk_iconst hx hb dL_ranked_0 ?_
  refine lv_istore (lv' := [(5, .int (iI 0)), (0, .ref aa), (1, .ref ah), (2, .int (iI p2)), (3, .int (iI p3)), (4, .int (iI p4))]) hx hb dL_ranked_1 hl (by decide) rfl (fun ls hl => ?_)
  have hL3 : ∀ (n1 : Nat) (l5 : Int), fL_ranked_L3 va vh p2 p3 p4 n1 l5 = some res → ∀ (ls : Array Slot), lv_has ls 9 [(0, .ref aa), (1, .ref ah), (2, .int (iI p2)), (3, .int (iI p3)), (4, .int (iI p4)), (5, .int (iI l5))] → W p l e (headSpec wsL_ranked ({ frames := 2, cells := 0, slots := 0, locals := 43 } : Room)).room s m ([.ref aa, .ref ah, .int (iI p2), .int (iI p3), .int (iI p4)] : List Value).toArray below meth c s.heap [] 0 0 (MQ below (vp_Si (fun r => r = iI res)) ([.ref aa, .ref ah, .int (iI p2), .int (iI p3), .int (iI p4)] : List Value).toArray s 0 0 (fun _ => False)) (F0 m 3 ls []) := by
    intro  n1
    induction n1 with
    | zero => intro l5 hf; have hf : (none : Option (Int)) = some res := hf; cases hf
    | succ n1 ih3 =>
      intro l5 hf ls hl
      rw [fL_ranked_L3] at hf
      refine lv_iload hx hb dL_ranked_3 (lv_at hl 5 rfl) ?_
      refine lv_aload_n hx hb dL_ranked_5 rfl (lv_at hl 1 rfl) ?_
      refine xk_iconst hx hb dL_ranked_6 ?_
      obtain ⟨v2, ev2, hf⟩ := x_bind hf
      refine xk_iald (f := vh) hx hb hK hP 1 0 ev2 (by decide) rfl rfl dL_ranked_7 ?_
      obtain ⟨c3a, c3b, c3t, c3f⟩ := x_ltE hf
      refine xk_icmp_ge (tgt := 125) hx hb c3a c3b dL_ranked_8 (by decide) (fun c3 => ?_) (fun c3 => ?_)
      · have hf := c3t c3
        refine xk_iconst hx hb dL_ranked_11 ?_
        refine lv_istore (lv' := [(6, .int (iI 0)), (0, .ref aa), (1, .ref ah), (2, .int (iI p2)), (3, .int (iI p3)), (4, .int (iI p4)), (5, .int (iI l5))]) hx hb dL_ranked_12 hl (by decide) rfl (fun ls hl => ?_)
        refine lv_aload_n hx hb dL_ranked_14 rfl (lv_at hl 1 rfl) ?_
        refine lv_iload hx hb dL_ranked_15 (lv_at hl 6 rfl) ?_
        obtain ⟨v4, ev4, hf⟩ := x_bind hf
        refine xf_sri (As := [.ref aa, .int (iI l5)]) (rest := []) (wcs := ([[qcC cs aa 64 va]] : List va_W)) ⟨hx, hb, hml, hown, hts⟩ (kL_where l dC dI cs aa va l5 _ ev4) (va_cwS 2 hts gL_ranked_L_where rfl rfl rfl cdL_where ⟨Nat.le_of_ble_eq_true rfl, Nat.le_of_ble_eq_true rfl⟩) hK hP [0] rfl rfl rfl hl.1 rfl (Nat.le_of_ble_eq_true rfl) dL_ranked_17 ⟨Nat.zero_le _, Nat.zero_le _⟩ ?_
        refine lv_iload_n hx hb dL_ranked_20 rfl (lv_at hl 3 rfl) ?_
        obtain ⟨c5a, c5b, c5t, c5f⟩ := x_eqE hf
        refine xk_icmp_ne (tgt := 38) hx hb c5a c5b dL_ranked_21 (by decide) (fun c5 => ?_) (fun c5 => ?_)
        · have hf := c5t c5
          refine lv_aload_n hx hb dL_ranked_24 rfl (lv_at hl 1 rfl) ?_
          refine lv_iload hx hb dL_ranked_25 (lv_at hl 6 rfl) ?_
          obtain ⟨v6, ev6, hf⟩ := x_bind hf
          refine xf_sri (As := [.ref aa, .int (iI l5)]) (rest := []) (wcs := ([[qcC cs aa 64 va]] : List va_W)) ⟨hx, hb, hml, hown, hts⟩ (kL_run l dC dI cs aa va l5 _ ev6) (va_cwS 2 hts gL_ranked_L_run rfl rfl rfl cdL_run ⟨Nat.le_of_ble_eq_true rfl, Nat.le_of_ble_eq_true rfl⟩) hK hP [0] rfl rfl rfl hl.1 rfl (Nat.le_of_ble_eq_true rfl) dL_ranked_27 ⟨Nat.zero_le _, Nat.zero_le _⟩ ?_
          refine lv_iload_n hx hb dL_ranked_30 rfl (lv_at hl 4 rfl) ?_
          obtain ⟨c7a, c7b, c7t, c7f⟩ := x_eqE hf
          refine xk_icmp_ne (tgt := 38) hx hb c7a c7b dL_ranked_31 (by decide) (fun c7 => ?_) (fun c7 => ?_)
          · have hf := c7t c7
            refine xk_iconst hx hb dL_ranked_34 ?_
            refine lv_goto (tgt := 39) hx hb dL_ranked_35 (by decide) ?_
            refine lv_istore (lv' := [(7, .int (iI 1)), (6, .int (iI 0)), (0, .ref aa), (1, .ref ah), (2, .int (iI p2)), (3, .int (iI p3)), (4, .int (iI p4)), (5, .int (iI l5))]) hx hb dL_ranked_39 hl (by decide) rfl (fun ls hl => ?_)
            refine xk_iconst hx hb dL_ranked_41 ?_
            refine lv_istore (lv' := [(8, .int (iI 0)), (7, .int (iI 1)), (6, .int (iI 0)), (0, .ref aa), (1, .ref ah), (2, .int (iI p2)), (3, .int (iI p3)), (4, .int (iI p4)), (5, .int (iI l5))]) hx hb dL_ranked_42 hl (by decide) rfl (fun ls hl => ?_)
            have hL44 : ∀ (k7 : Int) (n145 : Nat) (l6 : Int) (l8 : Int), fL_ranked_L44 va vh p2 p3 p4 l5 k7 (fL_ranked_L3 va vh p2 p3 p4 n1) n145 l6 l8 = some res → ∀ (ls : Array Slot), lv_has ls 9 [(0, .ref aa), (1, .ref ah), (2, .int (iI p2)), (3, .int (iI p3)), (4, .int (iI p4)), (5, .int (iI l5)), (6, .int (iI l6)), (7, .int (iI k7)), (8, .int (iI l8))] → W p l e (headSpec wsL_ranked ({ frames := 2, cells := 0, slots := 0, locals := 43 } : Room)).room s m ([.ref aa, .ref ah, .int (iI p2), .int (iI p3), .int (iI p4)] : List Value).toArray below meth c s.heap [] 0 0 (MQ below (vp_Si (fun r => r = iI res)) ([.ref aa, .ref ah, .int (iI p2), .int (iI p3), .int (iI p4)] : List Value).toArray s 0 0 (fun _ => False)) (F0 m 44 ls []) := by
              intro k7 n145
              induction n145 with
              | zero => intro l6 l8 hf; have hf : (none : Option (Int)) = some res := hf; cases hf
              | succ n145 ih44 =>
                intro l6 l8 hf ls hl
                rw [fL_ranked_L44] at hf
                refine lv_iload hx hb dL_ranked_44 (lv_at hl 8 rfl) ?_
                refine lv_aload_n hx hb dL_ranked_46 rfl (lv_at hl 1 rfl) ?_
                refine xk_iconst hx hb dL_ranked_47 ?_
                obtain ⟨v146, ev146, hf⟩ := x_bind hf
                refine xk_iald (f := vh) hx hb hK hP 1 0 ev146 (by decide) rfl rfl dL_ranked_48 ?_
                obtain ⟨c147a, c147b, c147t, c147f⟩ := x_ltE hf
                refine xk_icmp_ge (tgt := 104) hx hb c147a c147b dL_ranked_49 (by decide) (fun c147 => ?_) (fun c147 => ?_)
                · have hf := c147t c147
                  refine lv_iload hx hb dL_ranked_52 (lv_at hl 7 rfl) ?_
                  obtain ⟨c148a, c148b, c148t, c148f⟩ := x_eqE hf
                  refine xk_if_eq (tgt := 104) hx hb c148a dL_ranked_54 (by decide) (fun c148 => ?_) (fun c148 => ?_)
                  · have hf := c148t c148
                    refine lv_iload hx hb dL_ranked_104 (lv_at hl 7 rfl) ?_
                    obtain ⟨c149a, c149b, c149t, c149f⟩ := x_eqE hf
                    refine xk_if_eq (tgt := 119) hx hb c149a dL_ranked_106 (by decide) (fun c149 => ?_) (fun c149 => ?_)
                    · have hf := c149t c149
                      refine xk_iinc (lv' := [(5, .int (iI (l5 + 1))), (0, .ref aa), (1, .ref ah), (2, .int (iI p2)), (3, .int (iI p3)), (4, .int (iI p4)), (6, .int (iI l6)), (7, .int (iI k7)), (8, .int (iI l8))]) hx hb dL_ranked_119 hl (k := 5) rfl (by decide) rfl (fun ls hl => ?_)
                      refine lv_goto (tgt := 3) hx hb dL_ranked_122 (by decide) ?_
                      exact ih3 (l5 + 1) hf ls (lv_sub hl [1, 2, 3, 4, 5, 0] rfl)
                    · have hf := c149f c149
                      refine lv_iload hx hb dL_ranked_109 (lv_at hl 6 rfl) ?_
                      refine lv_iload hx hb dL_ranked_111 (lv_at hl 4 rfl) ?_
                      obtain ⟨c150a, c150b, c150t, c150f⟩ := x_eqE hf
                      refine xk_icmp_ne (tgt := 119) hx hb c150a c150b dL_ranked_113 (by decide) (fun c150 => ?_) (fun c150 => ?_)
                      · have hf := c150t c150
                        refine lv_iload hx hb dL_ranked_116 (lv_at hl 5 rfl) ?_
                        obtain rfl := Option.some.inj hf
                        exact xe_ri hx hb hr hlocks dL_ranked_118 rfl
                      · have hf := c150f c150
                        refine xk_iinc (lv' := [(5, .int (iI (l5 + 1))), (0, .ref aa), (1, .ref ah), (2, .int (iI p2)), (3, .int (iI p3)), (4, .int (iI p4)), (6, .int (iI l6)), (7, .int (iI k7)), (8, .int (iI l8))]) hx hb dL_ranked_119 hl (k := 5) rfl (by decide) rfl (fun ls hl => ?_)
                        refine lv_goto (tgt := 3) hx hb dL_ranked_122 (by decide) ?_
                        exact ih3 (l5 + 1) hf ls (lv_sub hl [1, 2, 3, 4, 5, 0] rfl)
                  · have hf := c148f c148
                    refine lv_iload hx hb dL_ranked_57 (lv_at hl 6 rfl) ?_
                    refine lv_aload_n hx hb dL_ranked_59 rfl (lv_at hl 0 rfl) ?_
                    refine lv_iload hx hb dL_ranked_60 (lv_at hl 8 rfl) ?_
                    obtain ⟨v151, ev151, hf⟩ := x_bind hf
                    refine xf_sri (As := [.ref aa, .int (iI l8)]) (rest := [.int (iI l6)]) (wcs := ([[qcC cs aa 64 va]] : List va_W)) ⟨hx, hb, hml, hown, hts⟩ (kL_where l dC dI cs aa va l8 _ ev151) (va_cwS 2 hts gL_ranked_L_where rfl rfl rfl cdL_where ⟨Nat.le_of_ble_eq_true rfl, Nat.le_of_ble_eq_true rfl⟩) hK hP [0] rfl rfl rfl hl.1 rfl (Nat.le_of_ble_eq_true rfl) dL_ranked_62 ⟨Nat.zero_le _, Nat.zero_le _⟩ ?_
                    refine lv_iload_n hx hb dL_ranked_65 rfl (lv_at hl 2 rfl) ?_
                    obtain ⟨c152a, c152b, c152t, c152f⟩ := x_eqE hf
                    refine xk_icmp_ne (tgt := 94) hx hb c152a c152b dL_ranked_66 (by decide) (fun c152 => ?_) (fun c152 => ?_)
                    · have hf := c152t c152
                      refine lv_aload_n hx hb dL_ranked_69 rfl (lv_at hl 0 rfl) ?_
                      refine lv_iload hx hb dL_ranked_70 (lv_at hl 8 rfl) ?_
                      obtain ⟨v153, ev153, hf⟩ := x_bind hf
                      refine xf_sri (As := [.ref aa, .int (iI l8)]) (rest := [.int (iI l6)]) (wcs := ([[qcC cs aa 64 va]] : List va_W)) ⟨hx, hb, hml, hown, hts⟩ (kL_run l dC dI cs aa va l8 _ ev153) (va_cwS 2 hts gL_ranked_L_run rfl rfl rfl cdL_run ⟨Nat.le_of_ble_eq_true rfl, Nat.le_of_ble_eq_true rfl⟩) hK hP [0] rfl rfl rfl hl.1 rfl (Nat.le_of_ble_eq_true rfl) dL_ranked_72 ⟨Nat.zero_le _, Nat.zero_le _⟩ ?_
                      refine lv_iload_n hx hb dL_ranked_75 rfl (lv_at hl 3 rfl) ?_
                      obtain ⟨c154a, c154b, c154t, c154f⟩ := x_eqE hf
                      refine xk_icmp_ne (tgt := 94) hx hb c154a c154b dL_ranked_76 (by decide) (fun c154 => ?_) (fun c154 => ?_)
                      · have hf := c154t c154
                        refine lv_aload_n hx hb dL_ranked_79 rfl (lv_at hl 0 rfl) ?_
                        refine lv_iload hx hb dL_ranked_80 (lv_at hl 8 rfl) ?_
                        refine lv_iload hx hb dL_ranked_82 (lv_at hl 5 rfl) ?_
                        obtain ⟨v155, ev155, hf⟩ := x_bind hf
                        refine xf_sri (As := [.ref aa, .int (iI l8), .int (iI l5)]) (rest := [.int (iI l6)]) (wcs := ([[qcC cs aa 64 va]] : List va_W)) ⟨hx, hb, hml, hown, hts⟩ (kL_isLess l dC dI cs aa va l8 l5 _ ev155) (va_cwS 3 hts gL_ranked_L_isLess rfl rfl rfl cdL_isLess ⟨Nat.le_of_ble_eq_true rfl, Nat.le_of_ble_eq_true rfl⟩) hK hP [0] rfl rfl rfl hl.1 rfl (Nat.le_of_ble_eq_true rfl) dL_ranked_84 ⟨Nat.zero_le _, Nat.zero_le _⟩ ?_
                        obtain ⟨c156a, c156b, c156t, c156f⟩ := x_eqE hf
                        refine xk_if_eq (tgt := 94) hx hb c156a dL_ranked_87 (by decide) (fun c156 => ?_) (fun c156 => ?_)
                        · have hf := c156t c156
                          refine xk_iconst hx hb dL_ranked_94 ?_
                          refine xk_iadd hx hb dL_ranked_95 ?_
                          refine lv_istore (lv' := [(6, .int (iI (l6 + 0))), (0, .ref aa), (1, .ref ah), (2, .int (iI p2)), (3, .int (iI p3)), (4, .int (iI p4)), (5, .int (iI l5)), (7, .int (iI k7)), (8, .int (iI l8))]) hx hb dL_ranked_96 hl (by decide) rfl (fun ls hl => ?_)
                          refine xk_iinc (lv' := [(8, .int (iI (l8 + 1))), (6, .int (iI (l6 + 0))), (0, .ref aa), (1, .ref ah), (2, .int (iI p2)), (3, .int (iI p3)), (4, .int (iI p4)), (5, .int (iI l5)), (7, .int (iI k7))]) hx hb dL_ranked_98 hl (k := 8) rfl (by decide) rfl (fun ls hl => ?_)
                          refine lv_goto (tgt := 44) hx hb dL_ranked_101 (by decide) ?_
                          exact ih44 (l6 + 0) (l8 + 1) hf ls (lv_sub hl [2, 3, 4, 5, 6, 7, 1, 8, 0] rfl)
                        · have hf := c156f c156
                          refine xk_iconst hx hb dL_ranked_90 ?_
                          refine lv_goto (tgt := 95) hx hb dL_ranked_91 (by decide) ?_
                          refine xk_iadd hx hb dL_ranked_95 ?_
                          refine lv_istore (lv' := [(6, .int (iI (l6 + 1))), (0, .ref aa), (1, .ref ah), (2, .int (iI p2)), (3, .int (iI p3)), (4, .int (iI p4)), (5, .int (iI l5)), (7, .int (iI k7)), (8, .int (iI l8))]) hx hb dL_ranked_96 hl (by decide) rfl (fun ls hl => ?_)
                          refine xk_iinc (lv' := [(8, .int (iI (l8 + 1))), (6, .int (iI (l6 + 1))), (0, .ref aa), (1, .ref ah), (2, .int (iI p2)), (3, .int (iI p3)), (4, .int (iI p4)), (5, .int (iI l5)), (7, .int (iI k7))]) hx hb dL_ranked_98 hl (k := 8) rfl (by decide) rfl (fun ls hl => ?_)
                          refine lv_goto (tgt := 44) hx hb dL_ranked_101 (by decide) ?_
                          exact ih44 (l6 + 1) (l8 + 1) hf ls (lv_sub hl [2, 3, 4, 5, 6, 7, 1, 8, 0] rfl)
                      · have hf := c154f c154
                        refine xk_iconst hx hb dL_ranked_94 ?_
                        refine xk_iadd hx hb dL_ranked_95 ?_
                        refine lv_istore (lv' := [(6, .int (iI (l6 + 0))), (0, .ref aa), (1, .ref ah), (2, .int (iI p2)), (3, .int (iI p3)), (4, .int (iI p4)), (5, .int (iI l5)), (7, .int (iI k7)), (8, .int (iI l8))]) hx hb dL_ranked_96 hl (by decide) rfl (fun ls hl => ?_)
                        refine xk_iinc (lv' := [(8, .int (iI (l8 + 1))), (6, .int (iI (l6 + 0))), (0, .ref aa), (1, .ref ah), (2, .int (iI p2)), (3, .int (iI p3)), (4, .int (iI p4)), (5, .int (iI l5)), (7, .int (iI k7))]) hx hb dL_ranked_98 hl (k := 8) rfl (by decide) rfl (fun ls hl => ?_)
                        refine lv_goto (tgt := 44) hx hb dL_ranked_101 (by decide) ?_
                        exact ih44 (l6 + 0) (l8 + 1) hf ls (lv_sub hl [2, 3, 4, 5, 6, 7, 1, 8, 0] rfl)
                    · have hf := c152f c152
                      refine xk_iconst hx hb dL_ranked_94 ?_
                      refine xk_iadd hx hb dL_ranked_95 ?_
                      refine lv_istore (lv' := [(6, .int (iI (l6 + 0))), (0, .ref aa), (1, .ref ah), (2, .int (iI p2)), (3, .int (iI p3)), (4, .int (iI p4)), (5, .int (iI l5)), (7, .int (iI k7)), (8, .int (iI l8))]) hx hb dL_ranked_96 hl (by decide) rfl (fun ls hl => ?_)
                      refine xk_iinc (lv' := [(8, .int (iI (l8 + 1))), (6, .int (iI (l6 + 0))), (0, .ref aa), (1, .ref ah), (2, .int (iI p2)), (3, .int (iI p3)), (4, .int (iI p4)), (5, .int (iI l5)), (7, .int (iI k7))]) hx hb dL_ranked_98 hl (k := 8) rfl (by decide) rfl (fun ls hl => ?_)
                      refine lv_goto (tgt := 44) hx hb dL_ranked_101 (by decide) ?_
                      exact ih44 (l6 + 0) (l8 + 1) hf ls (lv_sub hl [2, 3, 4, 5, 6, 7, 1, 8, 0] rfl)
                · have hf := c147f c147
                  refine lv_iload hx hb dL_ranked_104 (lv_at hl 7 rfl) ?_
                  obtain ⟨c157a, c157b, c157t, c157f⟩ := x_eqE hf
                  refine xk_if_eq (tgt := 119) hx hb c157a dL_ranked_106 (by decide) (fun c157 => ?_) (fun c157 => ?_)
                  · have hf := c157t c157
                    refine xk_iinc (lv' := [(5, .int (iI (l5 + 1))), (0, .ref aa), (1, .ref ah), (2, .int (iI p2)), (3, .int (iI p3)), (4, .int (iI p4)), (6, .int (iI l6)), (7, .int (iI k7)), (8, .int (iI l8))]) hx hb dL_ranked_119 hl (k := 5) rfl (by decide) rfl (fun ls hl => ?_)
                    refine lv_goto (tgt := 3) hx hb dL_ranked_122 (by decide) ?_
                    exact ih3 (l5 + 1) hf ls (lv_sub hl [1, 2, 3, 4, 5, 0] rfl)
                  · have hf := c157f c157
                    refine lv_iload hx hb dL_ranked_109 (lv_at hl 6 rfl) ?_
                    refine lv_iload hx hb dL_ranked_111 (lv_at hl 4 rfl) ?_
                    obtain ⟨c158a, c158b, c158t, c158f⟩ := x_eqE hf
                    refine xk_icmp_ne (tgt := 119) hx hb c158a c158b dL_ranked_113 (by decide) (fun c158 => ?_) (fun c158 => ?_)
                    · have hf := c158t c158
                      refine lv_iload hx hb dL_ranked_116 (lv_at hl 5 rfl) ?_
                      obtain rfl := Option.some.inj hf
                      exact xe_ri hx hb hr hlocks dL_ranked_118 rfl
                    · have hf := c158f c158
                      refine xk_iinc (lv' := [(5, .int (iI (l5 + 1))), (0, .ref aa), (1, .ref ah), (2, .int (iI p2)), (3, .int (iI p3)), (4, .int (iI p4)), (6, .int (iI l6)), (7, .int (iI k7)), (8, .int (iI l8))]) hx hb dL_ranked_119 hl (k := 5) rfl (by decide) rfl (fun ls hl => ?_)
                      refine lv_goto (tgt := 3) hx hb dL_ranked_122 (by decide) ?_
                      exact ih3 (l5 + 1) hf ls (lv_sub hl [1, 2, 3, 4, 5, 0] rfl)
            exact hL44 1 xFU 0 0 hf ls (lv_sub hl [3, 4, 5, 6, 7, 8, 2, 1, 0] rfl)
          · have hf := c7f c7
            refine xk_iconst hx hb dL_ranked_38 ?_
            refine lv_istore (lv' := [(7, .int (iI 0)), (6, .int (iI 0)), (0, .ref aa), (1, .ref ah), (2, .int (iI p2)), (3, .int (iI p3)), (4, .int (iI p4)), (5, .int (iI l5))]) hx hb dL_ranked_39 hl (by decide) rfl (fun ls hl => ?_)
            refine xk_iconst hx hb dL_ranked_41 ?_
            refine lv_istore (lv' := [(8, .int (iI 0)), (7, .int (iI 0)), (6, .int (iI 0)), (0, .ref aa), (1, .ref ah), (2, .int (iI p2)), (3, .int (iI p3)), (4, .int (iI p4)), (5, .int (iI l5))]) hx hb dL_ranked_42 hl (by decide) rfl (fun ls hl => ?_)
            have hL44 : ∀ (k7 : Int) (n145 : Nat) (l6 : Int) (l8 : Int), fL_ranked_L44 va vh p2 p3 p4 l5 k7 (fL_ranked_L3 va vh p2 p3 p4 n1) n145 l6 l8 = some res → ∀ (ls : Array Slot), lv_has ls 9 [(0, .ref aa), (1, .ref ah), (2, .int (iI p2)), (3, .int (iI p3)), (4, .int (iI p4)), (5, .int (iI l5)), (6, .int (iI l6)), (7, .int (iI k7)), (8, .int (iI l8))] → W p l e (headSpec wsL_ranked ({ frames := 2, cells := 0, slots := 0, locals := 43 } : Room)).room s m ([.ref aa, .ref ah, .int (iI p2), .int (iI p3), .int (iI p4)] : List Value).toArray below meth c s.heap [] 0 0 (MQ below (vp_Si (fun r => r = iI res)) ([.ref aa, .ref ah, .int (iI p2), .int (iI p3), .int (iI p4)] : List Value).toArray s 0 0 (fun _ => False)) (F0 m 44 ls []) := by
              intro k7 n145
              induction n145 with
              | zero => intro l6 l8 hf; have hf : (none : Option (Int)) = some res := hf; cases hf
              | succ n145 ih44 =>
                intro l6 l8 hf ls hl
                rw [fL_ranked_L44] at hf
                refine lv_iload hx hb dL_ranked_44 (lv_at hl 8 rfl) ?_
                refine lv_aload_n hx hb dL_ranked_46 rfl (lv_at hl 1 rfl) ?_
                refine xk_iconst hx hb dL_ranked_47 ?_
                obtain ⟨v146, ev146, hf⟩ := x_bind hf
                refine xk_iald (f := vh) hx hb hK hP 1 0 ev146 (by decide) rfl rfl dL_ranked_48 ?_
                obtain ⟨c147a, c147b, c147t, c147f⟩ := x_ltE hf
                refine xk_icmp_ge (tgt := 104) hx hb c147a c147b dL_ranked_49 (by decide) (fun c147 => ?_) (fun c147 => ?_)
                · have hf := c147t c147
                  refine lv_iload hx hb dL_ranked_52 (lv_at hl 7 rfl) ?_
                  obtain ⟨c148a, c148b, c148t, c148f⟩ := x_eqE hf
                  refine xk_if_eq (tgt := 104) hx hb c148a dL_ranked_54 (by decide) (fun c148 => ?_) (fun c148 => ?_)
                  · have hf := c148t c148
                    refine lv_iload hx hb dL_ranked_104 (lv_at hl 7 rfl) ?_
                    obtain ⟨c149a, c149b, c149t, c149f⟩ := x_eqE hf
                    refine xk_if_eq (tgt := 119) hx hb c149a dL_ranked_106 (by decide) (fun c149 => ?_) (fun c149 => ?_)
                    · have hf := c149t c149
                      refine xk_iinc (lv' := [(5, .int (iI (l5 + 1))), (0, .ref aa), (1, .ref ah), (2, .int (iI p2)), (3, .int (iI p3)), (4, .int (iI p4)), (6, .int (iI l6)), (7, .int (iI k7)), (8, .int (iI l8))]) hx hb dL_ranked_119 hl (k := 5) rfl (by decide) rfl (fun ls hl => ?_)
                      refine lv_goto (tgt := 3) hx hb dL_ranked_122 (by decide) ?_
                      exact ih3 (l5 + 1) hf ls (lv_sub hl [1, 2, 3, 4, 5, 0] rfl)
                    · have hf := c149f c149
                      refine lv_iload hx hb dL_ranked_109 (lv_at hl 6 rfl) ?_
                      refine lv_iload hx hb dL_ranked_111 (lv_at hl 4 rfl) ?_
                      obtain ⟨c150a, c150b, c150t, c150f⟩ := x_eqE hf
                      refine xk_icmp_ne (tgt := 119) hx hb c150a c150b dL_ranked_113 (by decide) (fun c150 => ?_) (fun c150 => ?_)
                      · have hf := c150t c150
                        refine lv_iload hx hb dL_ranked_116 (lv_at hl 5 rfl) ?_
                        obtain rfl := Option.some.inj hf
                        exact xe_ri hx hb hr hlocks dL_ranked_118 rfl
                      · have hf := c150f c150
                        refine xk_iinc (lv' := [(5, .int (iI (l5 + 1))), (0, .ref aa), (1, .ref ah), (2, .int (iI p2)), (3, .int (iI p3)), (4, .int (iI p4)), (6, .int (iI l6)), (7, .int (iI k7)), (8, .int (iI l8))]) hx hb dL_ranked_119 hl (k := 5) rfl (by decide) rfl (fun ls hl => ?_)
                        refine lv_goto (tgt := 3) hx hb dL_ranked_122 (by decide) ?_
                        exact ih3 (l5 + 1) hf ls (lv_sub hl [1, 2, 3, 4, 5, 0] rfl)
                  · have hf := c148f c148
                    refine lv_iload hx hb dL_ranked_57 (lv_at hl 6 rfl) ?_
                    refine lv_aload_n hx hb dL_ranked_59 rfl (lv_at hl 0 rfl) ?_
                    refine lv_iload hx hb dL_ranked_60 (lv_at hl 8 rfl) ?_
                    obtain ⟨v151, ev151, hf⟩ := x_bind hf
                    refine xf_sri (As := [.ref aa, .int (iI l8)]) (rest := [.int (iI l6)]) (wcs := ([[qcC cs aa 64 va]] : List va_W)) ⟨hx, hb, hml, hown, hts⟩ (kL_where l dC dI cs aa va l8 _ ev151) (va_cwS 2 hts gL_ranked_L_where rfl rfl rfl cdL_where ⟨Nat.le_of_ble_eq_true rfl, Nat.le_of_ble_eq_true rfl⟩) hK hP [0] rfl rfl rfl hl.1 rfl (Nat.le_of_ble_eq_true rfl) dL_ranked_62 ⟨Nat.zero_le _, Nat.zero_le _⟩ ?_
                    refine lv_iload_n hx hb dL_ranked_65 rfl (lv_at hl 2 rfl) ?_
                    obtain ⟨c152a, c152b, c152t, c152f⟩ := x_eqE hf
                    refine xk_icmp_ne (tgt := 94) hx hb c152a c152b dL_ranked_66 (by decide) (fun c152 => ?_) (fun c152 => ?_)
                    · have hf := c152t c152
                      refine lv_aload_n hx hb dL_ranked_69 rfl (lv_at hl 0 rfl) ?_
                      refine lv_iload hx hb dL_ranked_70 (lv_at hl 8 rfl) ?_
                      obtain ⟨v153, ev153, hf⟩ := x_bind hf
                      refine xf_sri (As := [.ref aa, .int (iI l8)]) (rest := [.int (iI l6)]) (wcs := ([[qcC cs aa 64 va]] : List va_W)) ⟨hx, hb, hml, hown, hts⟩ (kL_run l dC dI cs aa va l8 _ ev153) (va_cwS 2 hts gL_ranked_L_run rfl rfl rfl cdL_run ⟨Nat.le_of_ble_eq_true rfl, Nat.le_of_ble_eq_true rfl⟩) hK hP [0] rfl rfl rfl hl.1 rfl (Nat.le_of_ble_eq_true rfl) dL_ranked_72 ⟨Nat.zero_le _, Nat.zero_le _⟩ ?_
                      refine lv_iload_n hx hb dL_ranked_75 rfl (lv_at hl 3 rfl) ?_
                      obtain ⟨c154a, c154b, c154t, c154f⟩ := x_eqE hf
                      refine xk_icmp_ne (tgt := 94) hx hb c154a c154b dL_ranked_76 (by decide) (fun c154 => ?_) (fun c154 => ?_)
                      · have hf := c154t c154
                        refine lv_aload_n hx hb dL_ranked_79 rfl (lv_at hl 0 rfl) ?_
                        refine lv_iload hx hb dL_ranked_80 (lv_at hl 8 rfl) ?_
                        refine lv_iload hx hb dL_ranked_82 (lv_at hl 5 rfl) ?_
                        obtain ⟨v155, ev155, hf⟩ := x_bind hf
                        refine xf_sri (As := [.ref aa, .int (iI l8), .int (iI l5)]) (rest := [.int (iI l6)]) (wcs := ([[qcC cs aa 64 va]] : List va_W)) ⟨hx, hb, hml, hown, hts⟩ (kL_isLess l dC dI cs aa va l8 l5 _ ev155) (va_cwS 3 hts gL_ranked_L_isLess rfl rfl rfl cdL_isLess ⟨Nat.le_of_ble_eq_true rfl, Nat.le_of_ble_eq_true rfl⟩) hK hP [0] rfl rfl rfl hl.1 rfl (Nat.le_of_ble_eq_true rfl) dL_ranked_84 ⟨Nat.zero_le _, Nat.zero_le _⟩ ?_
                        obtain ⟨c156a, c156b, c156t, c156f⟩ := x_eqE hf
                        refine xk_if_eq (tgt := 94) hx hb c156a dL_ranked_87 (by decide) (fun c156 => ?_) (fun c156 => ?_)
                        · have hf := c156t c156
                          refine xk_iconst hx hb dL_ranked_94 ?_
                          refine xk_iadd hx hb dL_ranked_95 ?_
                          refine lv_istore (lv' := [(6, .int (iI (l6 + 0))), (0, .ref aa), (1, .ref ah), (2, .int (iI p2)), (3, .int (iI p3)), (4, .int (iI p4)), (5, .int (iI l5)), (7, .int (iI k7)), (8, .int (iI l8))]) hx hb dL_ranked_96 hl (by decide) rfl (fun ls hl => ?_)
                          refine xk_iinc (lv' := [(8, .int (iI (l8 + 1))), (6, .int (iI (l6 + 0))), (0, .ref aa), (1, .ref ah), (2, .int (iI p2)), (3, .int (iI p3)), (4, .int (iI p4)), (5, .int (iI l5)), (7, .int (iI k7))]) hx hb dL_ranked_98 hl (k := 8) rfl (by decide) rfl (fun ls hl => ?_)
                          refine lv_goto (tgt := 44) hx hb dL_ranked_101 (by decide) ?_
                          exact ih44 (l6 + 0) (l8 + 1) hf ls (lv_sub hl [2, 3, 4, 5, 6, 7, 1, 8, 0] rfl)
                        · have hf := c156f c156
                          refine xk_iconst hx hb dL_ranked_90 ?_
                          refine lv_goto (tgt := 95) hx hb dL_ranked_91 (by decide) ?_
                          refine xk_iadd hx hb dL_ranked_95 ?_
                          refine lv_istore (lv' := [(6, .int (iI (l6 + 1))), (0, .ref aa), (1, .ref ah), (2, .int (iI p2)), (3, .int (iI p3)), (4, .int (iI p4)), (5, .int (iI l5)), (7, .int (iI k7)), (8, .int (iI l8))]) hx hb dL_ranked_96 hl (by decide) rfl (fun ls hl => ?_)
                          refine xk_iinc (lv' := [(8, .int (iI (l8 + 1))), (6, .int (iI (l6 + 1))), (0, .ref aa), (1, .ref ah), (2, .int (iI p2)), (3, .int (iI p3)), (4, .int (iI p4)), (5, .int (iI l5)), (7, .int (iI k7))]) hx hb dL_ranked_98 hl (k := 8) rfl (by decide) rfl (fun ls hl => ?_)
                          refine lv_goto (tgt := 44) hx hb dL_ranked_101 (by decide) ?_
                          exact ih44 (l6 + 1) (l8 + 1) hf ls (lv_sub hl [2, 3, 4, 5, 6, 7, 1, 8, 0] rfl)
                      · have hf := c154f c154
                        refine xk_iconst hx hb dL_ranked_94 ?_
                        refine xk_iadd hx hb dL_ranked_95 ?_
                        refine lv_istore (lv' := [(6, .int (iI (l6 + 0))), (0, .ref aa), (1, .ref ah), (2, .int (iI p2)), (3, .int (iI p3)), (4, .int (iI p4)), (5, .int (iI l5)), (7, .int (iI k7)), (8, .int (iI l8))]) hx hb dL_ranked_96 hl (by decide) rfl (fun ls hl => ?_)
                        refine xk_iinc (lv' := [(8, .int (iI (l8 + 1))), (6, .int (iI (l6 + 0))), (0, .ref aa), (1, .ref ah), (2, .int (iI p2)), (3, .int (iI p3)), (4, .int (iI p4)), (5, .int (iI l5)), (7, .int (iI k7))]) hx hb dL_ranked_98 hl (k := 8) rfl (by decide) rfl (fun ls hl => ?_)
                        refine lv_goto (tgt := 44) hx hb dL_ranked_101 (by decide) ?_
                        exact ih44 (l6 + 0) (l8 + 1) hf ls (lv_sub hl [2, 3, 4, 5, 6, 7, 1, 8, 0] rfl)
                    · have hf := c152f c152
                      refine xk_iconst hx hb dL_ranked_94 ?_
                      refine xk_iadd hx hb dL_ranked_95 ?_
                      refine lv_istore (lv' := [(6, .int (iI (l6 + 0))), (0, .ref aa), (1, .ref ah), (2, .int (iI p2)), (3, .int (iI p3)), (4, .int (iI p4)), (5, .int (iI l5)), (7, .int (iI k7)), (8, .int (iI l8))]) hx hb dL_ranked_96 hl (by decide) rfl (fun ls hl => ?_)
                      refine xk_iinc (lv' := [(8, .int (iI (l8 + 1))), (6, .int (iI (l6 + 0))), (0, .ref aa), (1, .ref ah), (2, .int (iI p2)), (3, .int (iI p3)), (4, .int (iI p4)), (5, .int (iI l5)), (7, .int (iI k7))]) hx hb dL_ranked_98 hl (k := 8) rfl (by decide) rfl (fun ls hl => ?_)
                      refine lv_goto (tgt := 44) hx hb dL_ranked_101 (by decide) ?_
                      exact ih44 (l6 + 0) (l8 + 1) hf ls (lv_sub hl [2, 3, 4, 5, 6, 7, 1, 8, 0] rfl)
                · have hf := c147f c147
                  refine lv_iload hx hb dL_ranked_104 (lv_at hl 7 rfl) ?_
                  obtain ⟨c157a, c157b, c157t, c157f⟩ := x_eqE hf
                  refine xk_if_eq (tgt := 119) hx hb c157a dL_ranked_106 (by decide) (fun c157 => ?_) (fun c157 => ?_)
                  · have hf := c157t c157
                    refine xk_iinc (lv' := [(5, .int (iI (l5 + 1))), (0, .ref aa), (1, .ref ah), (2, .int (iI p2)), (3, .int (iI p3)), (4, .int (iI p4)), (6, .int (iI l6)), (7, .int (iI k7)), (8, .int (iI l8))]) hx hb dL_ranked_119 hl (k := 5) rfl (by decide) rfl (fun ls hl => ?_)
                    refine lv_goto (tgt := 3) hx hb dL_ranked_122 (by decide) ?_
                    exact ih3 (l5 + 1) hf ls (lv_sub hl [1, 2, 3, 4, 5, 0] rfl)
                  · have hf := c157f c157
                    refine lv_iload hx hb dL_ranked_109 (lv_at hl 6 rfl) ?_
                    refine lv_iload hx hb dL_ranked_111 (lv_at hl 4 rfl) ?_
                    obtain ⟨c158a, c158b, c158t, c158f⟩ := x_eqE hf
                    refine xk_icmp_ne (tgt := 119) hx hb c158a c158b dL_ranked_113 (by decide) (fun c158 => ?_) (fun c158 => ?_)
                    · have hf := c158t c158
                      refine lv_iload hx hb dL_ranked_116 (lv_at hl 5 rfl) ?_
                      obtain rfl := Option.some.inj hf
                      exact xe_ri hx hb hr hlocks dL_ranked_118 rfl
                    · have hf := c158f c158
                      refine xk_iinc (lv' := [(5, .int (iI (l5 + 1))), (0, .ref aa), (1, .ref ah), (2, .int (iI p2)), (3, .int (iI p3)), (4, .int (iI p4)), (6, .int (iI l6)), (7, .int (iI k7)), (8, .int (iI l8))]) hx hb dL_ranked_119 hl (k := 5) rfl (by decide) rfl (fun ls hl => ?_)
                      refine lv_goto (tgt := 3) hx hb dL_ranked_122 (by decide) ?_
                      exact ih3 (l5 + 1) hf ls (lv_sub hl [1, 2, 3, 4, 5, 0] rfl)
            exact hL44 0 xFU 0 0 hf ls (lv_sub hl [3, 4, 5, 6, 7, 8, 2, 1, 0] rfl)
        · have hf := c5f c5
          refine xk_iconst hx hb dL_ranked_38 ?_
          refine lv_istore (lv' := [(7, .int (iI 0)), (6, .int (iI 0)), (0, .ref aa), (1, .ref ah), (2, .int (iI p2)), (3, .int (iI p3)), (4, .int (iI p4)), (5, .int (iI l5))]) hx hb dL_ranked_39 hl (by decide) rfl (fun ls hl => ?_)
          refine xk_iconst hx hb dL_ranked_41 ?_
          refine lv_istore (lv' := [(8, .int (iI 0)), (7, .int (iI 0)), (6, .int (iI 0)), (0, .ref aa), (1, .ref ah), (2, .int (iI p2)), (3, .int (iI p3)), (4, .int (iI p4)), (5, .int (iI l5))]) hx hb dL_ranked_42 hl (by decide) rfl (fun ls hl => ?_)
          have hL44 : ∀ (k7 : Int) (n145 : Nat) (l6 : Int) (l8 : Int), fL_ranked_L44 va vh p2 p3 p4 l5 k7 (fL_ranked_L3 va vh p2 p3 p4 n1) n145 l6 l8 = some res → ∀ (ls : Array Slot), lv_has ls 9 [(0, .ref aa), (1, .ref ah), (2, .int (iI p2)), (3, .int (iI p3)), (4, .int (iI p4)), (5, .int (iI l5)), (6, .int (iI l6)), (7, .int (iI k7)), (8, .int (iI l8))] → W p l e (headSpec wsL_ranked ({ frames := 2, cells := 0, slots := 0, locals := 43 } : Room)).room s m ([.ref aa, .ref ah, .int (iI p2), .int (iI p3), .int (iI p4)] : List Value).toArray below meth c s.heap [] 0 0 (MQ below (vp_Si (fun r => r = iI res)) ([.ref aa, .ref ah, .int (iI p2), .int (iI p3), .int (iI p4)] : List Value).toArray s 0 0 (fun _ => False)) (F0 m 44 ls []) := by
            intro k7 n145
            induction n145 with
            | zero => intro l6 l8 hf; have hf : (none : Option (Int)) = some res := hf; cases hf
            | succ n145 ih44 =>
              intro l6 l8 hf ls hl
              rw [fL_ranked_L44] at hf
              refine lv_iload hx hb dL_ranked_44 (lv_at hl 8 rfl) ?_
              refine lv_aload_n hx hb dL_ranked_46 rfl (lv_at hl 1 rfl) ?_
              refine xk_iconst hx hb dL_ranked_47 ?_
              obtain ⟨v146, ev146, hf⟩ := x_bind hf
              refine xk_iald (f := vh) hx hb hK hP 1 0 ev146 (by decide) rfl rfl dL_ranked_48 ?_
              obtain ⟨c147a, c147b, c147t, c147f⟩ := x_ltE hf
              refine xk_icmp_ge (tgt := 104) hx hb c147a c147b dL_ranked_49 (by decide) (fun c147 => ?_) (fun c147 => ?_)
              · have hf := c147t c147
                refine lv_iload hx hb dL_ranked_52 (lv_at hl 7 rfl) ?_
                obtain ⟨c148a, c148b, c148t, c148f⟩ := x_eqE hf
                refine xk_if_eq (tgt := 104) hx hb c148a dL_ranked_54 (by decide) (fun c148 => ?_) (fun c148 => ?_)
                · have hf := c148t c148
                  refine lv_iload hx hb dL_ranked_104 (lv_at hl 7 rfl) ?_
                  obtain ⟨c149a, c149b, c149t, c149f⟩ := x_eqE hf
                  refine xk_if_eq (tgt := 119) hx hb c149a dL_ranked_106 (by decide) (fun c149 => ?_) (fun c149 => ?_)
                  · have hf := c149t c149
                    refine xk_iinc (lv' := [(5, .int (iI (l5 + 1))), (0, .ref aa), (1, .ref ah), (2, .int (iI p2)), (3, .int (iI p3)), (4, .int (iI p4)), (6, .int (iI l6)), (7, .int (iI k7)), (8, .int (iI l8))]) hx hb dL_ranked_119 hl (k := 5) rfl (by decide) rfl (fun ls hl => ?_)
                    refine lv_goto (tgt := 3) hx hb dL_ranked_122 (by decide) ?_
                    exact ih3 (l5 + 1) hf ls (lv_sub hl [1, 2, 3, 4, 5, 0] rfl)
                  · have hf := c149f c149
                    refine lv_iload hx hb dL_ranked_109 (lv_at hl 6 rfl) ?_
                    refine lv_iload hx hb dL_ranked_111 (lv_at hl 4 rfl) ?_
                    obtain ⟨c150a, c150b, c150t, c150f⟩ := x_eqE hf
                    refine xk_icmp_ne (tgt := 119) hx hb c150a c150b dL_ranked_113 (by decide) (fun c150 => ?_) (fun c150 => ?_)
                    · have hf := c150t c150
                      refine lv_iload hx hb dL_ranked_116 (lv_at hl 5 rfl) ?_
                      obtain rfl := Option.some.inj hf
                      exact xe_ri hx hb hr hlocks dL_ranked_118 rfl
                    · have hf := c150f c150
                      refine xk_iinc (lv' := [(5, .int (iI (l5 + 1))), (0, .ref aa), (1, .ref ah), (2, .int (iI p2)), (3, .int (iI p3)), (4, .int (iI p4)), (6, .int (iI l6)), (7, .int (iI k7)), (8, .int (iI l8))]) hx hb dL_ranked_119 hl (k := 5) rfl (by decide) rfl (fun ls hl => ?_)
                      refine lv_goto (tgt := 3) hx hb dL_ranked_122 (by decide) ?_
                      exact ih3 (l5 + 1) hf ls (lv_sub hl [1, 2, 3, 4, 5, 0] rfl)
                · have hf := c148f c148
                  refine lv_iload hx hb dL_ranked_57 (lv_at hl 6 rfl) ?_
                  refine lv_aload_n hx hb dL_ranked_59 rfl (lv_at hl 0 rfl) ?_
                  refine lv_iload hx hb dL_ranked_60 (lv_at hl 8 rfl) ?_
                  obtain ⟨v151, ev151, hf⟩ := x_bind hf
                  refine xf_sri (As := [.ref aa, .int (iI l8)]) (rest := [.int (iI l6)]) (wcs := ([[qcC cs aa 64 va]] : List va_W)) ⟨hx, hb, hml, hown, hts⟩ (kL_where l dC dI cs aa va l8 _ ev151) (va_cwS 2 hts gL_ranked_L_where rfl rfl rfl cdL_where ⟨Nat.le_of_ble_eq_true rfl, Nat.le_of_ble_eq_true rfl⟩) hK hP [0] rfl rfl rfl hl.1 rfl (Nat.le_of_ble_eq_true rfl) dL_ranked_62 ⟨Nat.zero_le _, Nat.zero_le _⟩ ?_
                  refine lv_iload_n hx hb dL_ranked_65 rfl (lv_at hl 2 rfl) ?_
                  obtain ⟨c152a, c152b, c152t, c152f⟩ := x_eqE hf
                  refine xk_icmp_ne (tgt := 94) hx hb c152a c152b dL_ranked_66 (by decide) (fun c152 => ?_) (fun c152 => ?_)
                  · have hf := c152t c152
                    refine lv_aload_n hx hb dL_ranked_69 rfl (lv_at hl 0 rfl) ?_
                    refine lv_iload hx hb dL_ranked_70 (lv_at hl 8 rfl) ?_
                    obtain ⟨v153, ev153, hf⟩ := x_bind hf
                    refine xf_sri (As := [.ref aa, .int (iI l8)]) (rest := [.int (iI l6)]) (wcs := ([[qcC cs aa 64 va]] : List va_W)) ⟨hx, hb, hml, hown, hts⟩ (kL_run l dC dI cs aa va l8 _ ev153) (va_cwS 2 hts gL_ranked_L_run rfl rfl rfl cdL_run ⟨Nat.le_of_ble_eq_true rfl, Nat.le_of_ble_eq_true rfl⟩) hK hP [0] rfl rfl rfl hl.1 rfl (Nat.le_of_ble_eq_true rfl) dL_ranked_72 ⟨Nat.zero_le _, Nat.zero_le _⟩ ?_
                    refine lv_iload_n hx hb dL_ranked_75 rfl (lv_at hl 3 rfl) ?_
                    obtain ⟨c154a, c154b, c154t, c154f⟩ := x_eqE hf
                    refine xk_icmp_ne (tgt := 94) hx hb c154a c154b dL_ranked_76 (by decide) (fun c154 => ?_) (fun c154 => ?_)
                    · have hf := c154t c154
                      refine lv_aload_n hx hb dL_ranked_79 rfl (lv_at hl 0 rfl) ?_
                      refine lv_iload hx hb dL_ranked_80 (lv_at hl 8 rfl) ?_
                      refine lv_iload hx hb dL_ranked_82 (lv_at hl 5 rfl) ?_
                      obtain ⟨v155, ev155, hf⟩ := x_bind hf
                      refine xf_sri (As := [.ref aa, .int (iI l8), .int (iI l5)]) (rest := [.int (iI l6)]) (wcs := ([[qcC cs aa 64 va]] : List va_W)) ⟨hx, hb, hml, hown, hts⟩ (kL_isLess l dC dI cs aa va l8 l5 _ ev155) (va_cwS 3 hts gL_ranked_L_isLess rfl rfl rfl cdL_isLess ⟨Nat.le_of_ble_eq_true rfl, Nat.le_of_ble_eq_true rfl⟩) hK hP [0] rfl rfl rfl hl.1 rfl (Nat.le_of_ble_eq_true rfl) dL_ranked_84 ⟨Nat.zero_le _, Nat.zero_le _⟩ ?_
                      obtain ⟨c156a, c156b, c156t, c156f⟩ := x_eqE hf
                      refine xk_if_eq (tgt := 94) hx hb c156a dL_ranked_87 (by decide) (fun c156 => ?_) (fun c156 => ?_)
                      · have hf := c156t c156
                        refine xk_iconst hx hb dL_ranked_94 ?_
                        refine xk_iadd hx hb dL_ranked_95 ?_
                        refine lv_istore (lv' := [(6, .int (iI (l6 + 0))), (0, .ref aa), (1, .ref ah), (2, .int (iI p2)), (3, .int (iI p3)), (4, .int (iI p4)), (5, .int (iI l5)), (7, .int (iI k7)), (8, .int (iI l8))]) hx hb dL_ranked_96 hl (by decide) rfl (fun ls hl => ?_)
                        refine xk_iinc (lv' := [(8, .int (iI (l8 + 1))), (6, .int (iI (l6 + 0))), (0, .ref aa), (1, .ref ah), (2, .int (iI p2)), (3, .int (iI p3)), (4, .int (iI p4)), (5, .int (iI l5)), (7, .int (iI k7))]) hx hb dL_ranked_98 hl (k := 8) rfl (by decide) rfl (fun ls hl => ?_)
                        refine lv_goto (tgt := 44) hx hb dL_ranked_101 (by decide) ?_
                        exact ih44 (l6 + 0) (l8 + 1) hf ls (lv_sub hl [2, 3, 4, 5, 6, 7, 1, 8, 0] rfl)
                      · have hf := c156f c156
                        refine xk_iconst hx hb dL_ranked_90 ?_
                        refine lv_goto (tgt := 95) hx hb dL_ranked_91 (by decide) ?_
                        refine xk_iadd hx hb dL_ranked_95 ?_
                        refine lv_istore (lv' := [(6, .int (iI (l6 + 1))), (0, .ref aa), (1, .ref ah), (2, .int (iI p2)), (3, .int (iI p3)), (4, .int (iI p4)), (5, .int (iI l5)), (7, .int (iI k7)), (8, .int (iI l8))]) hx hb dL_ranked_96 hl (by decide) rfl (fun ls hl => ?_)
                        refine xk_iinc (lv' := [(8, .int (iI (l8 + 1))), (6, .int (iI (l6 + 1))), (0, .ref aa), (1, .ref ah), (2, .int (iI p2)), (3, .int (iI p3)), (4, .int (iI p4)), (5, .int (iI l5)), (7, .int (iI k7))]) hx hb dL_ranked_98 hl (k := 8) rfl (by decide) rfl (fun ls hl => ?_)
                        refine lv_goto (tgt := 44) hx hb dL_ranked_101 (by decide) ?_
                        exact ih44 (l6 + 1) (l8 + 1) hf ls (lv_sub hl [2, 3, 4, 5, 6, 7, 1, 8, 0] rfl)
                    · have hf := c154f c154
                      refine xk_iconst hx hb dL_ranked_94 ?_
                      refine xk_iadd hx hb dL_ranked_95 ?_
                      refine lv_istore (lv' := [(6, .int (iI (l6 + 0))), (0, .ref aa), (1, .ref ah), (2, .int (iI p2)), (3, .int (iI p3)), (4, .int (iI p4)), (5, .int (iI l5)), (7, .int (iI k7)), (8, .int (iI l8))]) hx hb dL_ranked_96 hl (by decide) rfl (fun ls hl => ?_)
                      refine xk_iinc (lv' := [(8, .int (iI (l8 + 1))), (6, .int (iI (l6 + 0))), (0, .ref aa), (1, .ref ah), (2, .int (iI p2)), (3, .int (iI p3)), (4, .int (iI p4)), (5, .int (iI l5)), (7, .int (iI k7))]) hx hb dL_ranked_98 hl (k := 8) rfl (by decide) rfl (fun ls hl => ?_)
                      refine lv_goto (tgt := 44) hx hb dL_ranked_101 (by decide) ?_
                      exact ih44 (l6 + 0) (l8 + 1) hf ls (lv_sub hl [2, 3, 4, 5, 6, 7, 1, 8, 0] rfl)
                  · have hf := c152f c152
                    refine xk_iconst hx hb dL_ranked_94 ?_
                    refine xk_iadd hx hb dL_ranked_95 ?_
                    refine lv_istore (lv' := [(6, .int (iI (l6 + 0))), (0, .ref aa), (1, .ref ah), (2, .int (iI p2)), (3, .int (iI p3)), (4, .int (iI p4)), (5, .int (iI l5)), (7, .int (iI k7)), (8, .int (iI l8))]) hx hb dL_ranked_96 hl (by decide) rfl (fun ls hl => ?_)
                    refine xk_iinc (lv' := [(8, .int (iI (l8 + 1))), (6, .int (iI (l6 + 0))), (0, .ref aa), (1, .ref ah), (2, .int (iI p2)), (3, .int (iI p3)), (4, .int (iI p4)), (5, .int (iI l5)), (7, .int (iI k7))]) hx hb dL_ranked_98 hl (k := 8) rfl (by decide) rfl (fun ls hl => ?_)
                    refine lv_goto (tgt := 44) hx hb dL_ranked_101 (by decide) ?_
                    exact ih44 (l6 + 0) (l8 + 1) hf ls (lv_sub hl [2, 3, 4, 5, 6, 7, 1, 8, 0] rfl)
              · have hf := c147f c147
                refine lv_iload hx hb dL_ranked_104 (lv_at hl 7 rfl) ?_
                obtain ⟨c157a, c157b, c157t, c157f⟩ := x_eqE hf
                refine xk_if_eq (tgt := 119) hx hb c157a dL_ranked_106 (by decide) (fun c157 => ?_) (fun c157 => ?_)
                · have hf := c157t c157
                  refine xk_iinc (lv' := [(5, .int (iI (l5 + 1))), (0, .ref aa), (1, .ref ah), (2, .int (iI p2)), (3, .int (iI p3)), (4, .int (iI p4)), (6, .int (iI l6)), (7, .int (iI k7)), (8, .int (iI l8))]) hx hb dL_ranked_119 hl (k := 5) rfl (by decide) rfl (fun ls hl => ?_)
                  refine lv_goto (tgt := 3) hx hb dL_ranked_122 (by decide) ?_
                  exact ih3 (l5 + 1) hf ls (lv_sub hl [1, 2, 3, 4, 5, 0] rfl)
                · have hf := c157f c157
                  refine lv_iload hx hb dL_ranked_109 (lv_at hl 6 rfl) ?_
                  refine lv_iload hx hb dL_ranked_111 (lv_at hl 4 rfl) ?_
                  obtain ⟨c158a, c158b, c158t, c158f⟩ := x_eqE hf
                  refine xk_icmp_ne (tgt := 119) hx hb c158a c158b dL_ranked_113 (by decide) (fun c158 => ?_) (fun c158 => ?_)
                  · have hf := c158t c158
                    refine lv_iload hx hb dL_ranked_116 (lv_at hl 5 rfl) ?_
                    obtain rfl := Option.some.inj hf
                    exact xe_ri hx hb hr hlocks dL_ranked_118 rfl
                  · have hf := c158f c158
                    refine xk_iinc (lv' := [(5, .int (iI (l5 + 1))), (0, .ref aa), (1, .ref ah), (2, .int (iI p2)), (3, .int (iI p3)), (4, .int (iI p4)), (6, .int (iI l6)), (7, .int (iI k7)), (8, .int (iI l8))]) hx hb dL_ranked_119 hl (k := 5) rfl (by decide) rfl (fun ls hl => ?_)
                    refine lv_goto (tgt := 3) hx hb dL_ranked_122 (by decide) ?_
                    exact ih3 (l5 + 1) hf ls (lv_sub hl [1, 2, 3, 4, 5, 0] rfl)
          exact hL44 0 xFU 0 0 hf ls (lv_sub hl [3, 4, 5, 6, 7, 8, 2, 1, 0] rfl)
      · have hf := c3f c3
        refine xk_iconst hx hb dL_ranked_125 ?_
        obtain rfl := Option.some.inj hf
        exact xe_ri hx hb hr hlocks dL_ranked_126 rfl
  exact hL3  xFU 0 hf ls (lv_sub hl [1, 2, 3, 4, 5, 0] rfl)
theorem cdL_ranked : yL_ranked.cls ≠ "java/lang/invoke/MethodHandle" ∧ yL_ranked.cls ≠ "java/lang/invoke/VarHandle" ∧ (parseMethodDescriptor yL_ranked.desc).map (fun d => d.parameters.length) = some 5 := by decide +kernel

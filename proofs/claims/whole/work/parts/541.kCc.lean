set_option maxHeartbeats 4000000 in
set_option maxRecDepth 100000 in
theorem kC_value {p : Program} {e : Env} {s : State} {m : MethodId} {below : List Frame} {meth : Method} {c : Code} {b L : Nat} {xs : Nat → Int32} (l : Launch) (hlS : l.stackTraces = false) (dC : Nat → ClassId) (dI : Nat → Nat → Nat) (cs : Nat → ClassId) (a am : Nat → Nat) (ao : Nat) (hL : L ≤ 2048) (hx : p.tables.exec = Jvm.exec) (hb : c.code = cL_law) (hml : c.maxLocals = 7) (hown : s.vm.findClass RL = some m.cls) (hts : ∀ w ∈ wsL_law, w.before #[Value.ref b] s = true) (hX : va_X b L xs s s.heap) (hbl : b < s.heap.size) (hT : xTh (fun z9 : Nat => s.heap.size ≤ z9) s) (hN : ∀ q ∈ x_ncs, va_Nc q.1 q.2 s) (hK : va_K (dC, dI) vwCl (xT cs) s) {Q : State → Prop} (x : ModS) (y : BrS) (o : Int → Int) (i : Int) (res : ModS × BrS × (Int → Int)) (hf : fC_value (x_sc xs) i x y o = some res) (h0 : 0 ≤ i) (h1 : i + 4 ≤ (L : Int)) {cells slots : Nat} (hc : cells + 1 ≤ 601024 ∧ slots + 6 ≤ 7293034) {H : Heap} {locs : List Loc} {ls : Array Slot} (hP : va_P (dC, dI) vwCl ([wo cs ao o] ++ w4 cs a y ++ [w5 cs am x]).flatten H) (hD : va_D (fun z9 : Nat => s.heap.size ≤ z9) ([wo cs ao o] ++ w4 cs a y ++ [w5 cs am x]).flatten) (hS : va_S (fun z9 : Nat => s.heap.size ≤ z9) s.heap H locs) (hl : lv_has ls 7 [(0, .ref b), (1, .ref (a 0)), (2, .ref (am 0)), (3, .ref ao), (4, .int (iI i))])
    (kk : ∀ (H : Heap) (locs : List Loc) (ls : Array Slot), va_P (dC, dI) vwCl ([wo cs ao res.2.2] ++ w4 cs a res.2.1 ++ [w5 cs am res.1]).flatten H → va_S (fun z9 : Nat => s.heap.size ≤ z9) s.heap H locs → lv_has ls 7 [(0, .ref b), (1, .ref (a 0)), (2, .ref (am 0)), (3, .ref ao), (4, .int (iI i))] → W p l e room_1 s m #[Value.ref b] below meth c H locs (cells + 1) (slots + 6) Q (F0 m 1303 ls [])) : W p l e room_1 s m #[Value.ref b] below meth c H locs cells slots Q (F0 m 973 ls []) := by
  have hA : ∀ z9 : Nat, s.heap.size ≤ z9 → (fun z9 : Nat => s.heap.size ≤ z9) z9 := fun z9 h => h
  have hbA : ¬ (fun z9 : Nat => s.heap.size ≤ z9) b := Nat.not_le.mpr hbl
  have hcr1 : room_1.cells = 601024 := rfl
  have hcr2 : room_1.slots = 7293034 := rfl
  unfold fC_value at hf
  refine lv_aload_n hx hb dL_law_973 rfl (lv_at hl 1 rfl) ?_
  refine lv_aload_n hx hb dL_law_974 rfl (lv_at hl 0 rfl) ?_
  refine lv_iload hx hb dL_law_975 (lv_at hl 4 rfl) ?_
  refine xk_iconst hx hb dL_law_977 ?_
  refine xk_iadd hx hb dL_law_978 ?_
  refine xk_sld hx hb hX hbl hbA hS (by omega) (by omega) hL dL_law_979 ?_
  refine lv_aload_n hx hb dL_law_980 rfl (lv_at hl 3 rfl) ?_
  obtain ⟨⟨k9, y1, o1⟩, ek9, hf⟩ := x_bind hf
  refine xf_sw (As := [.ref (a 0), .int (iI (x_sc xs (i + 1))), .ref ao]) (rest := []) (wcs := [wo cs ao o] ++ w4 cs a y) (w1s := [wo cs ao o1] ++ w4 cs a y1) ⟨hx, hb, hml, hown, hts⟩ (kL_value l hlS dC dI cs a ao H.size y o (x_sc xs (i + 1)) _ ek9) (vx_cwSW 3 hts gL_law_L_value rfl rfl rfl cdL_value ⟨Nat.le_of_ble_eq_true rfl, Nat.le_of_ble_eq_true rfl⟩) hK hP hD hS hA hT hN [0, 1, 2, 3, 4, 5, 6, 7, 8, 9, 10] rfl rfl rfl (by decide) rfl rfl hl.1 rfl (Nat.le_of_ble_eq_true rfl) dL_law_981 ⟨by omega, by omega⟩ (fun H locs hP hS => ?_)
  have hP : va_P (dC, dI) vwCl ([wo cs ao o1] ++ w4 cs a y1 ++ [w5 cs am x]).flatten H := hP
  have hD : va_D (fun z9 : Nat => s.heap.size ≤ z9) ([wo cs ao o1] ++ w4 cs a y1 ++ [w5 cs am x]).flatten := x_addrF hD rfl
  refine lv_istore (lv' := [(5, .int (iI k9)), (0, .ref b), (1, .ref (a 0)), (2, .ref (am 0)), (3, .ref ao), (4, .int (iI i))]) hx hb dL_law_984 hl (by decide) rfl (fun ls hl => ?_)
  refine lv_aload_n hx hb dL_law_986 rfl (lv_at hl 3 rfl) ?_
  refine lv_aload_n hx hb dL_law_987 rfl (lv_at hl 1 rfl) ?_
  refine lv_iload hx hb dL_law_988 (lv_at hl 5 rfl) ?_
  refine xk_iconst hx hb dL_law_990 ?_
  refine xk_iadd hx hb dL_law_991 ?_
  refine xk_sld hx hb hX hbl hbA hS (by omega) (by omega) hL dL_law_992 ?_
  obtain ⟨⟨v9, x1⟩, ev993, hf⟩ := x_bind hf
  refine xf_wi (As := [.int (iI (x_sc xs (i + 1)))]) (rest := []) (wcs := [w5 cs am x]) (w1s := [w5 cs am x1]) ⟨hx, hb, hml, hown, hts⟩ (c5_value l dC dI cs am H.size x (x_sc xs (i + 1)) _ ev993) (cwV 1 hts gL_law_X5_value rfl rfl rfl cdX5_value ⟨Nat.le_of_ble_eq_true rfl, Nat.le_of_ble_eq_true rfl⟩) hK hP hD hS hA [11] (by simp only [List.flatten_cons, List.flatten_nil, List.append_nil, List.cons_append, List.nil_append]) (by simp only [List.flatten_cons, List.flatten_nil, List.append_nil, List.cons_append, List.nil_append]) rfl (by decide) rfl rfl rfl rfl hl.1 rfl (Nat.le_of_ble_eq_true rfl) dL_law_993 ⟨by omega, by omega⟩ (fun H locs hP hS => ?_)
  have hP : va_P (dC, dI) vwCl ([wo cs ao o1] ++ w4 cs a y1 ++ [w5 cs am x1]).flatten H := hP
  have hD : va_D (fun z9 : Nat => s.heap.size ≤ z9) ([wo cs ao o1] ++ w4 cs a y1 ++ [w5 cs am x1]).flatten := x_addrF hD rfl
  refine lv_istore (lv' := [(6, .int (iI v9)), (5, .int (iI k9)), (0, .ref b), (1, .ref (a 0)), (2, .ref (am 0)), (3, .ref ao), (4, .int (iI i))]) hx hb dL_law_996 hl (by decide) rfl (fun ls hl => ?_)
  refine lv_aload_n hx hb dL_law_998 rfl (lv_at hl 4 rfl) ?_
  obtain ⟨t9, ev999, hf⟩ := x_bind hf
  refine xf_ri (As := []) (rest := []) (wcs := [w5 cs am x1]) ⟨hx, hb, hml, hown, hts⟩ (c5_thrown l dC dI cs am x1 _ ev999) (cwV 0 hts gL_law_X5_thrown rfl rfl rfl cdX5_thrown ⟨Nat.le_of_ble_eq_true rfl, Nat.le_of_ble_eq_true rfl⟩) hK hP [11] (by simp only [List.flatten_cons, List.flatten_nil, List.append_nil, List.cons_append, List.nil_append]) rfl rfl rfl rfl hl.1 rfl (Nat.le_of_ble_eq_true rfl) dL_law_999 ⟨by omega, by omega⟩ ?_
  refine lv_iload hx hb dL_law_1002 (lv_at hl 1 rfl) ?_
  obtain ⟨h1a, h1b, h1t, h1f⟩ := x_eqE hf
  refine xk_icmp_eq (tgt := 1009) hx hb h1a h1b dL_law_1004 (by decide) (fun hq => ?_) (fun hq => by cases h1f hq)
  have hf := h1t hq
  obtain ⟨h2a, h2b, h2t, h2f⟩ := x_eqE hf
  refine lv_iload hx hb dL_law_1009 (lv_at hl 1 rfl) ?_
  refine xk_if_ne (tgt := 1026) hx hb h2a dL_law_1011 (by decide) (fun hq2 => ?_) (fun hq2 => ?_)
  · have hf := h2t hq2
    obtain ⟨h3, hf⟩ := x_ckE hf
    by_cases h4 : o1 0 = v9
    · rw [if_pos h4] at hf
      refine lv_aload_n hx hb dL_law_1014 rfl (lv_at hl 5 rfl) ?_
      refine xk_iconst hx hb dL_law_1015 ?_
      refine xk_lald hx hb hK hP 0 3 (by decide) (by decide) (by decide) rfl rfl dL_law_1016 ?_
      rw [h4]
      refine lv_iload hx hb dL_law_1017 (lv_at hl 0 rfl) ?_
      refine xk_i2l hx hb h3 dL_law_1019 ?_
      refine xk_lcmp0 hx hb dL_law_1020 ?_
      refine xk_if_eq (tgt := 1026) hx hb (by decide) dL_law_1021 (by decide) (fun _ => ?_) (fun hz => absurd rfl hz)
      refine lv_goto (tgt := 1303) hx hb dL_law_1026 (by decide) ?_
      obtain rfl := Option.some.inj hf
      exact kk _ _ _ hP hS (lv_sub hl [2, 3, 4, 5, 6] rfl)
    · rw [if_neg h4] at hf; cases hf
  · have hf := h2f hq2
    refine lv_goto (tgt := 1303) hx hb dL_law_1026 (by decide) ?_
    obtain rfl := Option.some.inj hf
    exact kk _ _ _ hP hS (lv_sub hl [2, 3, 4, 5, 6] rfl)

set_option maxHeartbeats 4000000 in
set_option maxRecDepth 100000 in
theorem kC_nextThrown {p : Program} {e : Env} {s : State} {m : MethodId} {below : List Frame} {meth : Method} {c : Code} {b L : Nat} {xs : Nat → Int32} (l : Launch) (hlS : l.stackTraces = false) (dC : Nat → ClassId) (dI : Nat → Nat → Nat) (cs : Nat → ClassId) (a am : Nat → Nat) (ao : Nat) (hL : L ≤ 2048) (hx : p.tables.exec = Jvm.exec) (hb : c.code = cL_law) (hml : c.maxLocals = 7) (hown : s.vm.findClass RL = some m.cls) (hts : ∀ w ∈ wsL_law, w.before #[Value.ref b] s = true) (hX : va_X b L xs s s.heap) (hbl : b < s.heap.size) (hT : xTh (fun z9 : Nat => s.heap.size ≤ z9) s) (hN : ∀ q ∈ x_ncs, va_Nc q.1 q.2 s) (hK : va_K (dC, dI) vwCl (xT cs) s) {Q : State → Prop} (x : ModS) (y : BrS) (o : Int → Int) (i : Int) (res : ModS × BrS × (Int → Int)) (hf : fC_nextThrown (x_sc xs) i x y o = some res) (h0 : 0 ≤ i) (h1 : i + 4 ≤ (L : Int)) {cells slots : Nat} (hc : cells + 1 ≤ 601024 ∧ slots + 6 ≤ 7293034) {H : Heap} {locs : List Loc} {ls : Array Slot} (hP : va_P (dC, dI) vwCl ([wo cs ao o] ++ w4 cs a y ++ [w5 cs am x]).flatten H) (hD : va_D (fun z9 : Nat => s.heap.size ≤ z9) ([wo cs ao o] ++ w4 cs a y ++ [w5 cs am x]).flatten) (hS : va_S (fun z9 : Nat => s.heap.size ≤ z9) s.heap H locs) (hl : lv_has ls 7 [(0, .ref b), (1, .ref (a 0)), (2, .ref (am 0)), (3, .ref ao), (4, .int (iI i))])
    (kk : ∀ (H : Heap) (locs : List Loc) (ls : Array Slot), va_P (dC, dI) vwCl ([wo cs ao res.2.2] ++ w4 cs a res.2.1 ++ [w5 cs am res.1]).flatten H → va_S (fun z9 : Nat => s.heap.size ≤ z9) s.heap H locs → lv_has ls 7 [(0, .ref b), (1, .ref (a 0)), (2, .ref (am 0)), (3, .ref ao), (4, .int (iI i))] → W p l e room_1 s m #[Value.ref b] below meth c H locs (cells + 1) (slots + 6) Q (F0 m 1303 ls [])) : W p l e room_1 s m #[Value.ref b] below meth c H locs cells slots Q (F0 m 1029 ls []) := by
  have hA : ∀ z9 : Nat, s.heap.size ≤ z9 → (fun z9 : Nat => s.heap.size ≤ z9) z9 := fun z9 h => h
  have hbA : ¬ (fun z9 : Nat => s.heap.size ≤ z9) b := Nat.not_le.mpr hbl
  have hcr1 : room_1.cells = 601024 := rfl
  have hcr2 : room_1.slots = 7293034 := rfl
  unfold fC_nextThrown at hf
  refine lv_aload_n hx hb dL_law_1029 rfl (lv_at hl 1 rfl) ?_
  obtain ⟨v9, ev1030, hf⟩ := x_bind hf
  refine xf_ri (As := []) (rest := []) (wcs := (w4 cs a y)) ⟨hx, hb, hml, hown, hts⟩ (c4_nextThrown l dC dI cs a y _ ev1030) (cwV 0 hts gL_law_X4_nextThrown rfl rfl rfl cdX4_nextThrown ⟨Nat.le_of_ble_eq_true rfl, Nat.le_of_ble_eq_true rfl⟩) hK hP [1, 2, 3, 4, 5, 6, 7, 8, 9, 10] rfl rfl rfl rfl rfl hl.1 rfl (Nat.le_of_ble_eq_true rfl) dL_law_1030 ⟨by omega, by omega⟩ ?_
  refine lv_aload_n hx hb dL_law_1033 rfl (lv_at hl 2 rfl) ?_
  obtain ⟨⟨u9, x1⟩, ev1034, hf⟩ := x_bind hf
  refine xf_wi (As := []) (rest := [.int (iI v9)]) (wcs := [w5 cs am x]) (w1s := [w5 cs am x1]) ⟨hx, hb, hml, hown, hts⟩ (c5_nextThrown l dC dI cs am H.size x _ ev1034) (cwV 0 hts gL_law_X5_nextThrown rfl rfl rfl cdX5_nextThrown ⟨Nat.le_of_ble_eq_true rfl, Nat.le_of_ble_eq_true rfl⟩) hK hP hD hS hA [11] (by simp only [List.flatten_cons, List.flatten_nil, List.append_nil, List.cons_append, List.nil_append]) (by simp only [List.flatten_cons, List.flatten_nil, List.append_nil, List.cons_append, List.nil_append]) rfl (by decide) rfl rfl rfl rfl hl.1 rfl (Nat.le_of_ble_eq_true rfl) dL_law_1034 ⟨by omega, by omega⟩ (fun H locs hP hS => ?_)
  have hP : va_P (dC, dI) vwCl ([wo cs ao o] ++ w4 cs a y ++ [w5 cs am x1]).flatten H := hP
  have hD : va_D (fun z9 : Nat => s.heap.size ≤ z9) ([wo cs ao o] ++ w4 cs a y ++ [w5 cs am x1]).flatten := x_addrF hD rfl
  obtain ⟨h1a, h1b, h1t, h1f⟩ := x_eqE hf
  refine xk_icmp_eq (tgt := 1303) hx hb h1a h1b dL_law_1037 (by decide) (fun hq => ?_) (fun hq => by cases h1f hq)
  have hf := h1t hq
  obtain rfl := Option.some.inj hf
  refine W.widen (k := cells + 1) (n := slots + 6) (by omega) (by omega) ?_
  exact kk _ _ _ hP hS hl

set_option maxHeartbeats 4000000 in
set_option maxRecDepth 100000 in
theorem kC_runsIfEmptied {p : Program} {e : Env} {s : State} {m : MethodId} {below : List Frame} {meth : Method} {c : Code} {b L : Nat} {xs : Nat → Int32} (l : Launch) (hlS : l.stackTraces = false) (dC : Nat → ClassId) (dI : Nat → Nat → Nat) (cs : Nat → ClassId) (a am : Nat → Nat) (ao : Nat) (hL : L ≤ 2048) (hx : p.tables.exec = Jvm.exec) (hb : c.code = cL_law) (hml : c.maxLocals = 7) (hown : s.vm.findClass RL = some m.cls) (hts : ∀ w ∈ wsL_law, w.before #[Value.ref b] s = true) (hX : va_X b L xs s s.heap) (hbl : b < s.heap.size) (hT : xTh (fun z9 : Nat => s.heap.size ≤ z9) s) (hN : ∀ q ∈ x_ncs, va_Nc q.1 q.2 s) (hK : va_K (dC, dI) vwCl (xT cs) s) {Q : State → Prop} (x : ModS) (y : BrS) (o : Int → Int) (i : Int) (res : ModS × BrS × (Int → Int)) (hf : fC_runsIfEmptied (x_sc xs) i x y o = some res) (h0 : 0 ≤ i) (h1 : i + 4 ≤ (L : Int)) {cells slots : Nat} (hc : cells + 1 ≤ 601024 ∧ slots + 6 ≤ 7293034) {H : Heap} {locs : List Loc} {ls : Array Slot} (hP : va_P (dC, dI) vwCl ([wo cs ao o] ++ w4 cs a y ++ [w5 cs am x]).flatten H) (hD : va_D (fun z9 : Nat => s.heap.size ≤ z9) ([wo cs ao o] ++ w4 cs a y ++ [w5 cs am x]).flatten) (hS : va_S (fun z9 : Nat => s.heap.size ≤ z9) s.heap H locs) (hl : lv_has ls 7 [(0, .ref b), (1, .ref (a 0)), (2, .ref (am 0)), (3, .ref ao), (4, .int (iI i))])
    (kk : ∀ (H : Heap) (locs : List Loc) (ls : Array Slot), va_P (dC, dI) vwCl ([wo cs ao res.2.2] ++ w4 cs a res.2.1 ++ [w5 cs am res.1]).flatten H → va_S (fun z9 : Nat => s.heap.size ≤ z9) s.heap H locs → lv_has ls 7 [(0, .ref b), (1, .ref (a 0)), (2, .ref (am 0)), (3, .ref ao), (4, .int (iI i))] → W p l e room_1 s m #[Value.ref b] below meth c H locs (cells + 1) (slots + 6) Q (F0 m 1303 ls [])) : W p l e room_1 s m #[Value.ref b] below meth c H locs cells slots Q (F0 m 1042 ls []) := by
  have hA : ∀ z9 : Nat, s.heap.size ≤ z9 → (fun z9 : Nat => s.heap.size ≤ z9) z9 := fun z9 h => h
  have hbA : ¬ (fun z9 : Nat => s.heap.size ≤ z9) b := Nat.not_le.mpr hbl
  have hcr1 : room_1.cells = 601024 := rfl
  have hcr2 : room_1.slots = 7293034 := rfl
  unfold fC_runsIfEmptied at hf
  refine lv_aload_n hx hb dL_law_1042 rfl (lv_at hl 1 rfl) ?_
  obtain ⟨⟨v9, y1⟩, ev1043, hf⟩ := x_bind hf
  refine xf_wi (As := []) (rest := []) (wcs := (w4 cs a y)) (w1s := (w4 cs a y1)) ⟨hx, hb, hml, hown, hts⟩ (c4_runsIfEmptied l dC dI cs a H.size y _ ev1043) (cwV 0 hts gL_law_X4_runsIfEmptied rfl rfl rfl cdX4_runsIfEmptied ⟨Nat.le_of_ble_eq_true rfl, Nat.le_of_ble_eq_true rfl⟩) hK hP hD hS hA [1, 2, 3, 4, 5, 6, 7, 8, 9, 10] rfl rfl rfl (by decide) rfl rfl rfl rfl hl.1 rfl (Nat.le_of_ble_eq_true rfl) dL_law_1043 ⟨by omega, by omega⟩ (fun H locs hP hS => ?_)
  have hP : va_P (dC, dI) vwCl ([wo cs ao o] ++ w4 cs a y1 ++ [w5 cs am x]).flatten H := hP
  have hD : va_D (fun z9 : Nat => s.heap.size ≤ z9) ([wo cs ao o] ++ w4 cs a y1 ++ [w5 cs am x]).flatten := x_addrF hD rfl
  refine lv_aload_n hx hb dL_law_1046 rfl (lv_at hl 2 rfl) ?_
  obtain ⟨⟨u9, x1⟩, ev1047, hf⟩ := x_bind hf
  refine xf_wi (As := []) (rest := [.int (iI v9)]) (wcs := [w5 cs am x]) (w1s := [w5 cs am x1]) ⟨hx, hb, hml, hown, hts⟩ (c5_runsIfEmptied l dC dI cs am H.size x _ ev1047) (cwV 0 hts gL_law_X5_runsIfEmptied rfl rfl rfl cdX5_runsIfEmptied ⟨Nat.le_of_ble_eq_true rfl, Nat.le_of_ble_eq_true rfl⟩) hK hP hD hS hA [11] (by simp only [List.flatten_cons, List.flatten_nil, List.append_nil, List.cons_append, List.nil_append]) (by simp only [List.flatten_cons, List.flatten_nil, List.append_nil, List.cons_append, List.nil_append]) rfl (by decide) rfl rfl rfl rfl hl.1 rfl (Nat.le_of_ble_eq_true rfl) dL_law_1047 ⟨by omega, by omega⟩ (fun H locs hP hS => ?_)
  have hP : va_P (dC, dI) vwCl ([wo cs ao o] ++ w4 cs a y1 ++ [w5 cs am x1]).flatten H := hP
  have hD : va_D (fun z9 : Nat => s.heap.size ≤ z9) ([wo cs ao o] ++ w4 cs a y1 ++ [w5 cs am x1]).flatten := x_addrF hD rfl
  obtain ⟨h1a, h1b, h1t, h1f⟩ := x_eqE hf
  refine xk_icmp_eq (tgt := 1303) hx hb h1a h1b dL_law_1050 (by decide) (fun hq => ?_) (fun hq => by cases h1f hq)
  have hf := h1t hq
  obtain rfl := Option.some.inj hf
  refine W.widen (k := cells + 1) (n := slots + 6) (by omega) (by omega) ?_
  exact kk _ _ _ hP hS hl

set_option maxHeartbeats 4000000 in
set_option maxRecDepth 100000 in
theorem kC_costByWeight {p : Program} {e : Env} {s : State} {m : MethodId} {below : List Frame} {meth : Method} {c : Code} {b L : Nat} {xs : Nat → Int32} (l : Launch) (hlS : l.stackTraces = false) (dC : Nat → ClassId) (dI : Nat → Nat → Nat) (cs : Nat → ClassId) (a am : Nat → Nat) (ao : Nat) (hL : L ≤ 2048) (hx : p.tables.exec = Jvm.exec) (hb : c.code = cL_law) (hml : c.maxLocals = 7) (hown : s.vm.findClass RL = some m.cls) (hts : ∀ w ∈ wsL_law, w.before #[Value.ref b] s = true) (hX : va_X b L xs s s.heap) (hbl : b < s.heap.size) (hT : xTh (fun z9 : Nat => s.heap.size ≤ z9) s) (hN : ∀ q ∈ x_ncs, va_Nc q.1 q.2 s) (hK : va_K (dC, dI) vwCl (xT cs) s) {Q : State → Prop} (x : ModS) (y : BrS) (o : Int → Int) (i : Int) (res : ModS × BrS × (Int → Int)) (hf : fC_costByWeight (x_sc xs) i x y o = some res) (h0 : 0 ≤ i) (h1 : i + 4 ≤ (L : Int)) {cells slots : Nat} (hc : cells + 1 ≤ 601024 ∧ slots + 6 ≤ 7293034) {H : Heap} {locs : List Loc} {ls : Array Slot} (hP : va_P (dC, dI) vwCl ([wo cs ao o] ++ w4 cs a y ++ [w5 cs am x]).flatten H) (hD : va_D (fun z9 : Nat => s.heap.size ≤ z9) ([wo cs ao o] ++ w4 cs a y ++ [w5 cs am x]).flatten) (hS : va_S (fun z9 : Nat => s.heap.size ≤ z9) s.heap H locs) (hl : lv_has ls 7 [(0, .ref b), (1, .ref (a 0)), (2, .ref (am 0)), (3, .ref ao), (4, .int (iI i))])
    (kk : ∀ (H : Heap) (locs : List Loc) (ls : Array Slot), va_P (dC, dI) vwCl ([wo cs ao res.2.2] ++ w4 cs a res.2.1 ++ [w5 cs am res.1]).flatten H → va_S (fun z9 : Nat => s.heap.size ≤ z9) s.heap H locs → lv_has ls 7 [(0, .ref b), (1, .ref (a 0)), (2, .ref (am 0)), (3, .ref ao), (4, .int (iI i))] → W p l e room_1 s m #[Value.ref b] below meth c H locs (cells + 1) (slots + 6) Q (F0 m 1303 ls [])) : W p l e room_1 s m #[Value.ref b] below meth c H locs cells slots Q (F0 m 1055 ls []) := by
  have hA : ∀ z9 : Nat, s.heap.size ≤ z9 → (fun z9 : Nat => s.heap.size ≤ z9) z9 := fun z9 h => h
  have hbA : ¬ (fun z9 : Nat => s.heap.size ≤ z9) b := Nat.not_le.mpr hbl
  have hcr1 : room_1.cells = 601024 := rfl
  have hcr2 : room_1.slots = 7293034 := rfl
  unfold fC_costByWeight at hf
  refine lv_aload_n hx hb dL_law_1055 rfl (lv_at hl 1 rfl) ?_
  obtain ⟨⟨v9, y1⟩, ev1056, hf⟩ := x_bind hf
  refine xf_wi (As := []) (rest := []) (wcs := (w4 cs a y)) (w1s := (w4 cs a y1)) ⟨hx, hb, hml, hown, hts⟩ (c4_costByWeight l dC dI cs a H.size y _ ev1056) (cwV 0 hts gL_law_X4_costByWeight rfl rfl rfl cdX4_costByWeight ⟨Nat.le_of_ble_eq_true rfl, Nat.le_of_ble_eq_true rfl⟩) hK hP hD hS hA [1, 2, 3, 4, 5, 6, 7, 8, 9, 10] rfl rfl rfl (by decide) rfl rfl rfl rfl hl.1 rfl (Nat.le_of_ble_eq_true rfl) dL_law_1056 ⟨by omega, by omega⟩ (fun H locs hP hS => ?_)
  have hP : va_P (dC, dI) vwCl ([wo cs ao o] ++ w4 cs a y1 ++ [w5 cs am x]).flatten H := hP
  have hD : va_D (fun z9 : Nat => s.heap.size ≤ z9) ([wo cs ao o] ++ w4 cs a y1 ++ [w5 cs am x]).flatten := x_addrF hD rfl
  refine lv_aload_n hx hb dL_law_1059 rfl (lv_at hl 2 rfl) ?_
  obtain ⟨⟨u9, x1⟩, ev1060, hf⟩ := x_bind hf
  refine xf_wi (As := []) (rest := [.int (iI v9)]) (wcs := [w5 cs am x]) (w1s := [w5 cs am x1]) ⟨hx, hb, hml, hown, hts⟩ (c5_costByWeight l dC dI cs am H.size x _ ev1060) (cwV 0 hts gL_law_X5_costByWeight rfl rfl rfl cdX5_costByWeight ⟨Nat.le_of_ble_eq_true rfl, Nat.le_of_ble_eq_true rfl⟩) hK hP hD hS hA [11] (by simp only [List.flatten_cons, List.flatten_nil, List.append_nil, List.cons_append, List.nil_append]) (by simp only [List.flatten_cons, List.flatten_nil, List.append_nil, List.cons_append, List.nil_append]) rfl (by decide) rfl rfl rfl rfl hl.1 rfl (Nat.le_of_ble_eq_true rfl) dL_law_1060 ⟨by omega, by omega⟩ (fun H locs hP hS => ?_)
  have hP : va_P (dC, dI) vwCl ([wo cs ao o] ++ w4 cs a y1 ++ [w5 cs am x1]).flatten H := hP
  have hD : va_D (fun z9 : Nat => s.heap.size ≤ z9) ([wo cs ao o] ++ w4 cs a y1 ++ [w5 cs am x1]).flatten := x_addrF hD rfl
  obtain ⟨h1a, h1b, h1t, h1f⟩ := x_eqE hf
  refine xk_icmp_eq (tgt := 1303) hx hb h1a h1b dL_law_1063 (by decide) (fun hq => ?_) (fun hq => by cases h1f hq)
  have hf := h1t hq
  obtain rfl := Option.some.inj hf
  refine W.widen (k := cells + 1) (n := slots + 6) (by omega) (by omega) ?_
  exact kk _ _ _ hP hS hl

set_option maxHeartbeats 4000000 in
set_option maxRecDepth 100000 in
theorem kC_costByNumber {p : Program} {e : Env} {s : State} {m : MethodId} {below : List Frame} {meth : Method} {c : Code} {b L : Nat} {xs : Nat → Int32} (l : Launch) (hlS : l.stackTraces = false) (dC : Nat → ClassId) (dI : Nat → Nat → Nat) (cs : Nat → ClassId) (a am : Nat → Nat) (ao : Nat) (hL : L ≤ 2048) (hx : p.tables.exec = Jvm.exec) (hb : c.code = cL_law) (hml : c.maxLocals = 7) (hown : s.vm.findClass RL = some m.cls) (hts : ∀ w ∈ wsL_law, w.before #[Value.ref b] s = true) (hX : va_X b L xs s s.heap) (hbl : b < s.heap.size) (hT : xTh (fun z9 : Nat => s.heap.size ≤ z9) s) (hN : ∀ q ∈ x_ncs, va_Nc q.1 q.2 s) (hK : va_K (dC, dI) vwCl (xT cs) s) {Q : State → Prop} (x : ModS) (y : BrS) (o : Int → Int) (i : Int) (res : ModS × BrS × (Int → Int)) (hf : fC_costByNumber (x_sc xs) i x y o = some res) (h0 : 0 ≤ i) (h1 : i + 4 ≤ (L : Int)) {cells slots : Nat} (hc : cells + 1 ≤ 601024 ∧ slots + 6 ≤ 7293034) {H : Heap} {locs : List Loc} {ls : Array Slot} (hP : va_P (dC, dI) vwCl ([wo cs ao o] ++ w4 cs a y ++ [w5 cs am x]).flatten H) (hD : va_D (fun z9 : Nat => s.heap.size ≤ z9) ([wo cs ao o] ++ w4 cs a y ++ [w5 cs am x]).flatten) (hS : va_S (fun z9 : Nat => s.heap.size ≤ z9) s.heap H locs) (hl : lv_has ls 7 [(0, .ref b), (1, .ref (a 0)), (2, .ref (am 0)), (3, .ref ao), (4, .int (iI i))])
    (kk : ∀ (H : Heap) (locs : List Loc) (ls : Array Slot), va_P (dC, dI) vwCl ([wo cs ao res.2.2] ++ w4 cs a res.2.1 ++ [w5 cs am res.1]).flatten H → va_S (fun z9 : Nat => s.heap.size ≤ z9) s.heap H locs → lv_has ls 7 [(0, .ref b), (1, .ref (a 0)), (2, .ref (am 0)), (3, .ref ao), (4, .int (iI i))] → W p l e room_1 s m #[Value.ref b] below meth c H locs (cells + 1) (slots + 6) Q (F0 m 1303 ls [])) : W p l e room_1 s m #[Value.ref b] below meth c H locs cells slots Q (F0 m 1068 ls []) := by
  have hA : ∀ z9 : Nat, s.heap.size ≤ z9 → (fun z9 : Nat => s.heap.size ≤ z9) z9 := fun z9 h => h
  have hbA : ¬ (fun z9 : Nat => s.heap.size ≤ z9) b := Nat.not_le.mpr hbl
  have hcr1 : room_1.cells = 601024 := rfl
  have hcr2 : room_1.slots = 7293034 := rfl
  unfold fC_costByNumber at hf
  refine lv_aload_n hx hb dL_law_1068 rfl (lv_at hl 1 rfl) ?_
  obtain ⟨⟨v9, y1⟩, ev1069, hf⟩ := x_bind hf
  refine xf_wi (As := []) (rest := []) (wcs := (w4 cs a y)) (w1s := (w4 cs a y1)) ⟨hx, hb, hml, hown, hts⟩ (c4_costByNumber l dC dI cs a H.size y _ ev1069) (cwV 0 hts gL_law_X4_costByNumber rfl rfl rfl cdX4_costByNumber ⟨Nat.le_of_ble_eq_true rfl, Nat.le_of_ble_eq_true rfl⟩) hK hP hD hS hA [1, 2, 3, 4, 5, 6, 7, 8, 9, 10] rfl rfl rfl (by decide) rfl rfl rfl rfl hl.1 rfl (Nat.le_of_ble_eq_true rfl) dL_law_1069 ⟨by omega, by omega⟩ (fun H locs hP hS => ?_)
  have hP : va_P (dC, dI) vwCl ([wo cs ao o] ++ w4 cs a y1 ++ [w5 cs am x]).flatten H := hP
  have hD : va_D (fun z9 : Nat => s.heap.size ≤ z9) ([wo cs ao o] ++ w4 cs a y1 ++ [w5 cs am x]).flatten := x_addrF hD rfl
  refine lv_aload_n hx hb dL_law_1072 rfl (lv_at hl 2 rfl) ?_
  obtain ⟨⟨u9, x1⟩, ev1073, hf⟩ := x_bind hf
  refine xf_wi (As := []) (rest := [.int (iI v9)]) (wcs := [w5 cs am x]) (w1s := [w5 cs am x1]) ⟨hx, hb, hml, hown, hts⟩ (c5_costByNumber l dC dI cs am H.size x _ ev1073) (cwV 0 hts gL_law_X5_costByNumber rfl rfl rfl cdX5_costByNumber ⟨Nat.le_of_ble_eq_true rfl, Nat.le_of_ble_eq_true rfl⟩) hK hP hD hS hA [11] (by simp only [List.flatten_cons, List.flatten_nil, List.append_nil, List.cons_append, List.nil_append]) (by simp only [List.flatten_cons, List.flatten_nil, List.append_nil, List.cons_append, List.nil_append]) rfl (by decide) rfl rfl rfl rfl hl.1 rfl (Nat.le_of_ble_eq_true rfl) dL_law_1073 ⟨by omega, by omega⟩ (fun H locs hP hS => ?_)
  have hP : va_P (dC, dI) vwCl ([wo cs ao o] ++ w4 cs a y1 ++ [w5 cs am x1]).flatten H := hP
  have hD : va_D (fun z9 : Nat => s.heap.size ≤ z9) ([wo cs ao o] ++ w4 cs a y1 ++ [w5 cs am x1]).flatten := x_addrF hD rfl
  obtain ⟨h1a, h1b, h1t, h1f⟩ := x_eqE hf
  refine xk_icmp_eq (tgt := 1303) hx hb h1a h1b dL_law_1076 (by decide) (fun hq => ?_) (fun hq => by cases h1f hq)
  have hf := h1t hq
  obtain rfl := Option.some.inj hf
  refine W.widen (k := cells + 1) (n := slots + 6) (by omega) (by omega) ?_
  exact kk _ _ _ hP hS hl

set_option maxHeartbeats 4000000 in
set_option maxRecDepth 100000 in
theorem kC_runsWith {p : Program} {e : Env} {s : State} {m : MethodId} {below : List Frame} {meth : Method} {c : Code} {b L : Nat} {xs : Nat → Int32} (l : Launch) (hlS : l.stackTraces = false) (dC : Nat → ClassId) (dI : Nat → Nat → Nat) (cs : Nat → ClassId) (a am : Nat → Nat) (ao : Nat) (hL : L ≤ 2048) (hx : p.tables.exec = Jvm.exec) (hb : c.code = cL_law) (hml : c.maxLocals = 7) (hown : s.vm.findClass RL = some m.cls) (hts : ∀ w ∈ wsL_law, w.before #[Value.ref b] s = true) (hX : va_X b L xs s s.heap) (hbl : b < s.heap.size) (hT : xTh (fun z9 : Nat => s.heap.size ≤ z9) s) (hN : ∀ q ∈ x_ncs, va_Nc q.1 q.2 s) (hK : va_K (dC, dI) vwCl (xT cs) s) {Q : State → Prop} (x : ModS) (y : BrS) (o : Int → Int) (i : Int) (res : ModS × BrS × (Int → Int)) (hf : fC_runsWith (x_sc xs) i x y o = some res) (h0 : 0 ≤ i) (h1 : i + 4 ≤ (L : Int)) {cells slots : Nat} (hc : cells + 1 ≤ 601024 ∧ slots + 6 ≤ 7293034) {H : Heap} {locs : List Loc} {ls : Array Slot} (hP : va_P (dC, dI) vwCl ([wo cs ao o] ++ w4 cs a y ++ [w5 cs am x]).flatten H) (hD : va_D (fun z9 : Nat => s.heap.size ≤ z9) ([wo cs ao o] ++ w4 cs a y ++ [w5 cs am x]).flatten) (hS : va_S (fun z9 : Nat => s.heap.size ≤ z9) s.heap H locs) (hl : lv_has ls 7 [(0, .ref b), (1, .ref (a 0)), (2, .ref (am 0)), (3, .ref ao), (4, .int (iI i))])
    (kk : ∀ (H : Heap) (locs : List Loc) (ls : Array Slot), va_P (dC, dI) vwCl ([wo cs ao res.2.2] ++ w4 cs a res.2.1 ++ [w5 cs am res.1]).flatten H → va_S (fun z9 : Nat => s.heap.size ≤ z9) s.heap H locs → lv_has ls 7 [(0, .ref b), (1, .ref (a 0)), (2, .ref (am 0)), (3, .ref ao), (4, .int (iI i))] → W p l e room_1 s m #[Value.ref b] below meth c H locs (cells + 1) (slots + 6) Q (F0 m 1303 ls [])) : W p l e room_1 s m #[Value.ref b] below meth c H locs cells slots Q (F0 m 1081 ls []) := by
  have hA : ∀ z9 : Nat, s.heap.size ≤ z9 → (fun z9 : Nat => s.heap.size ≤ z9) z9 := fun z9 h => h
  have hbA : ¬ (fun z9 : Nat => s.heap.size ≤ z9) b := Nat.not_le.mpr hbl
  have hcr1 : room_1.cells = 601024 := rfl
  have hcr2 : room_1.slots = 7293034 := rfl
  unfold fC_runsWith at hf
  refine lv_aload_n hx hb dL_law_1081 rfl (lv_at hl 1 rfl) ?_
  refine lv_aload_n hx hb dL_law_1082 rfl (lv_at hl 0 rfl) ?_
  refine lv_iload hx hb dL_law_1083 (lv_at hl 4 rfl) ?_
  refine xk_iconst hx hb dL_law_1085 ?_
  refine xk_iadd hx hb dL_law_1086 ?_
  refine xk_sld hx hb hX hbl hbA hS (by omega) (by omega) hL dL_law_1087 ?_
  refine lv_aload_n hx hb dL_law_1088 rfl (lv_at hl 3 rfl) ?_
  obtain ⟨⟨k9, y1, o1⟩, ek9, hf⟩ := x_bind hf
  refine xf_sw (As := [.ref (a 0), .int (iI (x_sc xs (i + 1))), .ref ao]) (rest := []) (wcs := [wo cs ao o] ++ w4 cs a y) (w1s := [wo cs ao o1] ++ w4 cs a y1) ⟨hx, hb, hml, hown, hts⟩ (kL_runsWith l hlS dC dI cs a ao H.size y o (x_sc xs (i + 1)) _ ek9) (vx_cwSW 3 hts gL_law_L_runsWith rfl rfl rfl cdL_runsWith ⟨Nat.le_of_ble_eq_true rfl, Nat.le_of_ble_eq_true rfl⟩) hK hP hD hS hA hT hN [0, 1, 2, 3, 4, 5, 6, 7, 8, 9, 10] rfl rfl rfl (by decide) rfl rfl hl.1 rfl (Nat.le_of_ble_eq_true rfl) dL_law_1089 ⟨by omega, by omega⟩ (fun H locs hP hS => ?_)
  have hP : va_P (dC, dI) vwCl ([wo cs ao o1] ++ w4 cs a y1 ++ [w5 cs am x]).flatten H := hP
  have hD : va_D (fun z9 : Nat => s.heap.size ≤ z9) ([wo cs ao o1] ++ w4 cs a y1 ++ [w5 cs am x]).flatten := x_addrF hD rfl
  refine lv_istore (lv' := [(5, .int (iI k9)), (0, .ref b), (1, .ref (a 0)), (2, .ref (am 0)), (3, .ref ao), (4, .int (iI i))]) hx hb dL_law_1092 hl (by decide) rfl (fun ls hl => ?_)
  refine lv_aload_n hx hb dL_law_1094 rfl (lv_at hl 3 rfl) ?_
  refine lv_aload_n hx hb dL_law_1095 rfl (lv_at hl 1 rfl) ?_
  refine lv_iload hx hb dL_law_1096 (lv_at hl 5 rfl) ?_
  refine xk_iconst hx hb dL_law_1098 ?_
  refine xk_iadd hx hb dL_law_1099 ?_
  refine xk_sld hx hb hX hbl hbA hS (by omega) (by omega) hL dL_law_1100 ?_
  obtain ⟨⟨v9, x1⟩, ev1101, hf⟩ := x_bind hf
  refine xf_wi (As := [.int (iI (x_sc xs (i + 1)))]) (rest := []) (wcs := [w5 cs am x]) (w1s := [w5 cs am x1]) ⟨hx, hb, hml, hown, hts⟩ (c5_runsWith l dC dI cs am H.size x (x_sc xs (i + 1)) _ ev1101) (cwV 1 hts gL_law_X5_runsWith rfl rfl rfl cdX5_runsWith ⟨Nat.le_of_ble_eq_true rfl, Nat.le_of_ble_eq_true rfl⟩) hK hP hD hS hA [11] (by simp only [List.flatten_cons, List.flatten_nil, List.append_nil, List.cons_append, List.nil_append]) (by simp only [List.flatten_cons, List.flatten_nil, List.append_nil, List.cons_append, List.nil_append]) rfl (by decide) rfl rfl rfl rfl hl.1 rfl (Nat.le_of_ble_eq_true rfl) dL_law_1101 ⟨by omega, by omega⟩ (fun H locs hP hS => ?_)
  have hP : va_P (dC, dI) vwCl ([wo cs ao o1] ++ w4 cs a y1 ++ [w5 cs am x1]).flatten H := hP
  have hD : va_D (fun z9 : Nat => s.heap.size ≤ z9) ([wo cs ao o1] ++ w4 cs a y1 ++ [w5 cs am x1]).flatten := x_addrF hD rfl
  refine lv_istore (lv' := [(6, .int (iI v9)), (5, .int (iI k9)), (0, .ref b), (1, .ref (a 0)), (2, .ref (am 0)), (3, .ref ao), (4, .int (iI i))]) hx hb dL_law_1104 hl (by decide) rfl (fun ls hl => ?_)
  refine lv_aload_n hx hb dL_law_1106 rfl (lv_at hl 4 rfl) ?_
  obtain ⟨t9, ev1107, hf⟩ := x_bind hf
  refine xf_ri (As := []) (rest := []) (wcs := [w5 cs am x1]) ⟨hx, hb, hml, hown, hts⟩ (c5_thrown l dC dI cs am x1 _ ev1107) (cwV 0 hts gL_law_X5_thrown rfl rfl rfl cdX5_thrown ⟨Nat.le_of_ble_eq_true rfl, Nat.le_of_ble_eq_true rfl⟩) hK hP [11] (by simp only [List.flatten_cons, List.flatten_nil, List.append_nil, List.cons_append, List.nil_append]) rfl rfl rfl rfl hl.1 rfl (Nat.le_of_ble_eq_true rfl) dL_law_1107 ⟨by omega, by omega⟩ ?_
  refine lv_iload hx hb dL_law_1110 (lv_at hl 1 rfl) ?_
  obtain ⟨h1a, h1b, h1t, h1f⟩ := x_eqE hf
  refine xk_icmp_eq (tgt := 1117) hx hb h1a h1b dL_law_1112 (by decide) (fun hq => ?_) (fun hq => by cases h1f hq)
  have hf := h1t hq
  obtain ⟨h2a, h2b, h2t, h2f⟩ := x_eqE hf
  refine lv_iload hx hb dL_law_1117 (lv_at hl 1 rfl) ?_
  refine xk_if_ne (tgt := 1134) hx hb h2a dL_law_1119 (by decide) (fun hq2 => ?_) (fun hq2 => ?_)
  · have hf := h2t hq2
    obtain ⟨h3, hf⟩ := x_ckE hf
    by_cases h4 : o1 0 = v9
    · rw [if_pos h4] at hf
      refine lv_aload_n hx hb dL_law_1122 rfl (lv_at hl 5 rfl) ?_
      refine xk_iconst hx hb dL_law_1123 ?_
      refine xk_lald hx hb hK hP 0 3 (by decide) (by decide) (by decide) rfl rfl dL_law_1124 ?_
      rw [h4]
      refine lv_iload hx hb dL_law_1125 (lv_at hl 0 rfl) ?_
      refine xk_i2l hx hb h3 dL_law_1127 ?_
      refine xk_lcmp0 hx hb dL_law_1128 ?_
      refine xk_if_eq (tgt := 1134) hx hb (by decide) dL_law_1129 (by decide) (fun _ => ?_) (fun hz => absurd rfl hz)
      refine lv_goto (tgt := 1303) hx hb dL_law_1134 (by decide) ?_
      obtain rfl := Option.some.inj hf
      exact kk _ _ _ hP hS (lv_sub hl [2, 3, 4, 5, 6] rfl)
    · rw [if_neg h4] at hf; cases hf
  · have hf := h2f hq2
    refine lv_goto (tgt := 1303) hx hb dL_law_1134 (by decide) ?_
    obtain rfl := Option.some.inj hf
    exact kk _ _ _ hP hS (lv_sub hl [2, 3, 4, 5, 6] rfl)

set_option maxHeartbeats 4000000 in
set_option maxRecDepth 100000 in
theorem kC_leastRoom {p : Program} {e : Env} {s : State} {m : MethodId} {below : List Frame} {meth : Method} {c : Code} {b L : Nat} {xs : Nat → Int32} (l : Launch) (hlS : l.stackTraces = false) (dC : Nat → ClassId) (dI : Nat → Nat → Nat) (cs : Nat → ClassId) (a am : Nat → Nat) (ao : Nat) (hL : L ≤ 2048) (hx : p.tables.exec = Jvm.exec) (hb : c.code = cL_law) (hml : c.maxLocals = 7) (hown : s.vm.findClass RL = some m.cls) (hts : ∀ w ∈ wsL_law, w.before #[Value.ref b] s = true) (hX : va_X b L xs s s.heap) (hbl : b < s.heap.size) (hT : xTh (fun z9 : Nat => s.heap.size ≤ z9) s) (hN : ∀ q ∈ x_ncs, va_Nc q.1 q.2 s) (hK : va_K (dC, dI) vwCl (xT cs) s) {Q : State → Prop} (x : ModS) (y : BrS) (o : Int → Int) (i : Int) (res : ModS × BrS × (Int → Int)) (hf : fC_leastRoom (x_sc xs) i x y o = some res) (h0 : 0 ≤ i) (h1 : i + 4 ≤ (L : Int)) {cells slots : Nat} (hc : cells + 1 ≤ 601024 ∧ slots + 6 ≤ 7293034) {H : Heap} {locs : List Loc} {ls : Array Slot} (hP : va_P (dC, dI) vwCl ([wo cs ao o] ++ w4 cs a y ++ [w5 cs am x]).flatten H) (hD : va_D (fun z9 : Nat => s.heap.size ≤ z9) ([wo cs ao o] ++ w4 cs a y ++ [w5 cs am x]).flatten) (hS : va_S (fun z9 : Nat => s.heap.size ≤ z9) s.heap H locs) (hl : lv_has ls 7 [(0, .ref b), (1, .ref (a 0)), (2, .ref (am 0)), (3, .ref ao), (4, .int (iI i))])
    (kk : ∀ (H : Heap) (locs : List Loc) (ls : Array Slot), va_P (dC, dI) vwCl ([wo cs ao res.2.2] ++ w4 cs a res.2.1 ++ [w5 cs am res.1]).flatten H → va_S (fun z9 : Nat => s.heap.size ≤ z9) s.heap H locs → lv_has ls 7 [(0, .ref b), (1, .ref (a 0)), (2, .ref (am 0)), (3, .ref ao), (4, .int (iI i))] → W p l e room_1 s m #[Value.ref b] below meth c H locs (cells + 1) (slots + 6) Q (F0 m 1303 ls [])) : W p l e room_1 s m #[Value.ref b] below meth c H locs cells slots Q (F0 m 1137 ls []) := by
  have hA : ∀ z9 : Nat, s.heap.size ≤ z9 → (fun z9 : Nat => s.heap.size ≤ z9) z9 := fun z9 h => h
  have hbA : ¬ (fun z9 : Nat => s.heap.size ≤ z9) b := Nat.not_le.mpr hbl
  have hcr1 : room_1.cells = 601024 := rfl
  have hcr2 : room_1.slots = 7293034 := rfl
  unfold fC_leastRoom at hf
  refine lv_aload_n hx hb dL_law_1137 rfl (lv_at hl 1 rfl) ?_
  obtain ⟨v9, ev1138, hf⟩ := x_bind hf
  refine xf_ri (As := []) (rest := []) (wcs := (w4 cs a y)) ⟨hx, hb, hml, hown, hts⟩ (c4_leastRoom l dC dI cs a y _ ev1138) (cwV 0 hts gL_law_X4_leastRoom rfl rfl rfl cdX4_leastRoom ⟨Nat.le_of_ble_eq_true rfl, Nat.le_of_ble_eq_true rfl⟩) hK hP [1, 2, 3, 4, 5, 6, 7, 8, 9, 10] rfl rfl rfl rfl rfl hl.1 rfl (Nat.le_of_ble_eq_true rfl) dL_law_1138 ⟨by omega, by omega⟩ ?_
  refine lv_aload_n hx hb dL_law_1141 rfl (lv_at hl 2 rfl) ?_
  obtain ⟨⟨u9, x1⟩, ev1142, hf⟩ := x_bind hf
  refine xf_wi (As := []) (rest := [.int (iI v9)]) (wcs := [w5 cs am x]) (w1s := [w5 cs am x1]) ⟨hx, hb, hml, hown, hts⟩ (c5_leastRoom l dC dI cs am H.size x _ ev1142) (cwV 0 hts gL_law_X5_leastRoom rfl rfl rfl cdX5_leastRoom ⟨Nat.le_of_ble_eq_true rfl, Nat.le_of_ble_eq_true rfl⟩) hK hP hD hS hA [11] (by simp only [List.flatten_cons, List.flatten_nil, List.append_nil, List.cons_append, List.nil_append]) (by simp only [List.flatten_cons, List.flatten_nil, List.append_nil, List.cons_append, List.nil_append]) rfl (by decide) rfl rfl rfl rfl hl.1 rfl (Nat.le_of_ble_eq_true rfl) dL_law_1142 ⟨by omega, by omega⟩ (fun H locs hP hS => ?_)
  have hP : va_P (dC, dI) vwCl ([wo cs ao o] ++ w4 cs a y ++ [w5 cs am x1]).flatten H := hP
  have hD : va_D (fun z9 : Nat => s.heap.size ≤ z9) ([wo cs ao o] ++ w4 cs a y ++ [w5 cs am x1]).flatten := x_addrF hD rfl
  obtain ⟨h1a, h1b, h1t, h1f⟩ := x_eqE hf
  refine xk_icmp_eq (tgt := 1303) hx hb h1a h1b dL_law_1145 (by decide) (fun hq => ?_) (fun hq => by cases h1f hq)
  have hf := h1t hq
  obtain rfl := Option.some.inj hf
  refine W.widen (k := cells + 1) (n := slots + 6) (by omega) (by omega) ?_
  exact kk _ _ _ hP hS hl

set_option maxHeartbeats 4000000 in
set_option maxRecDepth 100000 in
theorem kC_inversions {p : Program} {e : Env} {s : State} {m : MethodId} {below : List Frame} {meth : Method} {c : Code} {b L : Nat} {xs : Nat → Int32} (l : Launch) (hlS : l.stackTraces = false) (dC : Nat → ClassId) (dI : Nat → Nat → Nat) (cs : Nat → ClassId) (a am : Nat → Nat) (ao : Nat) (hL : L ≤ 2048) (hx : p.tables.exec = Jvm.exec) (hb : c.code = cL_law) (hml : c.maxLocals = 7) (hown : s.vm.findClass RL = some m.cls) (hts : ∀ w ∈ wsL_law, w.before #[Value.ref b] s = true) (hX : va_X b L xs s s.heap) (hbl : b < s.heap.size) (hT : xTh (fun z9 : Nat => s.heap.size ≤ z9) s) (hN : ∀ q ∈ x_ncs, va_Nc q.1 q.2 s) (hK : va_K (dC, dI) vwCl (xT cs) s) {Q : State → Prop} (x : ModS) (y : BrS) (o : Int → Int) (i : Int) (res : ModS × BrS × (Int → Int)) (hf : fC_inversions (x_sc xs) i x y o = some res) (h0 : 0 ≤ i) (h1 : i + 4 ≤ (L : Int)) {cells slots : Nat} (hc : cells + 1 ≤ 601024 ∧ slots + 6 ≤ 7293034) {H : Heap} {locs : List Loc} {ls : Array Slot} (hP : va_P (dC, dI) vwCl ([wo cs ao o] ++ w4 cs a y ++ [w5 cs am x]).flatten H) (hD : va_D (fun z9 : Nat => s.heap.size ≤ z9) ([wo cs ao o] ++ w4 cs a y ++ [w5 cs am x]).flatten) (hS : va_S (fun z9 : Nat => s.heap.size ≤ z9) s.heap H locs) (hl : lv_has ls 7 [(0, .ref b), (1, .ref (a 0)), (2, .ref (am 0)), (3, .ref ao), (4, .int (iI i))])
    (kk : ∀ (H : Heap) (locs : List Loc) (ls : Array Slot), va_P (dC, dI) vwCl ([wo cs ao res.2.2] ++ w4 cs a res.2.1 ++ [w5 cs am res.1]).flatten H → va_S (fun z9 : Nat => s.heap.size ≤ z9) s.heap H locs → lv_has ls 7 [(0, .ref b), (1, .ref (a 0)), (2, .ref (am 0)), (3, .ref ao), (4, .int (iI i))] → W p l e room_1 s m #[Value.ref b] below meth c H locs (cells + 1) (slots + 6) Q (F0 m 1303 ls [])) : W p l e room_1 s m #[Value.ref b] below meth c H locs cells slots Q (F0 m 1150 ls []) := by
  have hA : ∀ z9 : Nat, s.heap.size ≤ z9 → (fun z9 : Nat => s.heap.size ≤ z9) z9 := fun z9 h => h
  have hbA : ¬ (fun z9 : Nat => s.heap.size ≤ z9) b := Nat.not_le.mpr hbl
  have hcr1 : room_1.cells = 601024 := rfl
  have hcr2 : room_1.slots = 7293034 := rfl
  unfold fC_inversions at hf
  refine lv_aload_n hx hb dL_law_1150 rfl (lv_at hl 1 rfl) ?_
  obtain ⟨v9, ev1151, hf⟩ := x_bind hf
  refine xf_ri (As := []) (rest := []) (wcs := (w4 cs a y)) ⟨hx, hb, hml, hown, hts⟩ (c4_inversions l dC dI cs a y _ ev1151) (cwV 0 hts gL_law_X4_inversions rfl rfl rfl cdX4_inversions ⟨Nat.le_of_ble_eq_true rfl, Nat.le_of_ble_eq_true rfl⟩) hK hP [1, 2, 3, 4, 5, 6, 7, 8, 9, 10] rfl rfl rfl rfl rfl hl.1 rfl (Nat.le_of_ble_eq_true rfl) dL_law_1151 ⟨by omega, by omega⟩ ?_
  refine lv_aload_n hx hb dL_law_1154 rfl (lv_at hl 2 rfl) ?_
  obtain ⟨⟨u9, x1⟩, ev1155, hf⟩ := x_bind hf
  refine xf_wi (As := []) (rest := [.int (iI v9)]) (wcs := [w5 cs am x]) (w1s := [w5 cs am x1]) ⟨hx, hb, hml, hown, hts⟩ (c5_inversions l dC dI cs am H.size x _ ev1155) (cwV 0 hts gL_law_X5_inversions rfl rfl rfl cdX5_inversions ⟨Nat.le_of_ble_eq_true rfl, Nat.le_of_ble_eq_true rfl⟩) hK hP hD hS hA [11] (by simp only [List.flatten_cons, List.flatten_nil, List.append_nil, List.cons_append, List.nil_append]) (by simp only [List.flatten_cons, List.flatten_nil, List.append_nil, List.cons_append, List.nil_append]) rfl (by decide) rfl rfl rfl rfl hl.1 rfl (Nat.le_of_ble_eq_true rfl) dL_law_1155 ⟨by omega, by omega⟩ (fun H locs hP hS => ?_)
  have hP : va_P (dC, dI) vwCl ([wo cs ao o] ++ w4 cs a y ++ [w5 cs am x1]).flatten H := hP
  have hD : va_D (fun z9 : Nat => s.heap.size ≤ z9) ([wo cs ao o] ++ w4 cs a y ++ [w5 cs am x1]).flatten := x_addrF hD rfl
  obtain ⟨h1a, h1b, h1t, h1f⟩ := x_eqE hf
  refine xk_icmp_eq (tgt := 1303) hx hb h1a h1b dL_law_1158 (by decide) (fun hq => ?_) (fun hq => by cases h1f hq)
  have hf := h1t hq
  obtain rfl := Option.some.inj hf
  refine W.widen (k := cells + 1) (n := slots + 6) (by omega) (by omega) ?_
  exact kk _ _ _ hP hS hl

set_option maxHeartbeats 4000000 in
set_option maxRecDepth 100000 in
theorem kC_append {p : Program} {e : Env} {s : State} {m : MethodId} {below : List Frame} {meth : Method} {c : Code} {b L : Nat} {xs : Nat → Int32} (l : Launch) (hlS : l.stackTraces = false) (dC : Nat → ClassId) (dI : Nat → Nat → Nat) (cs : Nat → ClassId) (a am : Nat → Nat) (ao : Nat) (hL : L ≤ 2048) (hx : p.tables.exec = Jvm.exec) (hb : c.code = cL_law) (hml : c.maxLocals = 7) (hown : s.vm.findClass RL = some m.cls) (hts : ∀ w ∈ wsL_law, w.before #[Value.ref b] s = true) (hX : va_X b L xs s s.heap) (hbl : b < s.heap.size) (hT : xTh (fun z9 : Nat => s.heap.size ≤ z9) s) (hN : ∀ q ∈ x_ncs, va_Nc q.1 q.2 s) (hK : va_K (dC, dI) vwCl (xT cs) s) {Q : State → Prop} (x : ModS) (y : BrS) (o : Int → Int) (i : Int) (res : ModS × BrS × (Int → Int)) (hf : fC_append (x_sc xs) i x y o = some res) (h0 : 0 ≤ i) (h1 : i + 4 ≤ (L : Int)) {cells slots : Nat} (hc : cells + 1 ≤ 601024 ∧ slots + 6 ≤ 7293034) {H : Heap} {locs : List Loc} {ls : Array Slot} (hP : va_P (dC, dI) vwCl ([wo cs ao o] ++ w4 cs a y ++ [w5 cs am x]).flatten H) (hD : va_D (fun z9 : Nat => s.heap.size ≤ z9) ([wo cs ao o] ++ w4 cs a y ++ [w5 cs am x]).flatten) (hS : va_S (fun z9 : Nat => s.heap.size ≤ z9) s.heap H locs) (hl : lv_has ls 7 [(0, .ref b), (1, .ref (a 0)), (2, .ref (am 0)), (3, .ref ao), (4, .int (iI i))])
    (kk : ∀ (H : Heap) (locs : List Loc) (ls : Array Slot), va_P (dC, dI) vwCl ([wo cs ao res.2.2] ++ w4 cs a res.2.1 ++ [w5 cs am res.1]).flatten H → va_S (fun z9 : Nat => s.heap.size ≤ z9) s.heap H locs → lv_has ls 7 [(0, .ref b), (1, .ref (a 0)), (2, .ref (am 0)), (3, .ref ao), (4, .int (iI i))] → W p l e room_1 s m #[Value.ref b] below meth c H locs (cells + 1) (slots + 6) Q (F0 m 1303 ls [])) : W p l e room_1 s m #[Value.ref b] below meth c H locs cells slots Q (F0 m 1163 ls []) := by
  have hA : ∀ z9 : Nat, s.heap.size ≤ z9 → (fun z9 : Nat => s.heap.size ≤ z9) z9 := fun z9 h => h
  have hbA : ¬ (fun z9 : Nat => s.heap.size ≤ z9) b := Nat.not_le.mpr hbl
  have hcr1 : room_1.cells = 601024 := rfl
  have hcr2 : room_1.slots = 7293034 := rfl
  unfold fC_append at hf
  refine lv_aload_n hx hb dL_law_1163 rfl (lv_at hl 1 rfl) ?_
  refine lv_aload_n hx hb dL_law_1164 rfl (lv_at hl 0 rfl) ?_
  refine lv_iload hx hb dL_law_1165 (lv_at hl 4 rfl) ?_
  refine xk_iconst hx hb dL_law_1167 ?_
  refine xk_iadd hx hb dL_law_1168 ?_
  refine xk_sld hx hb hX hbl hbA hS (by omega) (by omega) hL dL_law_1169 ?_
  refine lv_aload_n hx hb dL_law_1170 rfl (lv_at hl 3 rfl) ?_
  obtain ⟨⟨k9, y1, o1⟩, ek9, hf⟩ := x_bind hf
  refine xf_sw (As := [.ref (a 0), .int (iI (x_sc xs (i + 1))), .ref ao]) (rest := []) (wcs := [wo cs ao o] ++ w4 cs a y) (w1s := [wo cs ao o1] ++ w4 cs a y1) ⟨hx, hb, hml, hown, hts⟩ (kL_append l hlS dC dI cs a ao H.size y o (x_sc xs (i + 1)) _ ek9) (vx_cwSW 3 hts gL_law_L_append rfl rfl rfl cdL_append ⟨Nat.le_of_ble_eq_true rfl, Nat.le_of_ble_eq_true rfl⟩) hK hP hD hS hA hT hN [0, 1, 2, 3, 4, 5, 6, 7, 8, 9, 10] rfl rfl rfl (by decide) rfl rfl hl.1 rfl (Nat.le_of_ble_eq_true rfl) dL_law_1171 ⟨by omega, by omega⟩ (fun H locs hP hS => ?_)
  have hP : va_P (dC, dI) vwCl ([wo cs ao o1] ++ w4 cs a y1 ++ [w5 cs am x]).flatten H := hP
  have hD : va_D (fun z9 : Nat => s.heap.size ≤ z9) ([wo cs ao o1] ++ w4 cs a y1 ++ [w5 cs am x]).flatten := x_addrF hD rfl
  refine lv_istore (lv' := [(5, .int (iI k9)), (0, .ref b), (1, .ref (a 0)), (2, .ref (am 0)), (3, .ref ao), (4, .int (iI i))]) hx hb dL_law_1174 hl (by decide) rfl (fun ls hl => ?_)
  refine lv_aload_n hx hb dL_law_1176 rfl (lv_at hl 3 rfl) ?_
  refine lv_aload_n hx hb dL_law_1177 rfl (lv_at hl 1 rfl) ?_
  refine lv_iload hx hb dL_law_1178 (lv_at hl 5 rfl) ?_
  refine xk_iconst hx hb dL_law_1180 ?_
  refine xk_iadd hx hb dL_law_1181 ?_
  refine xk_sld hx hb hX hbl hbA hS (by omega) (by omega) hL dL_law_1182 ?_
  obtain ⟨⟨v9, x1⟩, ev1183, hf⟩ := x_bind hf
  refine xf_wi (As := [.int (iI (x_sc xs (i + 1)))]) (rest := []) (wcs := [w5 cs am x]) (w1s := [w5 cs am x1]) ⟨hx, hb, hml, hown, hts⟩ (c5_append l dC dI cs am H.size x (x_sc xs (i + 1)) _ ev1183) (cwV 1 hts gL_law_X5_append rfl rfl rfl cdX5_append ⟨Nat.le_of_ble_eq_true rfl, Nat.le_of_ble_eq_true rfl⟩) hK hP hD hS hA [11] (by simp only [List.flatten_cons, List.flatten_nil, List.append_nil, List.cons_append, List.nil_append]) (by simp only [List.flatten_cons, List.flatten_nil, List.append_nil, List.cons_append, List.nil_append]) rfl (by decide) rfl rfl rfl rfl hl.1 rfl (Nat.le_of_ble_eq_true rfl) dL_law_1183 ⟨by omega, by omega⟩ (fun H locs hP hS => ?_)
  have hP : va_P (dC, dI) vwCl ([wo cs ao o1] ++ w4 cs a y1 ++ [w5 cs am x1]).flatten H := hP
  have hD : va_D (fun z9 : Nat => s.heap.size ≤ z9) ([wo cs ao o1] ++ w4 cs a y1 ++ [w5 cs am x1]).flatten := x_addrF hD rfl
  refine lv_istore (lv' := [(6, .int (iI v9)), (5, .int (iI k9)), (0, .ref b), (1, .ref (a 0)), (2, .ref (am 0)), (3, .ref ao), (4, .int (iI i))]) hx hb dL_law_1186 hl (by decide) rfl (fun ls hl => ?_)
  refine lv_aload_n hx hb dL_law_1188 rfl (lv_at hl 4 rfl) ?_
  obtain ⟨t9, ev1189, hf⟩ := x_bind hf
  refine xf_ri (As := []) (rest := []) (wcs := [w5 cs am x1]) ⟨hx, hb, hml, hown, hts⟩ (c5_thrown l dC dI cs am x1 _ ev1189) (cwV 0 hts gL_law_X5_thrown rfl rfl rfl cdX5_thrown ⟨Nat.le_of_ble_eq_true rfl, Nat.le_of_ble_eq_true rfl⟩) hK hP [11] (by simp only [List.flatten_cons, List.flatten_nil, List.append_nil, List.cons_append, List.nil_append]) rfl rfl rfl rfl hl.1 rfl (Nat.le_of_ble_eq_true rfl) dL_law_1189 ⟨by omega, by omega⟩ ?_
  refine lv_iload hx hb dL_law_1192 (lv_at hl 1 rfl) ?_
  obtain ⟨h1a, h1b, h1t, h1f⟩ := x_eqE hf
  refine xk_icmp_eq (tgt := 1199) hx hb h1a h1b dL_law_1194 (by decide) (fun hq => ?_) (fun hq => by cases h1f hq)
  have hf := h1t hq
  obtain ⟨h2a, h2b, h2t, h2f⟩ := x_eqE hf
  refine lv_iload hx hb dL_law_1199 (lv_at hl 1 rfl) ?_
  refine xk_if_ne (tgt := 1216) hx hb h2a dL_law_1201 (by decide) (fun hq2 => ?_) (fun hq2 => ?_)
  · have hf := h2t hq2
    obtain ⟨h3, hf⟩ := x_ckE hf
    by_cases h4 : o1 0 = v9
    · rw [if_pos h4] at hf
      refine lv_aload_n hx hb dL_law_1204 rfl (lv_at hl 5 rfl) ?_
      refine xk_iconst hx hb dL_law_1205 ?_
      refine xk_lald hx hb hK hP 0 3 (by decide) (by decide) (by decide) rfl rfl dL_law_1206 ?_
      rw [h4]
      refine lv_iload hx hb dL_law_1207 (lv_at hl 0 rfl) ?_
      refine xk_i2l hx hb h3 dL_law_1209 ?_
      refine xk_lcmp0 hx hb dL_law_1210 ?_
      refine xk_if_eq (tgt := 1216) hx hb (by decide) dL_law_1211 (by decide) (fun _ => ?_) (fun hz => absurd rfl hz)
      refine lv_goto (tgt := 1303) hx hb dL_law_1216 (by decide) ?_
      obtain rfl := Option.some.inj hf
      exact kk _ _ _ hP hS (lv_sub hl [2, 3, 4, 5, 6] rfl)
    · rw [if_neg h4] at hf; cases hf
  · have hf := h2f hq2
    refine lv_goto (tgt := 1303) hx hb dL_law_1216 (by decide) ?_
    obtain rfl := Option.some.inj hf
    exact kk _ _ _ hP hS (lv_sub hl [2, 3, 4, 5, 6] rfl)

set_option maxHeartbeats 4000000 in
set_option maxRecDepth 100000 in
theorem kC_clearText {p : Program} {e : Env} {s : State} {m : MethodId} {below : List Frame} {meth : Method} {c : Code} {b L : Nat} {xs : Nat → Int32} (l : Launch) (hlS : l.stackTraces = false) (dC : Nat → ClassId) (dI : Nat → Nat → Nat) (cs : Nat → ClassId) (a am : Nat → Nat) (ao : Nat) (hL : L ≤ 2048) (hx : p.tables.exec = Jvm.exec) (hb : c.code = cL_law) (hml : c.maxLocals = 7) (hown : s.vm.findClass RL = some m.cls) (hts : ∀ w ∈ wsL_law, w.before #[Value.ref b] s = true) (hX : va_X b L xs s s.heap) (hbl : b < s.heap.size) (hT : xTh (fun z9 : Nat => s.heap.size ≤ z9) s) (hN : ∀ q ∈ x_ncs, va_Nc q.1 q.2 s) (hK : va_K (dC, dI) vwCl (xT cs) s) {Q : State → Prop} (x : ModS) (y : BrS) (o : Int → Int) (i : Int) (res : ModS × BrS × (Int → Int)) (hf : fC_clearText (x_sc xs) i x y o = some res) (h0 : 0 ≤ i) (h1 : i + 4 ≤ (L : Int)) {cells slots : Nat} (hc : cells + 1 ≤ 601024 ∧ slots + 6 ≤ 7293034) {H : Heap} {locs : List Loc} {ls : Array Slot} (hP : va_P (dC, dI) vwCl ([wo cs ao o] ++ w4 cs a y ++ [w5 cs am x]).flatten H) (hD : va_D (fun z9 : Nat => s.heap.size ≤ z9) ([wo cs ao o] ++ w4 cs a y ++ [w5 cs am x]).flatten) (hS : va_S (fun z9 : Nat => s.heap.size ≤ z9) s.heap H locs) (hl : lv_has ls 7 [(0, .ref b), (1, .ref (a 0)), (2, .ref (am 0)), (3, .ref ao), (4, .int (iI i))])
    (kk : ∀ (H : Heap) (locs : List Loc) (ls : Array Slot), va_P (dC, dI) vwCl ([wo cs ao res.2.2] ++ w4 cs a res.2.1 ++ [w5 cs am res.1]).flatten H → va_S (fun z9 : Nat => s.heap.size ≤ z9) s.heap H locs → lv_has ls 7 [(0, .ref b), (1, .ref (a 0)), (2, .ref (am 0)), (3, .ref ao), (4, .int (iI i))] → W p l e room_1 s m #[Value.ref b] below meth c H locs (cells + 1) (slots + 6) Q (F0 m 1303 ls [])) : W p l e room_1 s m #[Value.ref b] below meth c H locs cells slots Q (F0 m 1219 ls []) := by
  have hA : ∀ z9 : Nat, s.heap.size ≤ z9 → (fun z9 : Nat => s.heap.size ≤ z9) z9 := fun z9 h => h
  have hbA : ¬ (fun z9 : Nat => s.heap.size ≤ z9) b := Nat.not_le.mpr hbl
  have hcr1 : room_1.cells = 601024 := rfl
  have hcr2 : room_1.slots = 7293034 := rfl
  unfold fC_clearText at hf
  refine lv_aload_n hx hb dL_law_1219 rfl (lv_at hl 1 rfl) ?_
  obtain ⟨⟨v9, y1⟩, ev1220, hf⟩ := x_bind hf
  refine xf_wi (As := []) (rest := []) (wcs := (w4 cs a y)) (w1s := (w4 cs a y1)) ⟨hx, hb, hml, hown, hts⟩ (c4_clearText l dC dI cs a H.size y _ ev1220) (cwV 0 hts gL_law_X4_clearText rfl rfl rfl cdX4_clearText ⟨Nat.le_of_ble_eq_true rfl, Nat.le_of_ble_eq_true rfl⟩) hK hP hD hS hA [1, 2, 3, 4, 5, 6, 7, 8, 9, 10] rfl rfl rfl (by decide) rfl rfl rfl rfl hl.1 rfl (Nat.le_of_ble_eq_true rfl) dL_law_1220 ⟨by omega, by omega⟩ (fun H locs hP hS => ?_)
  have hP : va_P (dC, dI) vwCl ([wo cs ao o] ++ w4 cs a y1 ++ [w5 cs am x]).flatten H := hP
  have hD : va_D (fun z9 : Nat => s.heap.size ≤ z9) ([wo cs ao o] ++ w4 cs a y1 ++ [w5 cs am x]).flatten := x_addrF hD rfl
  refine lv_aload_n hx hb dL_law_1223 rfl (lv_at hl 2 rfl) ?_
  obtain ⟨⟨u9, x1⟩, ev1224, hf⟩ := x_bind hf
  refine xf_wi (As := []) (rest := [.int (iI v9)]) (wcs := [w5 cs am x]) (w1s := [w5 cs am x1]) ⟨hx, hb, hml, hown, hts⟩ (c5_clearText l dC dI cs am H.size x _ ev1224) (cwV 0 hts gL_law_X5_clearText rfl rfl rfl cdX5_clearText ⟨Nat.le_of_ble_eq_true rfl, Nat.le_of_ble_eq_true rfl⟩) hK hP hD hS hA [11] (by simp only [List.flatten_cons, List.flatten_nil, List.append_nil, List.cons_append, List.nil_append]) (by simp only [List.flatten_cons, List.flatten_nil, List.append_nil, List.cons_append, List.nil_append]) rfl (by decide) rfl rfl rfl rfl hl.1 rfl (Nat.le_of_ble_eq_true rfl) dL_law_1224 ⟨by omega, by omega⟩ (fun H locs hP hS => ?_)
  have hP : va_P (dC, dI) vwCl ([wo cs ao o] ++ w4 cs a y1 ++ [w5 cs am x1]).flatten H := hP
  have hD : va_D (fun z9 : Nat => s.heap.size ≤ z9) ([wo cs ao o] ++ w4 cs a y1 ++ [w5 cs am x1]).flatten := x_addrF hD rfl
  obtain ⟨h1a, h1b, h1t, h1f⟩ := x_eqE hf
  refine xk_icmp_eq (tgt := 1303) hx hb h1a h1b dL_law_1227 (by decide) (fun hq => ?_) (fun hq => by cases h1f hq)
  have hf := h1t hq
  obtain rfl := Option.some.inj hf
  refine W.widen (k := cells + 1) (n := slots + 6) (by omega) (by omega) ?_
  exact kk _ _ _ hP hS hl

set_option maxHeartbeats 4000000 in
set_option maxRecDepth 100000 in
theorem kC_carryOut {p : Program} {e : Env} {s : State} {m : MethodId} {below : List Frame} {meth : Method} {c : Code} {b L : Nat} {xs : Nat → Int32} (l : Launch) (hlS : l.stackTraces = false) (dC : Nat → ClassId) (dI : Nat → Nat → Nat) (cs : Nat → ClassId) (a am : Nat → Nat) (ao : Nat) (hL : L ≤ 2048) (hx : p.tables.exec = Jvm.exec) (hb : c.code = cL_law) (hml : c.maxLocals = 7) (hown : s.vm.findClass RL = some m.cls) (hts : ∀ w ∈ wsL_law, w.before #[Value.ref b] s = true) (hX : va_X b L xs s s.heap) (hbl : b < s.heap.size) (hT : xTh (fun z9 : Nat => s.heap.size ≤ z9) s) (hN : ∀ q ∈ x_ncs, va_Nc q.1 q.2 s) (hK : va_K (dC, dI) vwCl (xT cs) s) {Q : State → Prop} (x : ModS) (y : BrS) (o : Int → Int) (i : Int) (res : ModS × BrS × (Int → Int)) (hf : fC_carryOut (x_sc xs) i x y o = some res) (h0 : 0 ≤ i) (h1 : i + 4 ≤ (L : Int)) {cells slots : Nat} (hc : cells + 1 ≤ 601024 ∧ slots + 6 ≤ 7293034) {H : Heap} {locs : List Loc} {ls : Array Slot} (hP : va_P (dC, dI) vwCl ([wo cs ao o] ++ w4 cs a y ++ [w5 cs am x]).flatten H) (hD : va_D (fun z9 : Nat => s.heap.size ≤ z9) ([wo cs ao o] ++ w4 cs a y ++ [w5 cs am x]).flatten) (hS : va_S (fun z9 : Nat => s.heap.size ≤ z9) s.heap H locs) (hl : lv_has ls 7 [(0, .ref b), (1, .ref (a 0)), (2, .ref (am 0)), (3, .ref ao), (4, .int (iI i))])
    (kk : ∀ (H : Heap) (locs : List Loc) (ls : Array Slot), va_P (dC, dI) vwCl ([wo cs ao res.2.2] ++ w4 cs a res.2.1 ++ [w5 cs am res.1]).flatten H → va_S (fun z9 : Nat => s.heap.size ≤ z9) s.heap H locs → lv_has ls 7 [(0, .ref b), (1, .ref (a 0)), (2, .ref (am 0)), (3, .ref ao), (4, .int (iI i))] → W p l e room_1 s m #[Value.ref b] below meth c H locs (cells + 1) (slots + 6) Q (F0 m 1303 ls [])) : W p l e room_1 s m #[Value.ref b] below meth c H locs cells slots Q (F0 m 1232 ls []) := by
  have hA : ∀ z9 : Nat, s.heap.size ≤ z9 → (fun z9 : Nat => s.heap.size ≤ z9) z9 := fun z9 h => h
  have hbA : ¬ (fun z9 : Nat => s.heap.size ≤ z9) b := Nat.not_le.mpr hbl
  have hcr1 : room_1.cells = 601024 := rfl
  have hcr2 : room_1.slots = 7293034 := rfl
  unfold fC_carryOut at hf
  refine lv_aload_n hx hb dL_law_1232 rfl (lv_at hl 1 rfl) ?_
  obtain ⟨⟨v9, y1⟩, ev1233, hf⟩ := x_bind hf
  refine xf_wi (As := []) (rest := []) (wcs := (w4 cs a y)) (w1s := (w4 cs a y1)) ⟨hx, hb, hml, hown, hts⟩ (c4_carryOut l dC dI cs a H.size y _ ev1233) (cwV 0 hts gL_law_X4_carryOut rfl rfl rfl cdX4_carryOut ⟨Nat.le_of_ble_eq_true rfl, Nat.le_of_ble_eq_true rfl⟩) hK hP hD hS hA [1, 2, 3, 4, 5, 6, 7, 8, 9, 10] rfl rfl rfl (by decide) rfl rfl rfl rfl hl.1 rfl (Nat.le_of_ble_eq_true rfl) dL_law_1233 ⟨by omega, by omega⟩ (fun H locs hP hS => ?_)
  have hP : va_P (dC, dI) vwCl ([wo cs ao o] ++ w4 cs a y1 ++ [w5 cs am x]).flatten H := hP
  have hD : va_D (fun z9 : Nat => s.heap.size ≤ z9) ([wo cs ao o] ++ w4 cs a y1 ++ [w5 cs am x]).flatten := x_addrF hD rfl
  refine lv_aload_n hx hb dL_law_1236 rfl (lv_at hl 2 rfl) ?_
  obtain ⟨⟨u9, x1⟩, ev1237, hf⟩ := x_bind hf
  refine xf_wi (As := []) (rest := [.int (iI v9)]) (wcs := [w5 cs am x]) (w1s := [w5 cs am x1]) ⟨hx, hb, hml, hown, hts⟩ (c5_carryOut l dC dI cs am H.size x _ ev1237) (cwV 0 hts gL_law_X5_carryOut rfl rfl rfl cdX5_carryOut ⟨Nat.le_of_ble_eq_true rfl, Nat.le_of_ble_eq_true rfl⟩) hK hP hD hS hA [11] (by simp only [List.flatten_cons, List.flatten_nil, List.append_nil, List.cons_append, List.nil_append]) (by simp only [List.flatten_cons, List.flatten_nil, List.append_nil, List.cons_append, List.nil_append]) rfl (by decide) rfl rfl rfl rfl hl.1 rfl (Nat.le_of_ble_eq_true rfl) dL_law_1237 ⟨by omega, by omega⟩ (fun H locs hP hS => ?_)
  have hP : va_P (dC, dI) vwCl ([wo cs ao o] ++ w4 cs a y1 ++ [w5 cs am x1]).flatten H := hP
  have hD : va_D (fun z9 : Nat => s.heap.size ≤ z9) ([wo cs ao o] ++ w4 cs a y1 ++ [w5 cs am x1]).flatten := x_addrF hD rfl
  obtain ⟨h1a, h1b, h1t, h1f⟩ := x_eqE hf
  refine xk_icmp_eq (tgt := 1303) hx hb h1a h1b dL_law_1240 (by decide) (fun hq => ?_) (fun hq => by cases h1f hq)
  have hf := h1t hq
  obtain rfl := Option.some.inj hf
  refine W.widen (k := cells + 1) (n := slots + 6) (by omega) (by omega) ?_
  exact kk _ _ _ hP hS hl

set_option maxHeartbeats 4000000 in
set_option maxRecDepth 100000 in
theorem kC_undo {p : Program} {e : Env} {s : State} {m : MethodId} {below : List Frame} {meth : Method} {c : Code} {b L : Nat} {xs : Nat → Int32} (l : Launch) (hlS : l.stackTraces = false) (dC : Nat → ClassId) (dI : Nat → Nat → Nat) (cs : Nat → ClassId) (a am : Nat → Nat) (ao : Nat) (hL : L ≤ 2048) (hx : p.tables.exec = Jvm.exec) (hb : c.code = cL_law) (hml : c.maxLocals = 7) (hown : s.vm.findClass RL = some m.cls) (hts : ∀ w ∈ wsL_law, w.before #[Value.ref b] s = true) (hX : va_X b L xs s s.heap) (hbl : b < s.heap.size) (hT : xTh (fun z9 : Nat => s.heap.size ≤ z9) s) (hN : ∀ q ∈ x_ncs, va_Nc q.1 q.2 s) (hK : va_K (dC, dI) vwCl (xT cs) s) {Q : State → Prop} (x : ModS) (y : BrS) (o : Int → Int) (i : Int) (res : ModS × BrS × (Int → Int)) (hf : fC_undo (x_sc xs) i x y o = some res) (h0 : 0 ≤ i) (h1 : i + 4 ≤ (L : Int)) {cells slots : Nat} (hc : cells + 1 ≤ 601024 ∧ slots + 6 ≤ 7293034) {H : Heap} {locs : List Loc} {ls : Array Slot} (hP : va_P (dC, dI) vwCl ([wo cs ao o] ++ w4 cs a y ++ [w5 cs am x]).flatten H) (hD : va_D (fun z9 : Nat => s.heap.size ≤ z9) ([wo cs ao o] ++ w4 cs a y ++ [w5 cs am x]).flatten) (hS : va_S (fun z9 : Nat => s.heap.size ≤ z9) s.heap H locs) (hl : lv_has ls 7 [(0, .ref b), (1, .ref (a 0)), (2, .ref (am 0)), (3, .ref ao), (4, .int (iI i))])
    (kk : ∀ (H : Heap) (locs : List Loc) (ls : Array Slot), va_P (dC, dI) vwCl ([wo cs ao res.2.2] ++ w4 cs a res.2.1 ++ [w5 cs am res.1]).flatten H → va_S (fun z9 : Nat => s.heap.size ≤ z9) s.heap H locs → lv_has ls 7 [(0, .ref b), (1, .ref (a 0)), (2, .ref (am 0)), (3, .ref ao), (4, .int (iI i))] → W p l e room_1 s m #[Value.ref b] below meth c H locs (cells + 1) (slots + 6) Q (F0 m 1303 ls [])) : W p l e room_1 s m #[Value.ref b] below meth c H locs cells slots Q (F0 m 1245 ls []) := by
  have hA : ∀ z9 : Nat, s.heap.size ≤ z9 → (fun z9 : Nat => s.heap.size ≤ z9) z9 := fun z9 h => h
  have hbA : ¬ (fun z9 : Nat => s.heap.size ≤ z9) b := Nat.not_le.mpr hbl
  have hcr1 : room_1.cells = 601024 := rfl
  have hcr2 : room_1.slots = 7293034 := rfl
  unfold fC_undo at hf
  refine lv_aload_n hx hb dL_law_1245 rfl (lv_at hl 1 rfl) ?_
  refine lv_aload_n hx hb dL_law_1246 rfl (lv_at hl 3 rfl) ?_
  obtain ⟨⟨k9, y1, o1⟩, ek9, hf⟩ := x_bind hf
  refine xf_sw (As := [.ref (a 0), .ref ao]) (rest := []) (wcs := [wo cs ao o] ++ w4 cs a y) (w1s := [wo cs ao o1] ++ w4 cs a y1) ⟨hx, hb, hml, hown, hts⟩ (kL_undo l hlS dC dI cs a ao H.size y o _ ek9) (vx_cwSW 2 hts gL_law_L_undo rfl rfl rfl cdL_undo ⟨Nat.le_of_ble_eq_true rfl, Nat.le_of_ble_eq_true rfl⟩) hK hP hD hS hA hT hN [0, 1, 2, 3, 4, 5, 6, 7, 8, 9, 10] rfl rfl rfl (by decide) rfl rfl hl.1 rfl (Nat.le_of_ble_eq_true rfl) dL_law_1247 ⟨by omega, by omega⟩ (fun H locs hP hS => ?_)
  have hP : va_P (dC, dI) vwCl ([wo cs ao o1] ++ w4 cs a y1 ++ [w5 cs am x]).flatten H := hP
  have hD : va_D (fun z9 : Nat => s.heap.size ≤ z9) ([wo cs ao o1] ++ w4 cs a y1 ++ [w5 cs am x]).flatten := x_addrF hD rfl
  refine lv_istore (lv' := [(5, .int (iI k9)), (0, .ref b), (1, .ref (a 0)), (2, .ref (am 0)), (3, .ref ao), (4, .int (iI i))]) hx hb dL_law_1250 hl (by decide) rfl (fun ls hl => ?_)
  refine lv_aload_n hx hb dL_law_1252 rfl (lv_at hl 3 rfl) ?_
  obtain ⟨⟨v9, x1⟩, ev1253, hf⟩ := x_bind hf
  refine xf_wi (As := []) (rest := []) (wcs := [w5 cs am x]) (w1s := [w5 cs am x1]) ⟨hx, hb, hml, hown, hts⟩ (c5_undo l dC dI cs am H.size x _ ev1253) (cwV 0 hts gL_law_X5_undo rfl rfl rfl cdX5_undo ⟨Nat.le_of_ble_eq_true rfl, Nat.le_of_ble_eq_true rfl⟩) hK hP hD hS hA [11] (by simp only [List.flatten_cons, List.flatten_nil, List.append_nil, List.cons_append, List.nil_append]) (by simp only [List.flatten_cons, List.flatten_nil, List.append_nil, List.cons_append, List.nil_append]) rfl (by decide) rfl rfl rfl rfl hl.1 rfl (Nat.le_of_ble_eq_true rfl) dL_law_1253 ⟨by omega, by omega⟩ (fun H locs hP hS => ?_)
  have hP : va_P (dC, dI) vwCl ([wo cs ao o1] ++ w4 cs a y1 ++ [w5 cs am x1]).flatten H := hP
  have hD : va_D (fun z9 : Nat => s.heap.size ≤ z9) ([wo cs ao o1] ++ w4 cs a y1 ++ [w5 cs am x1]).flatten := x_addrF hD rfl
  refine lv_istore (lv' := [(6, .int (iI v9)), (5, .int (iI k9)), (0, .ref b), (1, .ref (a 0)), (2, .ref (am 0)), (3, .ref ao), (4, .int (iI i))]) hx hb dL_law_1256 hl (by decide) rfl (fun ls hl => ?_)
  refine lv_aload_n hx hb dL_law_1258 rfl (lv_at hl 4 rfl) ?_
  obtain ⟨t9, ev1259, hf⟩ := x_bind hf
  refine xf_ri (As := []) (rest := []) (wcs := [w5 cs am x1]) ⟨hx, hb, hml, hown, hts⟩ (c5_thrown l dC dI cs am x1 _ ev1259) (cwV 0 hts gL_law_X5_thrown rfl rfl rfl cdX5_thrown ⟨Nat.le_of_ble_eq_true rfl, Nat.le_of_ble_eq_true rfl⟩) hK hP [11] (by simp only [List.flatten_cons, List.flatten_nil, List.append_nil, List.cons_append, List.nil_append]) rfl rfl rfl rfl hl.1 rfl (Nat.le_of_ble_eq_true rfl) dL_law_1259 ⟨by omega, by omega⟩ ?_
  refine lv_iload hx hb dL_law_1262 (lv_at hl 1 rfl) ?_
  obtain ⟨h1a, h1b, h1t, h1f⟩ := x_eqE hf
  refine xk_icmp_eq (tgt := 1269) hx hb h1a h1b dL_law_1264 (by decide) (fun hq => ?_) (fun hq => by cases h1f hq)
  have hf := h1t hq
  obtain ⟨h2a, h2b, h2t, h2f⟩ := x_eqE hf
  refine lv_iload hx hb dL_law_1269 (lv_at hl 1 rfl) ?_
  refine xk_if_ne (tgt := 1286) hx hb h2a dL_law_1271 (by decide) (fun hq2 => ?_) (fun hq2 => ?_)
  · have hf := h2t hq2
    obtain ⟨h3, hf⟩ := x_ckE hf
    by_cases h4 : o1 0 = v9
    · rw [if_pos h4] at hf
      refine lv_aload_n hx hb dL_law_1274 rfl (lv_at hl 5 rfl) ?_
      refine xk_iconst hx hb dL_law_1275 ?_
      refine xk_lald hx hb hK hP 0 3 (by decide) (by decide) (by decide) rfl rfl dL_law_1276 ?_
      rw [h4]
      refine lv_iload hx hb dL_law_1277 (lv_at hl 0 rfl) ?_
      refine xk_i2l hx hb h3 dL_law_1279 ?_
      refine xk_lcmp0 hx hb dL_law_1280 ?_
      refine xk_if_eq (tgt := 1286) hx hb (by decide) dL_law_1281 (by decide) (fun _ => ?_) (fun hz => absurd rfl hz)
      refine lv_goto (tgt := 1303) hx hb dL_law_1286 (by decide) ?_
      obtain rfl := Option.some.inj hf
      exact kk _ _ _ hP hS (lv_sub hl [2, 3, 4, 5, 6] rfl)
    · rw [if_neg h4] at hf; cases hf
  · have hf := h2f hq2
    refine lv_goto (tgt := 1303) hx hb dL_law_1286 (by decide) ?_
    obtain rfl := Option.some.inj hf
    exact kk _ _ _ hP hS (lv_sub hl [2, 3, 4, 5, 6] rfl)

set_option maxHeartbeats 4000000 in
set_option maxRecDepth 100000 in
theorem kC_begin {p : Program} {e : Env} {s : State} {m : MethodId} {below : List Frame} {meth : Method} {c : Code} {b L : Nat} {xs : Nat → Int32} (l : Launch) (hlS : l.stackTraces = false) (dC : Nat → ClassId) (dI : Nat → Nat → Nat) (cs : Nat → ClassId) (a am : Nat → Nat) (ao : Nat) (hL : L ≤ 2048) (hx : p.tables.exec = Jvm.exec) (hb : c.code = cL_law) (hml : c.maxLocals = 7) (hown : s.vm.findClass RL = some m.cls) (hts : ∀ w ∈ wsL_law, w.before #[Value.ref b] s = true) (hX : va_X b L xs s s.heap) (hbl : b < s.heap.size) (hT : xTh (fun z9 : Nat => s.heap.size ≤ z9) s) (hN : ∀ q ∈ x_ncs, va_Nc q.1 q.2 s) (hK : va_K (dC, dI) vwCl (xT cs) s) {Q : State → Prop} (x : ModS) (y : BrS) (o : Int → Int) (i : Int) (res : ModS × BrS × (Int → Int)) (hf : fC_begin (x_sc xs) i x y o = some res) (h0 : 0 ≤ i) (h1 : i + 4 ≤ (L : Int)) {cells slots : Nat} (hc : cells + 1 ≤ 601024 ∧ slots + 6 ≤ 7293034) {H : Heap} {locs : List Loc} {ls : Array Slot} (hP : va_P (dC, dI) vwCl ([wo cs ao o] ++ w4 cs a y ++ [w5 cs am x]).flatten H) (hD : va_D (fun z9 : Nat => s.heap.size ≤ z9) ([wo cs ao o] ++ w4 cs a y ++ [w5 cs am x]).flatten) (hS : va_S (fun z9 : Nat => s.heap.size ≤ z9) s.heap H locs) (hl : lv_has ls 7 [(0, .ref b), (1, .ref (a 0)), (2, .ref (am 0)), (3, .ref ao), (4, .int (iI i))])
    (kk : ∀ (H : Heap) (locs : List Loc) (ls : Array Slot), va_P (dC, dI) vwCl ([wo cs ao res.2.2] ++ w4 cs a res.2.1 ++ [w5 cs am res.1]).flatten H → va_S (fun z9 : Nat => s.heap.size ≤ z9) s.heap H locs → lv_has ls 7 [(0, .ref b), (1, .ref (a 0)), (2, .ref (am 0)), (3, .ref ao), (4, .int (iI i))] → W p l e room_1 s m #[Value.ref b] below meth c H locs (cells + 1) (slots + 6) Q (F0 m 1303 ls [])) : W p l e room_1 s m #[Value.ref b] below meth c H locs cells slots Q (F0 m 160 ls []) := by
  have hA : ∀ z9 : Nat, s.heap.size ≤ z9 → (fun z9 : Nat => s.heap.size ≤ z9) z9 := fun z9 h => h
  have hbA : ¬ (fun z9 : Nat => s.heap.size ≤ z9) b := Nat.not_le.mpr hbl
  have hcr1 : room_1.cells = 601024 := rfl
  have hcr2 : room_1.slots = 7293034 := rfl
  unfold fC_begin at hf
  refine lv_aload_n hx hb dL_law_160 rfl (lv_at hl 1 rfl) ?_
  refine lv_aload_n hx hb dL_law_161 rfl (lv_at hl 0 rfl) ?_
  refine lv_iload hx hb dL_law_162 (lv_at hl 4 rfl) ?_
  refine xk_iconst hx hb dL_law_164 ?_
  refine xk_iadd hx hb dL_law_165 ?_
  refine xk_sld hx hb hX hbl hbA hS (by omega) (by omega) hL dL_law_166 ?_
  refine lv_aload_n hx hb dL_law_167 rfl (lv_at hl 3 rfl) ?_
  obtain ⟨⟨k9, y1, o1⟩, ek9, hf⟩ := x_bind hf
  refine xf_sw (As := [.ref (a 0), .int (iI (x_sc xs (i + 1))), .ref ao]) (rest := []) (wcs := [wo cs ao o] ++ w4 cs a y) (w1s := [wo cs ao o1] ++ w4 cs a y1) ⟨hx, hb, hml, hown, hts⟩ (kL_begin l hlS dC dI cs a ao H.size y o (x_sc xs (i + 1)) _ ek9) (vx_cwSW 3 hts gL_law_L_begin rfl rfl rfl cdL_begin ⟨Nat.le_of_ble_eq_true rfl, Nat.le_of_ble_eq_true rfl⟩) hK hP hD hS hA hT hN [0, 1, 2, 3, 4, 5, 6, 7, 8, 9, 10] rfl rfl rfl (by decide) rfl rfl hl.1 rfl (Nat.le_of_ble_eq_true rfl) dL_law_168 ⟨by omega, by omega⟩ (fun H locs hP hS => ?_)
  have hP : va_P (dC, dI) vwCl ([wo cs ao o1] ++ w4 cs a y1 ++ [w5 cs am x]).flatten H := hP
  have hD : va_D (fun z9 : Nat => s.heap.size ≤ z9) ([wo cs ao o1] ++ w4 cs a y1 ++ [w5 cs am x]).flatten := x_addrF hD rfl
  refine lv_istore (lv' := [(5, .int (iI k9)), (0, .ref b), (1, .ref (a 0)), (2, .ref (am 0)), (3, .ref ao), (4, .int (iI i))]) hx hb dL_law_171 hl (by decide) rfl (fun ls hl => ?_)
  refine lv_aload_n hx hb dL_law_173 rfl (lv_at hl 3 rfl) ?_
  refine lv_aload_n hx hb dL_law_174 rfl (lv_at hl 1 rfl) ?_
  refine lv_iload hx hb dL_law_175 (lv_at hl 5 rfl) ?_
  refine xk_iconst hx hb dL_law_177 ?_
  refine xk_iadd hx hb dL_law_178 ?_
  refine xk_sld hx hb hX hbl hbA hS (by omega) (by omega) hL dL_law_179 ?_
  obtain ⟨⟨v9, x1⟩, ev180, hf⟩ := x_bind hf
  refine xf_wi (As := [.int (iI (x_sc xs (i + 1)))]) (rest := []) (wcs := [w5 cs am x]) (w1s := [w5 cs am x1]) ⟨hx, hb, hml, hown, hts⟩ (c5_begin l dC dI cs am H.size x (x_sc xs (i + 1)) _ ev180) (cwV 1 hts gL_law_X5_begin rfl rfl rfl cdX5_begin ⟨Nat.le_of_ble_eq_true rfl, Nat.le_of_ble_eq_true rfl⟩) hK hP hD hS hA [11] (by simp only [List.flatten_cons, List.flatten_nil, List.append_nil, List.cons_append, List.nil_append]) (by simp only [List.flatten_cons, List.flatten_nil, List.append_nil, List.cons_append, List.nil_append]) rfl (by decide) rfl rfl rfl rfl hl.1 rfl (Nat.le_of_ble_eq_true rfl) dL_law_180 ⟨by omega, by omega⟩ (fun H locs hP hS => ?_)
  have hP : va_P (dC, dI) vwCl ([wo cs ao o1] ++ w4 cs a y1 ++ [w5 cs am x1]).flatten H := hP
  have hD : va_D (fun z9 : Nat => s.heap.size ≤ z9) ([wo cs ao o1] ++ w4 cs a y1 ++ [w5 cs am x1]).flatten := x_addrF hD rfl
  refine lv_istore (lv' := [(6, .int (iI v9)), (5, .int (iI k9)), (0, .ref b), (1, .ref (a 0)), (2, .ref (am 0)), (3, .ref ao), (4, .int (iI i))]) hx hb dL_law_183 hl (by decide) rfl (fun ls hl => ?_)
  refine lv_aload_n hx hb dL_law_185 rfl (lv_at hl 4 rfl) ?_
  obtain ⟨t9, ev186, hf⟩ := x_bind hf
  refine xf_ri (As := []) (rest := []) (wcs := [w5 cs am x1]) ⟨hx, hb, hml, hown, hts⟩ (c5_thrown l dC dI cs am x1 _ ev186) (cwV 0 hts gL_law_X5_thrown rfl rfl rfl cdX5_thrown ⟨Nat.le_of_ble_eq_true rfl, Nat.le_of_ble_eq_true rfl⟩) hK hP [11] (by simp only [List.flatten_cons, List.flatten_nil, List.append_nil, List.cons_append, List.nil_append]) rfl rfl rfl rfl hl.1 rfl (Nat.le_of_ble_eq_true rfl) dL_law_186 ⟨by omega, by omega⟩ ?_
  refine lv_iload hx hb dL_law_189 (lv_at hl 1 rfl) ?_
  obtain ⟨h1a, h1b, h1t, h1f⟩ := x_eqE hf
  refine xk_icmp_eq (tgt := 196) hx hb h1a h1b dL_law_191 (by decide) (fun hq => ?_) (fun hq => by cases h1f hq)
  have hf := h1t hq
  obtain ⟨h2a, h2b, h2t, h2f⟩ := x_eqE hf
  refine lv_iload hx hb dL_law_196 (lv_at hl 1 rfl) ?_
  refine xk_if_ne (tgt := 213) hx hb h2a dL_law_198 (by decide) (fun hq2 => ?_) (fun hq2 => ?_)
  · have hf := h2t hq2
    obtain ⟨h3, hf⟩ := x_ckE hf
    by_cases h4 : o1 0 = v9
    · rw [if_pos h4] at hf
      refine lv_aload_n hx hb dL_law_201 rfl (lv_at hl 5 rfl) ?_
      refine xk_iconst hx hb dL_law_202 ?_
      refine xk_lald hx hb hK hP 0 3 (by decide) (by decide) (by decide) rfl rfl dL_law_203 ?_
      rw [h4]
      refine lv_iload hx hb dL_law_204 (lv_at hl 0 rfl) ?_
      refine xk_i2l hx hb h3 dL_law_206 ?_
      refine xk_lcmp0 hx hb dL_law_207 ?_
      refine xk_if_eq (tgt := 213) hx hb (by decide) dL_law_208 (by decide) (fun _ => ?_) (fun hz => absurd rfl hz)
      refine lv_goto (tgt := 1303) hx hb dL_law_213 (by decide) ?_
      obtain rfl := Option.some.inj hf
      exact kk _ _ _ hP hS (lv_sub hl [2, 3, 4, 5, 6] rfl)
    · rw [if_neg h4] at hf; cases hf
  · have hf := h2f hq2
    refine lv_goto (tgt := 1303) hx hb dL_law_213 (by decide) ?_
    obtain rfl := Option.some.inj hf
    exact kk _ _ _ hP hS (lv_sub hl [2, 3, 4, 5, 6] rfl)

set_option maxHeartbeats 4000000 in
set_option maxRecDepth 100000 in
theorem kC_load {p : Program} {e : Env} {s : State} {m : MethodId} {below : List Frame} {meth : Method} {c : Code} {b L : Nat} {xs : Nat → Int32} (l : Launch) (hlS : l.stackTraces = false) (dC : Nat → ClassId) (dI : Nat → Nat → Nat) (cs : Nat → ClassId) (a am : Nat → Nat) (ao : Nat) (hL : L ≤ 2048) (hx : p.tables.exec = Jvm.exec) (hb : c.code = cL_law) (hml : c.maxLocals = 7) (hown : s.vm.findClass RL = some m.cls) (hts : ∀ w ∈ wsL_law, w.before #[Value.ref b] s = true) (hX : va_X b L xs s s.heap) (hbl : b < s.heap.size) (hT : xTh (fun z9 : Nat => s.heap.size ≤ z9) s) (hN : ∀ q ∈ x_ncs, va_Nc q.1 q.2 s) (hK : va_K (dC, dI) vwCl (xT cs) s) {Q : State → Prop} (x : ModS) (y : BrS) (o : Int → Int) (i : Int) (res : ModS × BrS × (Int → Int)) (hf : fC_load (x_sc xs) i x y o = some res) (h0 : 0 ≤ i) (h1 : i + 4 ≤ (L : Int)) {cells slots : Nat} (hc : cells + 1 ≤ 601024 ∧ slots + 6 ≤ 7293034) {H : Heap} {locs : List Loc} {ls : Array Slot} (hP : va_P (dC, dI) vwCl ([wo cs ao o] ++ w4 cs a y ++ [w5 cs am x]).flatten H) (hD : va_D (fun z9 : Nat => s.heap.size ≤ z9) ([wo cs ao o] ++ w4 cs a y ++ [w5 cs am x]).flatten) (hS : va_S (fun z9 : Nat => s.heap.size ≤ z9) s.heap H locs) (hl : lv_has ls 7 [(0, .ref b), (1, .ref (a 0)), (2, .ref (am 0)), (3, .ref ao), (4, .int (iI i))])
    (kk : ∀ (H : Heap) (locs : List Loc) (ls : Array Slot), va_P (dC, dI) vwCl ([wo cs ao res.2.2] ++ w4 cs a res.2.1 ++ [w5 cs am res.1]).flatten H → va_S (fun z9 : Nat => s.heap.size ≤ z9) s.heap H locs → lv_has ls 7 [(0, .ref b), (1, .ref (a 0)), (2, .ref (am 0)), (3, .ref ao), (4, .int (iI i))] → W p l e room_1 s m #[Value.ref b] below meth c H locs (cells + 1) (slots + 6) Q (F0 m 1303 ls [])) : W p l e room_1 s m #[Value.ref b] below meth c H locs cells slots Q (F0 m 216 ls []) := by
  have hA : ∀ z9 : Nat, s.heap.size ≤ z9 → (fun z9 : Nat => s.heap.size ≤ z9) z9 := fun z9 h => h
  have hbA : ¬ (fun z9 : Nat => s.heap.size ≤ z9) b := Nat.not_le.mpr hbl
  have hcr1 : room_1.cells = 601024 := rfl
  have hcr2 : room_1.slots = 7293034 := rfl
  unfold fC_load at hf
  refine lv_aload_n hx hb dL_law_216 rfl (lv_at hl 1 rfl) ?_
  refine lv_aload_n hx hb dL_law_217 rfl (lv_at hl 0 rfl) ?_
  refine lv_iload hx hb dL_law_218 (lv_at hl 4 rfl) ?_
  refine xk_iconst hx hb dL_law_220 ?_
  refine xk_iadd hx hb dL_law_221 ?_
  refine xk_sld hx hb hX hbl hbA hS (by omega) (by omega) hL dL_law_222 ?_
  refine lv_aload_n hx hb dL_law_223 rfl (lv_at hl 0 rfl) ?_
  refine lv_iload hx hb dL_law_224 (lv_at hl 4 rfl) ?_
  refine xk_iconst hx hb dL_law_226 ?_
  refine xk_iadd hx hb dL_law_227 ?_
  refine xk_sld hx hb hX hbl hbA hS (by omega) (by omega) hL dL_law_228 ?_
  refine lv_aload_n hx hb dL_law_229 rfl (lv_at hl 3 rfl) ?_
  obtain ⟨⟨k9, y1, o1⟩, ek9, hf⟩ := x_bind hf
  refine xf_sw (As := [.ref (a 0), .int (iI (x_sc xs (i + 1))), .int (iI (x_sc xs (i + 2))), .ref ao]) (rest := []) (wcs := [wo cs ao o] ++ w4 cs a y) (w1s := [wo cs ao o1] ++ w4 cs a y1) ⟨hx, hb, hml, hown, hts⟩ (kL_load l hlS dC dI cs a ao H.size y o (x_sc xs (i + 1)) (x_sc xs (i + 2)) _ ek9) (vx_cwSW 4 hts gL_law_L_load rfl rfl rfl cdL_load ⟨Nat.le_of_ble_eq_true rfl, Nat.le_of_ble_eq_true rfl⟩) hK hP hD hS hA hT hN [0, 1, 2, 3, 4, 5, 6, 7, 8, 9, 10] rfl rfl rfl (by decide) rfl rfl hl.1 rfl (Nat.le_of_ble_eq_true rfl) dL_law_230 ⟨by omega, by omega⟩ (fun H locs hP hS => ?_)
  have hP : va_P (dC, dI) vwCl ([wo cs ao o1] ++ w4 cs a y1 ++ [w5 cs am x]).flatten H := hP
  have hD : va_D (fun z9 : Nat => s.heap.size ≤ z9) ([wo cs ao o1] ++ w4 cs a y1 ++ [w5 cs am x]).flatten := x_addrF hD rfl
  refine lv_istore (lv' := [(5, .int (iI k9)), (0, .ref b), (1, .ref (a 0)), (2, .ref (am 0)), (3, .ref ao), (4, .int (iI i))]) hx hb dL_law_233 hl (by decide) rfl (fun ls hl => ?_)
  refine lv_aload_n hx hb dL_law_235 rfl (lv_at hl 3 rfl) ?_
  refine lv_aload_n hx hb dL_law_236 rfl (lv_at hl 1 rfl) ?_
  refine lv_iload hx hb dL_law_237 (lv_at hl 5 rfl) ?_
  refine xk_iconst hx hb dL_law_239 ?_
  refine xk_iadd hx hb dL_law_240 ?_
  refine xk_sld hx hb hX hbl hbA hS (by omega) (by omega) hL dL_law_241 ?_
  refine lv_aload_n hx hb dL_law_242 rfl (lv_at hl 1 rfl) ?_
  refine lv_iload hx hb dL_law_243 (lv_at hl 5 rfl) ?_
  refine xk_iconst hx hb dL_law_245 ?_
  refine xk_iadd hx hb dL_law_246 ?_
  refine xk_sld hx hb hX hbl hbA hS (by omega) (by omega) hL dL_law_247 ?_
  obtain ⟨⟨v9, x1⟩, ev248, hf⟩ := x_bind hf
  refine xf_wi (As := [.int (iI (x_sc xs (i + 1))), .int (iI (x_sc xs (i + 2)))]) (rest := []) (wcs := [w5 cs am x]) (w1s := [w5 cs am x1]) ⟨hx, hb, hml, hown, hts⟩ (c5_load l dC dI cs am H.size x (x_sc xs (i + 1)) (x_sc xs (i + 2)) _ ev248) (cwV 2 hts gL_law_X5_load rfl rfl rfl cdX5_load ⟨Nat.le_of_ble_eq_true rfl, Nat.le_of_ble_eq_true rfl⟩) hK hP hD hS hA [11] (by simp only [List.flatten_cons, List.flatten_nil, List.append_nil, List.cons_append, List.nil_append]) (by simp only [List.flatten_cons, List.flatten_nil, List.append_nil, List.cons_append, List.nil_append]) rfl (by decide) rfl rfl rfl rfl hl.1 rfl (Nat.le_of_ble_eq_true rfl) dL_law_248 ⟨by omega, by omega⟩ (fun H locs hP hS => ?_)
  have hP : va_P (dC, dI) vwCl ([wo cs ao o1] ++ w4 cs a y1 ++ [w5 cs am x1]).flatten H := hP
  have hD : va_D (fun z9 : Nat => s.heap.size ≤ z9) ([wo cs ao o1] ++ w4 cs a y1 ++ [w5 cs am x1]).flatten := x_addrF hD rfl
  refine lv_istore (lv' := [(6, .int (iI v9)), (5, .int (iI k9)), (0, .ref b), (1, .ref (a 0)), (2, .ref (am 0)), (3, .ref ao), (4, .int (iI i))]) hx hb dL_law_251 hl (by decide) rfl (fun ls hl => ?_)
  refine lv_aload_n hx hb dL_law_253 rfl (lv_at hl 4 rfl) ?_
  obtain ⟨t9, ev254, hf⟩ := x_bind hf
  refine xf_ri (As := []) (rest := []) (wcs := [w5 cs am x1]) ⟨hx, hb, hml, hown, hts⟩ (c5_thrown l dC dI cs am x1 _ ev254) (cwV 0 hts gL_law_X5_thrown rfl rfl rfl cdX5_thrown ⟨Nat.le_of_ble_eq_true rfl, Nat.le_of_ble_eq_true rfl⟩) hK hP [11] (by simp only [List.flatten_cons, List.flatten_nil, List.append_nil, List.cons_append, List.nil_append]) rfl rfl rfl rfl hl.1 rfl (Nat.le_of_ble_eq_true rfl) dL_law_254 ⟨by omega, by omega⟩ ?_
  refine lv_iload hx hb dL_law_257 (lv_at hl 1 rfl) ?_
  obtain ⟨h1a, h1b, h1t, h1f⟩ := x_eqE hf
  refine xk_icmp_eq (tgt := 264) hx hb h1a h1b dL_law_259 (by decide) (fun hq => ?_) (fun hq => by cases h1f hq)
  have hf := h1t hq
  obtain ⟨h2a, h2b, h2t, h2f⟩ := x_eqE hf
  refine lv_iload hx hb dL_law_264 (lv_at hl 1 rfl) ?_
  refine xk_if_ne (tgt := 281) hx hb h2a dL_law_266 (by decide) (fun hq2 => ?_) (fun hq2 => ?_)
  · have hf := h2t hq2
    obtain ⟨h3, hf⟩ := x_ckE hf
    by_cases h4 : o1 0 = v9
    · rw [if_pos h4] at hf
      refine lv_aload_n hx hb dL_law_269 rfl (lv_at hl 5 rfl) ?_
      refine xk_iconst hx hb dL_law_270 ?_
      refine xk_lald hx hb hK hP 0 3 (by decide) (by decide) (by decide) rfl rfl dL_law_271 ?_
      rw [h4]
      refine lv_iload hx hb dL_law_272 (lv_at hl 0 rfl) ?_
      refine xk_i2l hx hb h3 dL_law_274 ?_
      refine xk_lcmp0 hx hb dL_law_275 ?_
      refine xk_if_eq (tgt := 281) hx hb (by decide) dL_law_276 (by decide) (fun _ => ?_) (fun hz => absurd rfl hz)
      refine lv_goto (tgt := 1303) hx hb dL_law_281 (by decide) ?_
      obtain rfl := Option.some.inj hf
      exact kk _ _ _ hP hS (lv_sub hl [2, 3, 4, 5, 6] rfl)
    · rw [if_neg h4] at hf; cases hf
  · have hf := h2f hq2
    refine lv_goto (tgt := 1303) hx hb dL_law_281 (by decide) ?_
    obtain rfl := Option.some.inj hf
    exact kk _ _ _ hP hS (lv_sub hl [2, 3, 4, 5, 6] rfl)

set_option maxHeartbeats 4000000 in
set_option maxRecDepth 100000 in
theorem kC_loadDrawn {p : Program} {e : Env} {s : State} {m : MethodId} {below : List Frame} {meth : Method} {c : Code} {b L : Nat} {xs : Nat → Int32} (l : Launch) (hlS : l.stackTraces = false) (dC : Nat → ClassId) (dI : Nat → Nat → Nat) (cs : Nat → ClassId) (a am : Nat → Nat) (ao : Nat) (hL : L ≤ 2048) (hx : p.tables.exec = Jvm.exec) (hb : c.code = cL_law) (hml : c.maxLocals = 7) (hown : s.vm.findClass RL = some m.cls) (hts : ∀ w ∈ wsL_law, w.before #[Value.ref b] s = true) (hX : va_X b L xs s s.heap) (hbl : b < s.heap.size) (hT : xTh (fun z9 : Nat => s.heap.size ≤ z9) s) (hN : ∀ q ∈ x_ncs, va_Nc q.1 q.2 s) (hK : va_K (dC, dI) vwCl (xT cs) s) {Q : State → Prop} (x : ModS) (y : BrS) (o : Int → Int) (i : Int) (res : ModS × BrS × (Int → Int)) (hf : fC_loadDrawn (x_sc xs) i x y o = some res) (h0 : 0 ≤ i) (h1 : i + 4 ≤ (L : Int)) {cells slots : Nat} (hc : cells + 1 ≤ 601024 ∧ slots + 6 ≤ 7293034) {H : Heap} {locs : List Loc} {ls : Array Slot} (hP : va_P (dC, dI) vwCl ([wo cs ao o] ++ w4 cs a y ++ [w5 cs am x]).flatten H) (hD : va_D (fun z9 : Nat => s.heap.size ≤ z9) ([wo cs ao o] ++ w4 cs a y ++ [w5 cs am x]).flatten) (hS : va_S (fun z9 : Nat => s.heap.size ≤ z9) s.heap H locs) (hl : lv_has ls 7 [(0, .ref b), (1, .ref (a 0)), (2, .ref (am 0)), (3, .ref ao), (4, .int (iI i))])
    (kk : ∀ (H : Heap) (locs : List Loc) (ls : Array Slot), va_P (dC, dI) vwCl ([wo cs ao res.2.2] ++ w4 cs a res.2.1 ++ [w5 cs am res.1]).flatten H → va_S (fun z9 : Nat => s.heap.size ≤ z9) s.heap H locs → lv_has ls 7 [(0, .ref b), (1, .ref (a 0)), (2, .ref (am 0)), (3, .ref ao), (4, .int (iI i))] → W p l e room_1 s m #[Value.ref b] below meth c H locs (cells + 1) (slots + 6) Q (F0 m 1303 ls [])) : W p l e room_1 s m #[Value.ref b] below meth c H locs cells slots Q (F0 m 284 ls []) := by
  have hA : ∀ z9 : Nat, s.heap.size ≤ z9 → (fun z9 : Nat => s.heap.size ≤ z9) z9 := fun z9 h => h
  have hbA : ¬ (fun z9 : Nat => s.heap.size ≤ z9) b := Nat.not_le.mpr hbl
  have hcr1 : room_1.cells = 601024 := rfl
  have hcr2 : room_1.slots = 7293034 := rfl
  unfold fC_loadDrawn at hf
  refine lv_aload_n hx hb dL_law_284 rfl (lv_at hl 1 rfl) ?_
  refine lv_aload_n hx hb dL_law_285 rfl (lv_at hl 0 rfl) ?_
  refine lv_iload hx hb dL_law_286 (lv_at hl 4 rfl) ?_
  refine xk_iconst hx hb dL_law_288 ?_
  refine xk_iadd hx hb dL_law_289 ?_
  refine xk_sld hx hb hX hbl hbA hS (by omega) (by omega) hL dL_law_290 ?_
  refine lv_aload_n hx hb dL_law_291 rfl (lv_at hl 0 rfl) ?_
  refine lv_iload hx hb dL_law_292 (lv_at hl 4 rfl) ?_
  refine xk_iconst hx hb dL_law_294 ?_
  refine xk_iadd hx hb dL_law_295 ?_
  refine xk_sld hx hb hX hbl hbA hS (by omega) (by omega) hL dL_law_296 ?_
  refine lv_aload_n hx hb dL_law_297 rfl (lv_at hl 0 rfl) ?_
  refine lv_iload hx hb dL_law_298 (lv_at hl 4 rfl) ?_
  refine xk_iconst hx hb dL_law_300 ?_
  refine xk_iadd hx hb dL_law_301 ?_
  refine xk_sld hx hb hX hbl hbA hS (by omega) (by omega) hL dL_law_302 ?_
  refine lv_aload_n hx hb dL_law_303 rfl (lv_at hl 3 rfl) ?_
  obtain ⟨⟨k9, y1, o1⟩, ek9, hf⟩ := x_bind hf
  refine xf_sw (As := [.ref (a 0), .int (iI (x_sc xs (i + 1))), .int (iI (x_sc xs (i + 2))), .int (iI (x_sc xs (i + 3))), .ref ao]) (rest := []) (wcs := [wo cs ao o] ++ w4 cs a y) (w1s := [wo cs ao o1] ++ w4 cs a y1) ⟨hx, hb, hml, hown, hts⟩ (kL_loadDrawn l hlS dC dI cs a ao H.size y o (x_sc xs (i + 1)) (x_sc xs (i + 2)) (x_sc xs (i + 3)) _ ek9) (vx_cwSW 5 hts gL_law_L_loadDrawn rfl rfl rfl cdL_loadDrawn ⟨Nat.le_of_ble_eq_true rfl, Nat.le_of_ble_eq_true rfl⟩) hK hP hD hS hA hT hN [0, 1, 2, 3, 4, 5, 6, 7, 8, 9, 10] rfl rfl rfl (by decide) rfl rfl hl.1 rfl (Nat.le_of_ble_eq_true rfl) dL_law_304 ⟨by omega, by omega⟩ (fun H locs hP hS => ?_)
  have hP : va_P (dC, dI) vwCl ([wo cs ao o1] ++ w4 cs a y1 ++ [w5 cs am x]).flatten H := hP
  have hD : va_D (fun z9 : Nat => s.heap.size ≤ z9) ([wo cs ao o1] ++ w4 cs a y1 ++ [w5 cs am x]).flatten := x_addrF hD rfl
  refine lv_istore (lv' := [(5, .int (iI k9)), (0, .ref b), (1, .ref (a 0)), (2, .ref (am 0)), (3, .ref ao), (4, .int (iI i))]) hx hb dL_law_307 hl (by decide) rfl (fun ls hl => ?_)
  refine lv_aload_n hx hb dL_law_309 rfl (lv_at hl 3 rfl) ?_
  refine lv_aload_n hx hb dL_law_310 rfl (lv_at hl 1 rfl) ?_
  refine lv_iload hx hb dL_law_311 (lv_at hl 5 rfl) ?_
  refine xk_iconst hx hb dL_law_313 ?_
  refine xk_iadd hx hb dL_law_314 ?_
  refine xk_sld hx hb hX hbl hbA hS (by omega) (by omega) hL dL_law_315 ?_
  refine lv_aload_n hx hb dL_law_316 rfl (lv_at hl 1 rfl) ?_
  refine lv_iload hx hb dL_law_317 (lv_at hl 5 rfl) ?_
  refine xk_iconst hx hb dL_law_319 ?_
  refine xk_iadd hx hb dL_law_320 ?_
  refine xk_sld hx hb hX hbl hbA hS (by omega) (by omega) hL dL_law_321 ?_
  refine lv_aload_n hx hb dL_law_322 rfl (lv_at hl 1 rfl) ?_
  refine lv_iload hx hb dL_law_323 (lv_at hl 5 rfl) ?_
  refine xk_iconst hx hb dL_law_325 ?_
  refine xk_iadd hx hb dL_law_326 ?_
  refine xk_sld hx hb hX hbl hbA hS (by omega) (by omega) hL dL_law_327 ?_
  obtain ⟨⟨v9, x1⟩, ev328, hf⟩ := x_bind hf
  refine xf_wi (As := [.int (iI (x_sc xs (i + 1))), .int (iI (x_sc xs (i + 2))), .int (iI (x_sc xs (i + 3)))]) (rest := []) (wcs := [w5 cs am x]) (w1s := [w5 cs am x1]) ⟨hx, hb, hml, hown, hts⟩ (c5_loadDrawn l dC dI cs am H.size x (x_sc xs (i + 1)) (x_sc xs (i + 2)) (x_sc xs (i + 3)) _ ev328) (cwV 3 hts gL_law_X5_loadDrawn rfl rfl rfl cdX5_loadDrawn ⟨Nat.le_of_ble_eq_true rfl, Nat.le_of_ble_eq_true rfl⟩) hK hP hD hS hA [11] (by simp only [List.flatten_cons, List.flatten_nil, List.append_nil, List.cons_append, List.nil_append]) (by simp only [List.flatten_cons, List.flatten_nil, List.append_nil, List.cons_append, List.nil_append]) rfl (by decide) rfl rfl rfl rfl hl.1 rfl (Nat.le_of_ble_eq_true rfl) dL_law_328 ⟨by omega, by omega⟩ (fun H locs hP hS => ?_)
  have hP : va_P (dC, dI) vwCl ([wo cs ao o1] ++ w4 cs a y1 ++ [w5 cs am x1]).flatten H := hP
  have hD : va_D (fun z9 : Nat => s.heap.size ≤ z9) ([wo cs ao o1] ++ w4 cs a y1 ++ [w5 cs am x1]).flatten := x_addrF hD rfl
  refine lv_istore (lv' := [(6, .int (iI v9)), (5, .int (iI k9)), (0, .ref b), (1, .ref (a 0)), (2, .ref (am 0)), (3, .ref ao), (4, .int (iI i))]) hx hb dL_law_331 hl (by decide) rfl (fun ls hl => ?_)
  refine lv_aload_n hx hb dL_law_333 rfl (lv_at hl 4 rfl) ?_
  obtain ⟨t9, ev334, hf⟩ := x_bind hf
  refine xf_ri (As := []) (rest := []) (wcs := [w5 cs am x1]) ⟨hx, hb, hml, hown, hts⟩ (c5_thrown l dC dI cs am x1 _ ev334) (cwV 0 hts gL_law_X5_thrown rfl rfl rfl cdX5_thrown ⟨Nat.le_of_ble_eq_true rfl, Nat.le_of_ble_eq_true rfl⟩) hK hP [11] (by simp only [List.flatten_cons, List.flatten_nil, List.append_nil, List.cons_append, List.nil_append]) rfl rfl rfl rfl hl.1 rfl (Nat.le_of_ble_eq_true rfl) dL_law_334 ⟨by omega, by omega⟩ ?_
  refine lv_iload hx hb dL_law_337 (lv_at hl 1 rfl) ?_
  obtain ⟨h1a, h1b, h1t, h1f⟩ := x_eqE hf
  refine xk_icmp_eq (tgt := 344) hx hb h1a h1b dL_law_339 (by decide) (fun hq => ?_) (fun hq => by cases h1f hq)
  have hf := h1t hq
  obtain ⟨h2a, h2b, h2t, h2f⟩ := x_eqE hf
  refine lv_iload hx hb dL_law_344 (lv_at hl 1 rfl) ?_
  refine xk_if_ne (tgt := 361) hx hb h2a dL_law_346 (by decide) (fun hq2 => ?_) (fun hq2 => ?_)
  · have hf := h2t hq2
    obtain ⟨h3, hf⟩ := x_ckE hf
    by_cases h4 : o1 0 = v9
    · rw [if_pos h4] at hf
      refine lv_aload_n hx hb dL_law_349 rfl (lv_at hl 5 rfl) ?_
      refine xk_iconst hx hb dL_law_350 ?_
      refine xk_lald hx hb hK hP 0 3 (by decide) (by decide) (by decide) rfl rfl dL_law_351 ?_
      rw [h4]
      refine lv_iload hx hb dL_law_352 (lv_at hl 0 rfl) ?_
      refine xk_i2l hx hb h3 dL_law_354 ?_
      refine xk_lcmp0 hx hb dL_law_355 ?_
      refine xk_if_eq (tgt := 361) hx hb (by decide) dL_law_356 (by decide) (fun _ => ?_) (fun hz => absurd rfl hz)
      refine lv_goto (tgt := 1303) hx hb dL_law_361 (by decide) ?_
      obtain rfl := Option.some.inj hf
      exact kk _ _ _ hP hS (lv_sub hl [2, 3, 4, 5, 6] rfl)
    · rw [if_neg h4] at hf; cases hf
  · have hf := h2f hq2
    refine lv_goto (tgt := 1303) hx hb dL_law_361 (by decide) ?_
    obtain rfl := Option.some.inj hf
    exact kk _ _ _ hP hS (lv_sub hl [2, 3, 4, 5, 6] rfl)

set_option maxHeartbeats 4000000 in
set_option maxRecDepth 100000 in
theorem kC_empty {p : Program} {e : Env} {s : State} {m : MethodId} {below : List Frame} {meth : Method} {c : Code} {b L : Nat} {xs : Nat → Int32} (l : Launch) (hlS : l.stackTraces = false) (dC : Nat → ClassId) (dI : Nat → Nat → Nat) (cs : Nat → ClassId) (a am : Nat → Nat) (ao : Nat) (hL : L ≤ 2048) (hx : p.tables.exec = Jvm.exec) (hb : c.code = cL_law) (hml : c.maxLocals = 7) (hown : s.vm.findClass RL = some m.cls) (hts : ∀ w ∈ wsL_law, w.before #[Value.ref b] s = true) (hX : va_X b L xs s s.heap) (hbl : b < s.heap.size) (hT : xTh (fun z9 : Nat => s.heap.size ≤ z9) s) (hN : ∀ q ∈ x_ncs, va_Nc q.1 q.2 s) (hK : va_K (dC, dI) vwCl (xT cs) s) {Q : State → Prop} (x : ModS) (y : BrS) (o : Int → Int) (i : Int) (res : ModS × BrS × (Int → Int)) (hf : fC_empty (x_sc xs) i x y o = some res) (h0 : 0 ≤ i) (h1 : i + 4 ≤ (L : Int)) {cells slots : Nat} (hc : cells + 1 ≤ 601024 ∧ slots + 6 ≤ 7293034) {H : Heap} {locs : List Loc} {ls : Array Slot} (hP : va_P (dC, dI) vwCl ([wo cs ao o] ++ w4 cs a y ++ [w5 cs am x]).flatten H) (hD : va_D (fun z9 : Nat => s.heap.size ≤ z9) ([wo cs ao o] ++ w4 cs a y ++ [w5 cs am x]).flatten) (hS : va_S (fun z9 : Nat => s.heap.size ≤ z9) s.heap H locs) (hl : lv_has ls 7 [(0, .ref b), (1, .ref (a 0)), (2, .ref (am 0)), (3, .ref ao), (4, .int (iI i))])
    (kk : ∀ (H : Heap) (locs : List Loc) (ls : Array Slot), va_P (dC, dI) vwCl ([wo cs ao res.2.2] ++ w4 cs a res.2.1 ++ [w5 cs am res.1]).flatten H → va_S (fun z9 : Nat => s.heap.size ≤ z9) s.heap H locs → lv_has ls 7 [(0, .ref b), (1, .ref (a 0)), (2, .ref (am 0)), (3, .ref ao), (4, .int (iI i))] → W p l e room_1 s m #[Value.ref b] below meth c H locs (cells + 1) (slots + 6) Q (F0 m 1303 ls [])) : W p l e room_1 s m #[Value.ref b] below meth c H locs cells slots Q (F0 m 364 ls []) := by
  have hA : ∀ z9 : Nat, s.heap.size ≤ z9 → (fun z9 : Nat => s.heap.size ≤ z9) z9 := fun z9 h => h
  have hbA : ¬ (fun z9 : Nat => s.heap.size ≤ z9) b := Nat.not_le.mpr hbl
  have hcr1 : room_1.cells = 601024 := rfl
  have hcr2 : room_1.slots = 7293034 := rfl
  unfold fC_empty at hf
  refine lv_aload_n hx hb dL_law_364 rfl (lv_at hl 1 rfl) ?_
  obtain ⟨⟨v9, y1⟩, ev365, hf⟩ := x_bind hf
  refine xf_wi (As := []) (rest := []) (wcs := (w4 cs a y)) (w1s := (w4 cs a y1)) ⟨hx, hb, hml, hown, hts⟩ (c4_empty l dC dI cs a H.size y _ ev365) (cwV 0 hts gL_law_X4_empty rfl rfl rfl cdX4_empty ⟨Nat.le_of_ble_eq_true rfl, Nat.le_of_ble_eq_true rfl⟩) hK hP hD hS hA [1, 2, 3, 4, 5, 6, 7, 8, 9, 10] rfl rfl rfl (by decide) rfl rfl rfl rfl hl.1 rfl (Nat.le_of_ble_eq_true rfl) dL_law_365 ⟨by omega, by omega⟩ (fun H locs hP hS => ?_)
  have hP : va_P (dC, dI) vwCl ([wo cs ao o] ++ w4 cs a y1 ++ [w5 cs am x]).flatten H := hP
  have hD : va_D (fun z9 : Nat => s.heap.size ≤ z9) ([wo cs ao o] ++ w4 cs a y1 ++ [w5 cs am x]).flatten := x_addrF hD rfl
  refine lv_aload_n hx hb dL_law_368 rfl (lv_at hl 2 rfl) ?_
  obtain ⟨⟨u9, x1⟩, ev369, hf⟩ := x_bind hf
  refine xf_wi (As := []) (rest := [.int (iI v9)]) (wcs := [w5 cs am x]) (w1s := [w5 cs am x1]) ⟨hx, hb, hml, hown, hts⟩ (c5_empty l dC dI cs am H.size x _ ev369) (cwV 0 hts gL_law_X5_empty rfl rfl rfl cdX5_empty ⟨Nat.le_of_ble_eq_true rfl, Nat.le_of_ble_eq_true rfl⟩) hK hP hD hS hA [11] (by simp only [List.flatten_cons, List.flatten_nil, List.append_nil, List.cons_append, List.nil_append]) (by simp only [List.flatten_cons, List.flatten_nil, List.append_nil, List.cons_append, List.nil_append]) rfl (by decide) rfl rfl rfl rfl hl.1 rfl (Nat.le_of_ble_eq_true rfl) dL_law_369 ⟨by omega, by omega⟩ (fun H locs hP hS => ?_)
  have hP : va_P (dC, dI) vwCl ([wo cs ao o] ++ w4 cs a y1 ++ [w5 cs am x1]).flatten H := hP
  have hD : va_D (fun z9 : Nat => s.heap.size ≤ z9) ([wo cs ao o] ++ w4 cs a y1 ++ [w5 cs am x1]).flatten := x_addrF hD rfl
  obtain ⟨h1a, h1b, h1t, h1f⟩ := x_eqE hf
  refine xk_icmp_eq (tgt := 1303) hx hb h1a h1b dL_law_372 (by decide) (fun hq => ?_) (fun hq => by cases h1f hq)
  have hf := h1t hq
  obtain rfl := Option.some.inj hf
  refine W.widen (k := cells + 1) (n := slots + 6) (by omega) (by omega) ?_
  exact kk _ _ _ hP hS hl

set_option maxHeartbeats 4000000 in
set_option maxRecDepth 100000 in
theorem kC_merge {p : Program} {e : Env} {s : State} {m : MethodId} {below : List Frame} {meth : Method} {c : Code} {b L : Nat} {xs : Nat → Int32} (l : Launch) (hlS : l.stackTraces = false) (dC : Nat → ClassId) (dI : Nat → Nat → Nat) (cs : Nat → ClassId) (a am : Nat → Nat) (ao : Nat) (hL : L ≤ 2048) (hx : p.tables.exec = Jvm.exec) (hb : c.code = cL_law) (hml : c.maxLocals = 7) (hown : s.vm.findClass RL = some m.cls) (hts : ∀ w ∈ wsL_law, w.before #[Value.ref b] s = true) (hX : va_X b L xs s s.heap) (hbl : b < s.heap.size) (hT : xTh (fun z9 : Nat => s.heap.size ≤ z9) s) (hN : ∀ q ∈ x_ncs, va_Nc q.1 q.2 s) (hK : va_K (dC, dI) vwCl (xT cs) s) {Q : State → Prop} (x : ModS) (y : BrS) (o : Int → Int) (i : Int) (res : ModS × BrS × (Int → Int)) (hf : fC_merge (x_sc xs) i x y o = some res) (h0 : 0 ≤ i) (h1 : i + 4 ≤ (L : Int)) {cells slots : Nat} (hc : cells + 1 ≤ 601024 ∧ slots + 6 ≤ 7293034) {H : Heap} {locs : List Loc} {ls : Array Slot} (hP : va_P (dC, dI) vwCl ([wo cs ao o] ++ w4 cs a y ++ [w5 cs am x]).flatten H) (hD : va_D (fun z9 : Nat => s.heap.size ≤ z9) ([wo cs ao o] ++ w4 cs a y ++ [w5 cs am x]).flatten) (hS : va_S (fun z9 : Nat => s.heap.size ≤ z9) s.heap H locs) (hl : lv_has ls 7 [(0, .ref b), (1, .ref (a 0)), (2, .ref (am 0)), (3, .ref ao), (4, .int (iI i))])
    (kk : ∀ (H : Heap) (locs : List Loc) (ls : Array Slot), va_P (dC, dI) vwCl ([wo cs ao res.2.2] ++ w4 cs a res.2.1 ++ [w5 cs am res.1]).flatten H → va_S (fun z9 : Nat => s.heap.size ≤ z9) s.heap H locs → lv_has ls 7 [(0, .ref b), (1, .ref (a 0)), (2, .ref (am 0)), (3, .ref ao), (4, .int (iI i))] → W p l e room_1 s m #[Value.ref b] below meth c H locs (cells + 1) (slots + 6) Q (F0 m 1303 ls [])) : W p l e room_1 s m #[Value.ref b] below meth c H locs cells slots Q (F0 m 377 ls []) := by
  have hA : ∀ z9 : Nat, s.heap.size ≤ z9 → (fun z9 : Nat => s.heap.size ≤ z9) z9 := fun z9 h => h
  have hbA : ¬ (fun z9 : Nat => s.heap.size ≤ z9) b := Nat.not_le.mpr hbl
  have hcr1 : room_1.cells = 601024 := rfl
  have hcr2 : room_1.slots = 7293034 := rfl
  unfold fC_merge at hf
  refine lv_aload_n hx hb dL_law_377 rfl (lv_at hl 1 rfl) ?_
  refine lv_aload_n hx hb dL_law_378 rfl (lv_at hl 0 rfl) ?_
  refine lv_iload hx hb dL_law_379 (lv_at hl 4 rfl) ?_
  refine xk_iconst hx hb dL_law_381 ?_
  refine xk_iadd hx hb dL_law_382 ?_
  refine xk_sld hx hb hX hbl hbA hS (by omega) (by omega) hL dL_law_383 ?_
  refine lv_aload_n hx hb dL_law_384 rfl (lv_at hl 0 rfl) ?_
  refine lv_iload hx hb dL_law_385 (lv_at hl 4 rfl) ?_
  refine xk_iconst hx hb dL_law_387 ?_
  refine xk_iadd hx hb dL_law_388 ?_
  refine xk_sld hx hb hX hbl hbA hS (by omega) (by omega) hL dL_law_389 ?_
  refine lv_aload_n hx hb dL_law_390 rfl (lv_at hl 3 rfl) ?_
  obtain ⟨⟨k9, y1, o1⟩, ek9, hf⟩ := x_bind hf
  refine xf_sw (As := [.ref (a 0), .int (iI (x_sc xs (i + 1))), .int (iI (x_sc xs (i + 2))), .ref ao]) (rest := []) (wcs := [wo cs ao o] ++ w4 cs a y) (w1s := [wo cs ao o1] ++ w4 cs a y1) ⟨hx, hb, hml, hown, hts⟩ (kL_merge l hlS dC dI cs a ao H.size y o (x_sc xs (i + 1)) (x_sc xs (i + 2)) _ ek9) (vx_cwSW 4 hts gL_law_L_merge rfl rfl rfl cdL_merge ⟨Nat.le_of_ble_eq_true rfl, Nat.le_of_ble_eq_true rfl⟩) hK hP hD hS hA hT hN [0, 1, 2, 3, 4, 5, 6, 7, 8, 9, 10] rfl rfl rfl (by decide) rfl rfl hl.1 rfl (Nat.le_of_ble_eq_true rfl) dL_law_391 ⟨by omega, by omega⟩ (fun H locs hP hS => ?_)
  have hP : va_P (dC, dI) vwCl ([wo cs ao o1] ++ w4 cs a y1 ++ [w5 cs am x]).flatten H := hP
  have hD : va_D (fun z9 : Nat => s.heap.size ≤ z9) ([wo cs ao o1] ++ w4 cs a y1 ++ [w5 cs am x]).flatten := x_addrF hD rfl
  refine lv_istore (lv' := [(5, .int (iI k9)), (0, .ref b), (1, .ref (a 0)), (2, .ref (am 0)), (3, .ref ao), (4, .int (iI i))]) hx hb dL_law_394 hl (by decide) rfl (fun ls hl => ?_)
  refine lv_aload_n hx hb dL_law_396 rfl (lv_at hl 3 rfl) ?_
  refine lv_aload_n hx hb dL_law_397 rfl (lv_at hl 1 rfl) ?_
  refine lv_iload hx hb dL_law_398 (lv_at hl 5 rfl) ?_
  refine xk_iconst hx hb dL_law_400 ?_
  refine xk_iadd hx hb dL_law_401 ?_
  refine xk_sld hx hb hX hbl hbA hS (by omega) (by omega) hL dL_law_402 ?_
  refine lv_aload_n hx hb dL_law_403 rfl (lv_at hl 1 rfl) ?_
  refine lv_iload hx hb dL_law_404 (lv_at hl 5 rfl) ?_
  refine xk_iconst hx hb dL_law_406 ?_
  refine xk_iadd hx hb dL_law_407 ?_
  refine xk_sld hx hb hX hbl hbA hS (by omega) (by omega) hL dL_law_408 ?_
  obtain ⟨⟨v9, x1⟩, ev409, hf⟩ := x_bind hf
  refine xf_wi (As := [.int (iI (x_sc xs (i + 1))), .int (iI (x_sc xs (i + 2)))]) (rest := []) (wcs := [w5 cs am x]) (w1s := [w5 cs am x1]) ⟨hx, hb, hml, hown, hts⟩ (c5_merge l dC dI cs am H.size x (x_sc xs (i + 1)) (x_sc xs (i + 2)) _ ev409) (cwV 2 hts gL_law_X5_merge rfl rfl rfl cdX5_merge ⟨Nat.le_of_ble_eq_true rfl, Nat.le_of_ble_eq_true rfl⟩) hK hP hD hS hA [11] (by simp only [List.flatten_cons, List.flatten_nil, List.append_nil, List.cons_append, List.nil_append]) (by simp only [List.flatten_cons, List.flatten_nil, List.append_nil, List.cons_append, List.nil_append]) rfl (by decide) rfl rfl rfl rfl hl.1 rfl (Nat.le_of_ble_eq_true rfl) dL_law_409 ⟨by omega, by omega⟩ (fun H locs hP hS => ?_)
  have hP : va_P (dC, dI) vwCl ([wo cs ao o1] ++ w4 cs a y1 ++ [w5 cs am x1]).flatten H := hP
  have hD : va_D (fun z9 : Nat => s.heap.size ≤ z9) ([wo cs ao o1] ++ w4 cs a y1 ++ [w5 cs am x1]).flatten := x_addrF hD rfl
  refine lv_istore (lv' := [(6, .int (iI v9)), (5, .int (iI k9)), (0, .ref b), (1, .ref (a 0)), (2, .ref (am 0)), (3, .ref ao), (4, .int (iI i))]) hx hb dL_law_412 hl (by decide) rfl (fun ls hl => ?_)
  refine lv_aload_n hx hb dL_law_414 rfl (lv_at hl 4 rfl) ?_
  obtain ⟨t9, ev415, hf⟩ := x_bind hf
  refine xf_ri (As := []) (rest := []) (wcs := [w5 cs am x1]) ⟨hx, hb, hml, hown, hts⟩ (c5_thrown l dC dI cs am x1 _ ev415) (cwV 0 hts gL_law_X5_thrown rfl rfl rfl cdX5_thrown ⟨Nat.le_of_ble_eq_true rfl, Nat.le_of_ble_eq_true rfl⟩) hK hP [11] (by simp only [List.flatten_cons, List.flatten_nil, List.append_nil, List.cons_append, List.nil_append]) rfl rfl rfl rfl hl.1 rfl (Nat.le_of_ble_eq_true rfl) dL_law_415 ⟨by omega, by omega⟩ ?_
  refine lv_iload hx hb dL_law_418 (lv_at hl 1 rfl) ?_
  obtain ⟨h1a, h1b, h1t, h1f⟩ := x_eqE hf
  refine xk_icmp_eq (tgt := 425) hx hb h1a h1b dL_law_420 (by decide) (fun hq => ?_) (fun hq => by cases h1f hq)
  have hf := h1t hq
  obtain ⟨h2a, h2b, h2t, h2f⟩ := x_eqE hf
  refine lv_iload hx hb dL_law_425 (lv_at hl 1 rfl) ?_
  refine xk_if_ne (tgt := 442) hx hb h2a dL_law_427 (by decide) (fun hq2 => ?_) (fun hq2 => ?_)
  · have hf := h2t hq2
    obtain ⟨h3, hf⟩ := x_ckE hf
    by_cases h4 : o1 0 = v9
    · rw [if_pos h4] at hf
      refine lv_aload_n hx hb dL_law_430 rfl (lv_at hl 5 rfl) ?_
      refine xk_iconst hx hb dL_law_431 ?_
      refine xk_lald hx hb hK hP 0 3 (by decide) (by decide) (by decide) rfl rfl dL_law_432 ?_
      rw [h4]
      refine lv_iload hx hb dL_law_433 (lv_at hl 0 rfl) ?_
      refine xk_i2l hx hb h3 dL_law_435 ?_
      refine xk_lcmp0 hx hb dL_law_436 ?_
      refine xk_if_eq (tgt := 442) hx hb (by decide) dL_law_437 (by decide) (fun _ => ?_) (fun hz => absurd rfl hz)
      refine lv_goto (tgt := 1303) hx hb dL_law_442 (by decide) ?_
      obtain rfl := Option.some.inj hf
      exact kk _ _ _ hP hS (lv_sub hl [2, 3, 4, 5, 6] rfl)
    · rw [if_neg h4] at hf; cases hf
  · have hf := h2f hq2
    refine lv_goto (tgt := 1303) hx hb dL_law_442 (by decide) ?_
    obtain rfl := Option.some.inj hf
    exact kk _ _ _ hP hS (lv_sub hl [2, 3, 4, 5, 6] rfl)

set_option maxHeartbeats 4000000 in
set_option maxRecDepth 100000 in
theorem kC_mergeLightest {p : Program} {e : Env} {s : State} {m : MethodId} {below : List Frame} {meth : Method} {c : Code} {b L : Nat} {xs : Nat → Int32} (l : Launch) (hlS : l.stackTraces = false) (dC : Nat → ClassId) (dI : Nat → Nat → Nat) (cs : Nat → ClassId) (a am : Nat → Nat) (ao : Nat) (hL : L ≤ 2048) (hx : p.tables.exec = Jvm.exec) (hb : c.code = cL_law) (hml : c.maxLocals = 7) (hown : s.vm.findClass RL = some m.cls) (hts : ∀ w ∈ wsL_law, w.before #[Value.ref b] s = true) (hX : va_X b L xs s s.heap) (hbl : b < s.heap.size) (hT : xTh (fun z9 : Nat => s.heap.size ≤ z9) s) (hN : ∀ q ∈ x_ncs, va_Nc q.1 q.2 s) (hK : va_K (dC, dI) vwCl (xT cs) s) {Q : State → Prop} (x : ModS) (y : BrS) (o : Int → Int) (i : Int) (res : ModS × BrS × (Int → Int)) (hf : fC_mergeLightest (x_sc xs) i x y o = some res) (h0 : 0 ≤ i) (h1 : i + 4 ≤ (L : Int)) {cells slots : Nat} (hc : cells + 1 ≤ 601024 ∧ slots + 6 ≤ 7293034) {H : Heap} {locs : List Loc} {ls : Array Slot} (hP : va_P (dC, dI) vwCl ([wo cs ao o] ++ w4 cs a y ++ [w5 cs am x]).flatten H) (hD : va_D (fun z9 : Nat => s.heap.size ≤ z9) ([wo cs ao o] ++ w4 cs a y ++ [w5 cs am x]).flatten) (hS : va_S (fun z9 : Nat => s.heap.size ≤ z9) s.heap H locs) (hl : lv_has ls 7 [(0, .ref b), (1, .ref (a 0)), (2, .ref (am 0)), (3, .ref ao), (4, .int (iI i))])
    (kk : ∀ (H : Heap) (locs : List Loc) (ls : Array Slot), va_P (dC, dI) vwCl ([wo cs ao res.2.2] ++ w4 cs a res.2.1 ++ [w5 cs am res.1]).flatten H → va_S (fun z9 : Nat => s.heap.size ≤ z9) s.heap H locs → lv_has ls 7 [(0, .ref b), (1, .ref (a 0)), (2, .ref (am 0)), (3, .ref ao), (4, .int (iI i))] → W p l e room_1 s m #[Value.ref b] below meth c H locs (cells + 1) (slots + 6) Q (F0 m 1303 ls [])) : W p l e room_1 s m #[Value.ref b] below meth c H locs cells slots Q (F0 m 445 ls []) := by
  have hA : ∀ z9 : Nat, s.heap.size ≤ z9 → (fun z9 : Nat => s.heap.size ≤ z9) z9 := fun z9 h => h
  have hbA : ¬ (fun z9 : Nat => s.heap.size ≤ z9) b := Nat.not_le.mpr hbl
  have hcr1 : room_1.cells = 601024 := rfl
  have hcr2 : room_1.slots = 7293034 := rfl
  unfold fC_mergeLightest at hf
  refine lv_aload_n hx hb dL_law_445 rfl (lv_at hl 1 rfl) ?_
  refine lv_aload_n hx hb dL_law_446 rfl (lv_at hl 3 rfl) ?_
  obtain ⟨⟨k9, y1, o1⟩, ek9, hf⟩ := x_bind hf
  refine xf_sw (As := [.ref (a 0), .ref ao]) (rest := []) (wcs := [wo cs ao o] ++ w4 cs a y) (w1s := [wo cs ao o1] ++ w4 cs a y1) ⟨hx, hb, hml, hown, hts⟩ (kL_mergeLightest l hlS dC dI cs a ao H.size y o _ ek9) (vx_cwSW 2 hts gL_law_L_mergeLightest rfl rfl rfl cdL_mergeLightest ⟨Nat.le_of_ble_eq_true rfl, Nat.le_of_ble_eq_true rfl⟩) hK hP hD hS hA hT hN [0, 1, 2, 3, 4, 5, 6, 7, 8, 9, 10] rfl rfl rfl (by decide) rfl rfl hl.1 rfl (Nat.le_of_ble_eq_true rfl) dL_law_447 ⟨by omega, by omega⟩ (fun H locs hP hS => ?_)
  have hP : va_P (dC, dI) vwCl ([wo cs ao o1] ++ w4 cs a y1 ++ [w5 cs am x]).flatten H := hP
  have hD : va_D (fun z9 : Nat => s.heap.size ≤ z9) ([wo cs ao o1] ++ w4 cs a y1 ++ [w5 cs am x]).flatten := x_addrF hD rfl
  refine lv_istore (lv' := [(5, .int (iI k9)), (0, .ref b), (1, .ref (a 0)), (2, .ref (am 0)), (3, .ref ao), (4, .int (iI i))]) hx hb dL_law_450 hl (by decide) rfl (fun ls hl => ?_)
  refine lv_aload_n hx hb dL_law_452 rfl (lv_at hl 3 rfl) ?_
  obtain ⟨⟨v9, x1⟩, ev453, hf⟩ := x_bind hf
  refine xf_wi (As := []) (rest := []) (wcs := [w5 cs am x]) (w1s := [w5 cs am x1]) ⟨hx, hb, hml, hown, hts⟩ (c5_mergeLightest l dC dI cs am H.size x _ ev453) (cwV 0 hts gL_law_X5_mergeLightest rfl rfl rfl cdX5_mergeLightest ⟨Nat.le_of_ble_eq_true rfl, Nat.le_of_ble_eq_true rfl⟩) hK hP hD hS hA [11] (by simp only [List.flatten_cons, List.flatten_nil, List.append_nil, List.cons_append, List.nil_append]) (by simp only [List.flatten_cons, List.flatten_nil, List.append_nil, List.cons_append, List.nil_append]) rfl (by decide) rfl rfl rfl rfl hl.1 rfl (Nat.le_of_ble_eq_true rfl) dL_law_453 ⟨by omega, by omega⟩ (fun H locs hP hS => ?_)
  have hP : va_P (dC, dI) vwCl ([wo cs ao o1] ++ w4 cs a y1 ++ [w5 cs am x1]).flatten H := hP
  have hD : va_D (fun z9 : Nat => s.heap.size ≤ z9) ([wo cs ao o1] ++ w4 cs a y1 ++ [w5 cs am x1]).flatten := x_addrF hD rfl
  refine lv_istore (lv' := [(6, .int (iI v9)), (5, .int (iI k9)), (0, .ref b), (1, .ref (a 0)), (2, .ref (am 0)), (3, .ref ao), (4, .int (iI i))]) hx hb dL_law_456 hl (by decide) rfl (fun ls hl => ?_)
  refine lv_aload_n hx hb dL_law_458 rfl (lv_at hl 4 rfl) ?_
  obtain ⟨t9, ev459, hf⟩ := x_bind hf
  refine xf_ri (As := []) (rest := []) (wcs := [w5 cs am x1]) ⟨hx, hb, hml, hown, hts⟩ (c5_thrown l dC dI cs am x1 _ ev459) (cwV 0 hts gL_law_X5_thrown rfl rfl rfl cdX5_thrown ⟨Nat.le_of_ble_eq_true rfl, Nat.le_of_ble_eq_true rfl⟩) hK hP [11] (by simp only [List.flatten_cons, List.flatten_nil, List.append_nil, List.cons_append, List.nil_append]) rfl rfl rfl rfl hl.1 rfl (Nat.le_of_ble_eq_true rfl) dL_law_459 ⟨by omega, by omega⟩ ?_
  refine lv_iload hx hb dL_law_462 (lv_at hl 1 rfl) ?_
  obtain ⟨h1a, h1b, h1t, h1f⟩ := x_eqE hf
  refine xk_icmp_eq (tgt := 469) hx hb h1a h1b dL_law_464 (by decide) (fun hq => ?_) (fun hq => by cases h1f hq)
  have hf := h1t hq
  obtain ⟨h2a, h2b, h2t, h2f⟩ := x_eqE hf
  refine lv_iload hx hb dL_law_469 (lv_at hl 1 rfl) ?_
  refine xk_if_ne (tgt := 486) hx hb h2a dL_law_471 (by decide) (fun hq2 => ?_) (fun hq2 => ?_)
  · have hf := h2t hq2
    obtain ⟨h3, hf⟩ := x_ckE hf
    by_cases h4 : o1 0 = v9
    · rw [if_pos h4] at hf
      refine lv_aload_n hx hb dL_law_474 rfl (lv_at hl 5 rfl) ?_
      refine xk_iconst hx hb dL_law_475 ?_
      refine xk_lald hx hb hK hP 0 3 (by decide) (by decide) (by decide) rfl rfl dL_law_476 ?_
      rw [h4]
      refine lv_iload hx hb dL_law_477 (lv_at hl 0 rfl) ?_
      refine xk_i2l hx hb h3 dL_law_479 ?_
      refine xk_lcmp0 hx hb dL_law_480 ?_
      refine xk_if_eq (tgt := 486) hx hb (by decide) dL_law_481 (by decide) (fun _ => ?_) (fun hz => absurd rfl hz)
      refine lv_goto (tgt := 1303) hx hb dL_law_486 (by decide) ?_
      obtain rfl := Option.some.inj hf
      exact kk _ _ _ hP hS (lv_sub hl [2, 3, 4, 5, 6] rfl)
    · rw [if_neg h4] at hf; cases hf
  · have hf := h2f hq2
    refine lv_goto (tgt := 1303) hx hb dL_law_486 (by decide) ?_
    obtain rfl := Option.some.inj hf
    exact kk _ _ _ hP hS (lv_sub hl [2, 3, 4, 5, 6] rfl)

set_option maxHeartbeats 4000000 in
set_option maxRecDepth 100000 in
theorem kC_storm {p : Program} {e : Env} {s : State} {m : MethodId} {below : List Frame} {meth : Method} {c : Code} {b L : Nat} {xs : Nat → Int32} (l : Launch) (hlS : l.stackTraces = false) (dC : Nat → ClassId) (dI : Nat → Nat → Nat) (cs : Nat → ClassId) (a am : Nat → Nat) (ao : Nat) (hL : L ≤ 2048) (hx : p.tables.exec = Jvm.exec) (hb : c.code = cL_law) (hml : c.maxLocals = 7) (hown : s.vm.findClass RL = some m.cls) (hts : ∀ w ∈ wsL_law, w.before #[Value.ref b] s = true) (hX : va_X b L xs s s.heap) (hbl : b < s.heap.size) (hT : xTh (fun z9 : Nat => s.heap.size ≤ z9) s) (hN : ∀ q ∈ x_ncs, va_Nc q.1 q.2 s) (hK : va_K (dC, dI) vwCl (xT cs) s) {Q : State → Prop} (x : ModS) (y : BrS) (o : Int → Int) (i : Int) (res : ModS × BrS × (Int → Int)) (hf : fC_storm (x_sc xs) i x y o = some res) (h0 : 0 ≤ i) (h1 : i + 4 ≤ (L : Int)) {cells slots : Nat} (hc : cells + 1 ≤ 601024 ∧ slots + 6 ≤ 7293034) {H : Heap} {locs : List Loc} {ls : Array Slot} (hP : va_P (dC, dI) vwCl ([wo cs ao o] ++ w4 cs a y ++ [w5 cs am x]).flatten H) (hD : va_D (fun z9 : Nat => s.heap.size ≤ z9) ([wo cs ao o] ++ w4 cs a y ++ [w5 cs am x]).flatten) (hS : va_S (fun z9 : Nat => s.heap.size ≤ z9) s.heap H locs) (hl : lv_has ls 7 [(0, .ref b), (1, .ref (a 0)), (2, .ref (am 0)), (3, .ref ao), (4, .int (iI i))])
    (kk : ∀ (H : Heap) (locs : List Loc) (ls : Array Slot), va_P (dC, dI) vwCl ([wo cs ao res.2.2] ++ w4 cs a res.2.1 ++ [w5 cs am res.1]).flatten H → va_S (fun z9 : Nat => s.heap.size ≤ z9) s.heap H locs → lv_has ls 7 [(0, .ref b), (1, .ref (a 0)), (2, .ref (am 0)), (3, .ref ao), (4, .int (iI i))] → W p l e room_1 s m #[Value.ref b] below meth c H locs (cells + 1) (slots + 6) Q (F0 m 1303 ls [])) : W p l e room_1 s m #[Value.ref b] below meth c H locs cells slots Q (F0 m 489 ls []) := by
  have hA : ∀ z9 : Nat, s.heap.size ≤ z9 → (fun z9 : Nat => s.heap.size ≤ z9) z9 := fun z9 h => h
  have hbA : ¬ (fun z9 : Nat => s.heap.size ≤ z9) b := Nat.not_le.mpr hbl
  have hcr1 : room_1.cells = 601024 := rfl
  have hcr2 : room_1.slots = 7293034 := rfl
  unfold fC_storm at hf
  refine lv_aload_n hx hb dL_law_489 rfl (lv_at hl 1 rfl) ?_
  refine lv_aload_n hx hb dL_law_490 rfl (lv_at hl 0 rfl) ?_
  refine lv_iload hx hb dL_law_491 (lv_at hl 4 rfl) ?_
  refine xk_iconst hx hb dL_law_493 ?_
  refine xk_iadd hx hb dL_law_494 ?_
  refine xk_sld hx hb hX hbl hbA hS (by omega) (by omega) hL dL_law_495 ?_
  refine lv_aload_n hx hb dL_law_496 rfl (lv_at hl 3 rfl) ?_
  obtain ⟨⟨k9, y1, o1⟩, ek9, hf⟩ := x_bind hf
  refine xf_sw (As := [.ref (a 0), .int (iI (x_sc xs (i + 1))), .ref ao]) (rest := []) (wcs := [wo cs ao o] ++ w4 cs a y) (w1s := [wo cs ao o1] ++ w4 cs a y1) ⟨hx, hb, hml, hown, hts⟩ (kL_storm l hlS dC dI cs a ao H.size y o (x_sc xs (i + 1)) _ ek9) (vx_cwSW 3 hts gL_law_L_storm rfl rfl rfl cdL_storm ⟨Nat.le_of_ble_eq_true rfl, Nat.le_of_ble_eq_true rfl⟩) hK hP hD hS hA hT hN [0, 1, 2, 3, 4, 5, 6, 7, 8, 9, 10] rfl rfl rfl (by decide) rfl rfl hl.1 rfl (Nat.le_of_ble_eq_true rfl) dL_law_497 ⟨by omega, by omega⟩ (fun H locs hP hS => ?_)
  have hP : va_P (dC, dI) vwCl ([wo cs ao o1] ++ w4 cs a y1 ++ [w5 cs am x]).flatten H := hP
  have hD : va_D (fun z9 : Nat => s.heap.size ≤ z9) ([wo cs ao o1] ++ w4 cs a y1 ++ [w5 cs am x]).flatten := x_addrF hD rfl
  refine lv_istore (lv' := [(5, .int (iI k9)), (0, .ref b), (1, .ref (a 0)), (2, .ref (am 0)), (3, .ref ao), (4, .int (iI i))]) hx hb dL_law_500 hl (by decide) rfl (fun ls hl => ?_)
  refine lv_aload_n hx hb dL_law_502 rfl (lv_at hl 3 rfl) ?_
  refine lv_aload_n hx hb dL_law_503 rfl (lv_at hl 1 rfl) ?_
  refine lv_iload hx hb dL_law_504 (lv_at hl 5 rfl) ?_
  refine xk_iconst hx hb dL_law_506 ?_
  refine xk_iadd hx hb dL_law_507 ?_
  refine xk_sld hx hb hX hbl hbA hS (by omega) (by omega) hL dL_law_508 ?_
  obtain ⟨⟨v9, x1⟩, ev509, hf⟩ := x_bind hf
  refine xf_wi (As := [.int (iI (x_sc xs (i + 1)))]) (rest := []) (wcs := [w5 cs am x]) (w1s := [w5 cs am x1]) ⟨hx, hb, hml, hown, hts⟩ (c5_storm l dC dI cs am H.size x (x_sc xs (i + 1)) _ ev509) (cwV 1 hts gL_law_X5_storm rfl rfl rfl cdX5_storm ⟨Nat.le_of_ble_eq_true rfl, Nat.le_of_ble_eq_true rfl⟩) hK hP hD hS hA [11] (by simp only [List.flatten_cons, List.flatten_nil, List.append_nil, List.cons_append, List.nil_append]) (by simp only [List.flatten_cons, List.flatten_nil, List.append_nil, List.cons_append, List.nil_append]) rfl (by decide) rfl rfl rfl rfl hl.1 rfl (Nat.le_of_ble_eq_true rfl) dL_law_509 ⟨by omega, by omega⟩ (fun H locs hP hS => ?_)
  have hP : va_P (dC, dI) vwCl ([wo cs ao o1] ++ w4 cs a y1 ++ [w5 cs am x1]).flatten H := hP
  have hD : va_D (fun z9 : Nat => s.heap.size ≤ z9) ([wo cs ao o1] ++ w4 cs a y1 ++ [w5 cs am x1]).flatten := x_addrF hD rfl
  refine lv_istore (lv' := [(6, .int (iI v9)), (5, .int (iI k9)), (0, .ref b), (1, .ref (a 0)), (2, .ref (am 0)), (3, .ref ao), (4, .int (iI i))]) hx hb dL_law_512 hl (by decide) rfl (fun ls hl => ?_)
  refine lv_aload_n hx hb dL_law_514 rfl (lv_at hl 4 rfl) ?_
  obtain ⟨t9, ev515, hf⟩ := x_bind hf
  refine xf_ri (As := []) (rest := []) (wcs := [w5 cs am x1]) ⟨hx, hb, hml, hown, hts⟩ (c5_thrown l dC dI cs am x1 _ ev515) (cwV 0 hts gL_law_X5_thrown rfl rfl rfl cdX5_thrown ⟨Nat.le_of_ble_eq_true rfl, Nat.le_of_ble_eq_true rfl⟩) hK hP [11] (by simp only [List.flatten_cons, List.flatten_nil, List.append_nil, List.cons_append, List.nil_append]) rfl rfl rfl rfl hl.1 rfl (Nat.le_of_ble_eq_true rfl) dL_law_515 ⟨by omega, by omega⟩ ?_
  refine lv_iload hx hb dL_law_518 (lv_at hl 1 rfl) ?_
  obtain ⟨h1a, h1b, h1t, h1f⟩ := x_eqE hf
  refine xk_icmp_eq (tgt := 525) hx hb h1a h1b dL_law_520 (by decide) (fun hq => ?_) (fun hq => by cases h1f hq)
  have hf := h1t hq
  obtain ⟨h2a, h2b, h2t, h2f⟩ := x_eqE hf
  refine lv_iload hx hb dL_law_525 (lv_at hl 1 rfl) ?_
  refine xk_if_ne (tgt := 542) hx hb h2a dL_law_527 (by decide) (fun hq2 => ?_) (fun hq2 => ?_)
  · have hf := h2t hq2
    obtain ⟨h3, hf⟩ := x_ckE hf
    by_cases h4 : o1 0 = v9
    · rw [if_pos h4] at hf
      refine lv_aload_n hx hb dL_law_530 rfl (lv_at hl 5 rfl) ?_
      refine xk_iconst hx hb dL_law_531 ?_
      refine xk_lald hx hb hK hP 0 3 (by decide) (by decide) (by decide) rfl rfl dL_law_532 ?_
      rw [h4]
      refine lv_iload hx hb dL_law_533 (lv_at hl 0 rfl) ?_
      refine xk_i2l hx hb h3 dL_law_535 ?_
      refine xk_lcmp0 hx hb dL_law_536 ?_
      refine xk_if_eq (tgt := 542) hx hb (by decide) dL_law_537 (by decide) (fun _ => ?_) (fun hz => absurd rfl hz)
      refine lv_goto (tgt := 1303) hx hb dL_law_542 (by decide) ?_
      obtain rfl := Option.some.inj hf
      exact kk _ _ _ hP hS (lv_sub hl [2, 3, 4, 5, 6] rfl)
    · rw [if_neg h4] at hf; cases hf
  · have hf := h2f hq2
    refine lv_goto (tgt := 1303) hx hb dL_law_542 (by decide) ?_
    obtain rfl := Option.some.inj hf
    exact kk _ _ _ hP hS (lv_sub hl [2, 3, 4, 5, 6] rfl)

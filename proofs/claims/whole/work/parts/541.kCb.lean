set_option maxHeartbeats 4000000 in
set_option maxRecDepth 100000 in
theorem kC_tighten {p : Program} {e : Env} {s : State} {m : MethodId} {below : List Frame} {meth : Method} {c : Code} {b L : Nat} {xs : Nat → Int32} (l : Launch) (hlS : l.stackTraces = false) (dC : Nat → ClassId) (dI : Nat → Nat → Nat) (cs : Nat → ClassId) (a am : Nat → Nat) (ao : Nat) (hL : L ≤ 2048) (hx : p.tables.exec = Jvm.exec) (hb : c.code = cL_law) (hml : c.maxLocals = 7) (hown : s.vm.findClass RL = some m.cls) (hts : ∀ w ∈ wsL_law, w.before #[Value.ref b] s = true) (hX : va_X b L xs s s.heap) (hbl : b < s.heap.size) (hT : xTh (fun z9 : Nat => s.heap.size ≤ z9) s) (hN : ∀ q ∈ x_ncs, va_Nc q.1 q.2 s) (hK : va_K (dC, dI) vwCl (xT cs) s) {Q : State → Prop} (x : ModS) (y : BrS) (o : Int → Int) (i : Int) (res : ModS × BrS × (Int → Int)) (hf : fC_tighten (x_sc xs) i x y o = some res) (h0 : 0 ≤ i) (h1 : i + 4 ≤ (L : Int)) {cells slots : Nat} (hc : cells + 1 ≤ 601024 ∧ slots + 6 ≤ 7293034) {H : Heap} {locs : List Loc} {ls : Array Slot} (hP : va_P (dC, dI) vwCl ([wo cs ao o] ++ w4 cs a y ++ [w5 cs am x]).flatten H) (hD : va_D (fun z9 : Nat => s.heap.size ≤ z9) ([wo cs ao o] ++ w4 cs a y ++ [w5 cs am x]).flatten) (hS : va_S (fun z9 : Nat => s.heap.size ≤ z9) s.heap H locs) (hl : lv_has ls 7 [(0, .ref b), (1, .ref (a 0)), (2, .ref (am 0)), (3, .ref ao), (4, .int (iI i))])
    (kk : ∀ (H : Heap) (locs : List Loc) (ls : Array Slot), va_P (dC, dI) vwCl ([wo cs ao res.2.2] ++ w4 cs a res.2.1 ++ [w5 cs am res.1]).flatten H → va_S (fun z9 : Nat => s.heap.size ≤ z9) s.heap H locs → lv_has ls 7 [(0, .ref b), (1, .ref (a 0)), (2, .ref (am 0)), (3, .ref ao), (4, .int (iI i))] → W p l e room_1 s m #[Value.ref b] below meth c H locs (cells + 1) (slots + 6) Q (F0 m 1303 ls [])) : W p l e room_1 s m #[Value.ref b] below meth c H locs cells slots Q (F0 m 545 ls []) := by
  have hA : ∀ z9 : Nat, s.heap.size ≤ z9 → (fun z9 : Nat => s.heap.size ≤ z9) z9 := fun z9 h => h
  have hbA : ¬ (fun z9 : Nat => s.heap.size ≤ z9) b := Nat.not_le.mpr hbl
  have hcr1 : room_1.cells = 601024 := rfl
  have hcr2 : room_1.slots = 7293034 := rfl
  unfold fC_tighten at hf
  refine lv_aload_n hx hb dL_law_545 rfl (lv_at hl 1 rfl) ?_
  refine lv_aload_n hx hb dL_law_546 rfl (lv_at hl 0 rfl) ?_
  refine lv_iload hx hb dL_law_547 (lv_at hl 4 rfl) ?_
  refine xk_iconst hx hb dL_law_549 ?_
  refine xk_iadd hx hb dL_law_550 ?_
  refine xk_sld hx hb hX hbl hbA hS (by omega) (by omega) hL dL_law_551 ?_
  refine lv_aload_n hx hb dL_law_552 rfl (lv_at hl 3 rfl) ?_
  obtain ⟨⟨k9, y1, o1⟩, ek9, hf⟩ := x_bind hf
  refine xf_sw (As := [.ref (a 0), .int (iI (x_sc xs (i + 1))), .ref ao]) (rest := []) (wcs := [wo cs ao o] ++ w4 cs a y) (w1s := [wo cs ao o1] ++ w4 cs a y1) ⟨hx, hb, hml, hown, hts⟩ (kL_tighten l hlS dC dI cs a ao H.size y o (x_sc xs (i + 1)) _ ek9) (vx_cwSW 3 hts gL_law_L_tighten rfl rfl rfl cdL_tighten ⟨Nat.le_of_ble_eq_true rfl, Nat.le_of_ble_eq_true rfl⟩) hK hP hD hS hA hT hN [0, 1, 2, 3, 4, 5, 6, 7, 8, 9, 10] rfl rfl rfl (by decide) rfl rfl hl.1 rfl (Nat.le_of_ble_eq_true rfl) dL_law_553 ⟨by omega, by omega⟩ (fun H locs hP hS => ?_)
  have hP : va_P (dC, dI) vwCl ([wo cs ao o1] ++ w4 cs a y1 ++ [w5 cs am x]).flatten H := hP
  have hD : va_D (fun z9 : Nat => s.heap.size ≤ z9) ([wo cs ao o1] ++ w4 cs a y1 ++ [w5 cs am x]).flatten := x_addrF hD rfl
  refine lv_istore (lv' := [(5, .int (iI k9)), (0, .ref b), (1, .ref (a 0)), (2, .ref (am 0)), (3, .ref ao), (4, .int (iI i))]) hx hb dL_law_556 hl (by decide) rfl (fun ls hl => ?_)
  refine lv_aload_n hx hb dL_law_558 rfl (lv_at hl 3 rfl) ?_
  refine lv_aload_n hx hb dL_law_559 rfl (lv_at hl 1 rfl) ?_
  refine lv_iload hx hb dL_law_560 (lv_at hl 5 rfl) ?_
  refine xk_iconst hx hb dL_law_562 ?_
  refine xk_iadd hx hb dL_law_563 ?_
  refine xk_sld hx hb hX hbl hbA hS (by omega) (by omega) hL dL_law_564 ?_
  obtain ⟨⟨v9, x1⟩, ev565, hf⟩ := x_bind hf
  refine xf_wi (As := [.int (iI (x_sc xs (i + 1)))]) (rest := []) (wcs := [w5 cs am x]) (w1s := [w5 cs am x1]) ⟨hx, hb, hml, hown, hts⟩ (c5_tighten l dC dI cs am H.size x (x_sc xs (i + 1)) _ ev565) (cwV 1 hts gL_law_X5_tighten rfl rfl rfl cdX5_tighten ⟨Nat.le_of_ble_eq_true rfl, Nat.le_of_ble_eq_true rfl⟩) hK hP hD hS hA [11] (by simp only [List.flatten_cons, List.flatten_nil, List.append_nil, List.cons_append, List.nil_append]) (by simp only [List.flatten_cons, List.flatten_nil, List.append_nil, List.cons_append, List.nil_append]) rfl (by decide) rfl rfl rfl rfl hl.1 rfl (Nat.le_of_ble_eq_true rfl) dL_law_565 ⟨by omega, by omega⟩ (fun H locs hP hS => ?_)
  have hP : va_P (dC, dI) vwCl ([wo cs ao o1] ++ w4 cs a y1 ++ [w5 cs am x1]).flatten H := hP
  have hD : va_D (fun z9 : Nat => s.heap.size ≤ z9) ([wo cs ao o1] ++ w4 cs a y1 ++ [w5 cs am x1]).flatten := x_addrF hD rfl
  refine lv_istore (lv' := [(6, .int (iI v9)), (5, .int (iI k9)), (0, .ref b), (1, .ref (a 0)), (2, .ref (am 0)), (3, .ref ao), (4, .int (iI i))]) hx hb dL_law_568 hl (by decide) rfl (fun ls hl => ?_)
  refine lv_aload_n hx hb dL_law_570 rfl (lv_at hl 4 rfl) ?_
  obtain ⟨t9, ev571, hf⟩ := x_bind hf
  refine xf_ri (As := []) (rest := []) (wcs := [w5 cs am x1]) ⟨hx, hb, hml, hown, hts⟩ (c5_thrown l dC dI cs am x1 _ ev571) (cwV 0 hts gL_law_X5_thrown rfl rfl rfl cdX5_thrown ⟨Nat.le_of_ble_eq_true rfl, Nat.le_of_ble_eq_true rfl⟩) hK hP [11] (by simp only [List.flatten_cons, List.flatten_nil, List.append_nil, List.cons_append, List.nil_append]) rfl rfl rfl rfl hl.1 rfl (Nat.le_of_ble_eq_true rfl) dL_law_571 ⟨by omega, by omega⟩ ?_
  refine lv_iload hx hb dL_law_574 (lv_at hl 1 rfl) ?_
  obtain ⟨h1a, h1b, h1t, h1f⟩ := x_eqE hf
  refine xk_icmp_eq (tgt := 581) hx hb h1a h1b dL_law_576 (by decide) (fun hq => ?_) (fun hq => by cases h1f hq)
  have hf := h1t hq
  obtain ⟨h2a, h2b, h2t, h2f⟩ := x_eqE hf
  refine lv_iload hx hb dL_law_581 (lv_at hl 1 rfl) ?_
  refine xk_if_ne (tgt := 598) hx hb h2a dL_law_583 (by decide) (fun hq2 => ?_) (fun hq2 => ?_)
  · have hf := h2t hq2
    obtain ⟨h3, hf⟩ := x_ckE hf
    by_cases h4 : o1 0 = v9
    · rw [if_pos h4] at hf
      refine lv_aload_n hx hb dL_law_586 rfl (lv_at hl 5 rfl) ?_
      refine xk_iconst hx hb dL_law_587 ?_
      refine xk_lald hx hb hK hP 0 3 (by decide) (by decide) (by decide) rfl rfl dL_law_588 ?_
      rw [h4]
      refine lv_iload hx hb dL_law_589 (lv_at hl 0 rfl) ?_
      refine xk_i2l hx hb h3 dL_law_591 ?_
      refine xk_lcmp0 hx hb dL_law_592 ?_
      refine xk_if_eq (tgt := 598) hx hb (by decide) dL_law_593 (by decide) (fun _ => ?_) (fun hz => absurd rfl hz)
      refine lv_goto (tgt := 1303) hx hb dL_law_598 (by decide) ?_
      obtain rfl := Option.some.inj hf
      exact kk _ _ _ hP hS (lv_sub hl [2, 3, 4, 5, 6] rfl)
    · rw [if_neg h4] at hf; cases hf
  · have hf := h2f hq2
    refine lv_goto (tgt := 1303) hx hb dL_law_598 (by decide) ?_
    obtain rfl := Option.some.inj hf
    exact kk _ _ _ hP hS (lv_sub hl [2, 3, 4, 5, 6] rfl)

set_option maxHeartbeats 4000000 in
set_option maxRecDepth 100000 in
theorem kC_land {p : Program} {e : Env} {s : State} {m : MethodId} {below : List Frame} {meth : Method} {c : Code} {b L : Nat} {xs : Nat → Int32} (l : Launch) (hlS : l.stackTraces = false) (dC : Nat → ClassId) (dI : Nat → Nat → Nat) (cs : Nat → ClassId) (a am : Nat → Nat) (ao : Nat) (hL : L ≤ 2048) (hx : p.tables.exec = Jvm.exec) (hb : c.code = cL_law) (hml : c.maxLocals = 7) (hown : s.vm.findClass RL = some m.cls) (hts : ∀ w ∈ wsL_law, w.before #[Value.ref b] s = true) (hX : va_X b L xs s s.heap) (hbl : b < s.heap.size) (hT : xTh (fun z9 : Nat => s.heap.size ≤ z9) s) (hN : ∀ q ∈ x_ncs, va_Nc q.1 q.2 s) (hK : va_K (dC, dI) vwCl (xT cs) s) {Q : State → Prop} (x : ModS) (y : BrS) (o : Int → Int) (i : Int) (res : ModS × BrS × (Int → Int)) (hf : fC_land (x_sc xs) i x y o = some res) (h0 : 0 ≤ i) (h1 : i + 4 ≤ (L : Int)) {cells slots : Nat} (hc : cells + 1 ≤ 601024 ∧ slots + 6 ≤ 7293034) {H : Heap} {locs : List Loc} {ls : Array Slot} (hP : va_P (dC, dI) vwCl ([wo cs ao o] ++ w4 cs a y ++ [w5 cs am x]).flatten H) (hD : va_D (fun z9 : Nat => s.heap.size ≤ z9) ([wo cs ao o] ++ w4 cs a y ++ [w5 cs am x]).flatten) (hS : va_S (fun z9 : Nat => s.heap.size ≤ z9) s.heap H locs) (hl : lv_has ls 7 [(0, .ref b), (1, .ref (a 0)), (2, .ref (am 0)), (3, .ref ao), (4, .int (iI i))])
    (kk : ∀ (H : Heap) (locs : List Loc) (ls : Array Slot), va_P (dC, dI) vwCl ([wo cs ao res.2.2] ++ w4 cs a res.2.1 ++ [w5 cs am res.1]).flatten H → va_S (fun z9 : Nat => s.heap.size ≤ z9) s.heap H locs → lv_has ls 7 [(0, .ref b), (1, .ref (a 0)), (2, .ref (am 0)), (3, .ref ao), (4, .int (iI i))] → W p l e room_1 s m #[Value.ref b] below meth c H locs (cells + 1) (slots + 6) Q (F0 m 1303 ls [])) : W p l e room_1 s m #[Value.ref b] below meth c H locs cells slots Q (F0 m 601 ls []) := by
  have hA : ∀ z9 : Nat, s.heap.size ≤ z9 → (fun z9 : Nat => s.heap.size ≤ z9) z9 := fun z9 h => h
  have hbA : ¬ (fun z9 : Nat => s.heap.size ≤ z9) b := Nat.not_le.mpr hbl
  have hcr1 : room_1.cells = 601024 := rfl
  have hcr2 : room_1.slots = 7293034 := rfl
  unfold fC_land at hf
  refine lv_aload_n hx hb dL_law_601 rfl (lv_at hl 1 rfl) ?_
  refine lv_aload_n hx hb dL_law_602 rfl (lv_at hl 0 rfl) ?_
  refine lv_iload hx hb dL_law_603 (lv_at hl 4 rfl) ?_
  refine xk_iconst hx hb dL_law_605 ?_
  refine xk_iadd hx hb dL_law_606 ?_
  refine xk_sld hx hb hX hbl hbA hS (by omega) (by omega) hL dL_law_607 ?_
  refine lv_aload_n hx hb dL_law_608 rfl (lv_at hl 3 rfl) ?_
  obtain ⟨⟨k9, y1, o1⟩, ek9, hf⟩ := x_bind hf
  refine xf_sw (As := [.ref (a 0), .int (iI (x_sc xs (i + 1))), .ref ao]) (rest := []) (wcs := [wo cs ao o] ++ w4 cs a y) (w1s := [wo cs ao o1] ++ w4 cs a y1) ⟨hx, hb, hml, hown, hts⟩ (kL_land l hlS dC dI cs a ao H.size y o (x_sc xs (i + 1)) _ ek9) (vx_cwSW 3 hts gL_law_L_land rfl rfl rfl cdL_land ⟨Nat.le_of_ble_eq_true rfl, Nat.le_of_ble_eq_true rfl⟩) hK hP hD hS hA hT hN [0, 1, 2, 3, 4, 5, 6, 7, 8, 9, 10] rfl rfl rfl (by decide) rfl rfl hl.1 rfl (Nat.le_of_ble_eq_true rfl) dL_law_609 ⟨by omega, by omega⟩ (fun H locs hP hS => ?_)
  have hP : va_P (dC, dI) vwCl ([wo cs ao o1] ++ w4 cs a y1 ++ [w5 cs am x]).flatten H := hP
  have hD : va_D (fun z9 : Nat => s.heap.size ≤ z9) ([wo cs ao o1] ++ w4 cs a y1 ++ [w5 cs am x]).flatten := x_addrF hD rfl
  refine lv_istore (lv' := [(5, .int (iI k9)), (0, .ref b), (1, .ref (a 0)), (2, .ref (am 0)), (3, .ref ao), (4, .int (iI i))]) hx hb dL_law_612 hl (by decide) rfl (fun ls hl => ?_)
  refine lv_aload_n hx hb dL_law_614 rfl (lv_at hl 3 rfl) ?_
  refine lv_aload_n hx hb dL_law_615 rfl (lv_at hl 1 rfl) ?_
  refine lv_iload hx hb dL_law_616 (lv_at hl 5 rfl) ?_
  refine xk_iconst hx hb dL_law_618 ?_
  refine xk_iadd hx hb dL_law_619 ?_
  refine xk_sld hx hb hX hbl hbA hS (by omega) (by omega) hL dL_law_620 ?_
  obtain ⟨⟨v9, x1⟩, ev621, hf⟩ := x_bind hf
  refine xf_wi (As := [.int (iI (x_sc xs (i + 1)))]) (rest := []) (wcs := [w5 cs am x]) (w1s := [w5 cs am x1]) ⟨hx, hb, hml, hown, hts⟩ (c5_land l dC dI cs am H.size x (x_sc xs (i + 1)) _ ev621) (cwV 1 hts gL_law_X5_land rfl rfl rfl cdX5_land ⟨Nat.le_of_ble_eq_true rfl, Nat.le_of_ble_eq_true rfl⟩) hK hP hD hS hA [11] (by simp only [List.flatten_cons, List.flatten_nil, List.append_nil, List.cons_append, List.nil_append]) (by simp only [List.flatten_cons, List.flatten_nil, List.append_nil, List.cons_append, List.nil_append]) rfl (by decide) rfl rfl rfl rfl hl.1 rfl (Nat.le_of_ble_eq_true rfl) dL_law_621 ⟨by omega, by omega⟩ (fun H locs hP hS => ?_)
  have hP : va_P (dC, dI) vwCl ([wo cs ao o1] ++ w4 cs a y1 ++ [w5 cs am x1]).flatten H := hP
  have hD : va_D (fun z9 : Nat => s.heap.size ≤ z9) ([wo cs ao o1] ++ w4 cs a y1 ++ [w5 cs am x1]).flatten := x_addrF hD rfl
  refine lv_istore (lv' := [(6, .int (iI v9)), (5, .int (iI k9)), (0, .ref b), (1, .ref (a 0)), (2, .ref (am 0)), (3, .ref ao), (4, .int (iI i))]) hx hb dL_law_624 hl (by decide) rfl (fun ls hl => ?_)
  refine lv_aload_n hx hb dL_law_626 rfl (lv_at hl 4 rfl) ?_
  obtain ⟨t9, ev627, hf⟩ := x_bind hf
  refine xf_ri (As := []) (rest := []) (wcs := [w5 cs am x1]) ⟨hx, hb, hml, hown, hts⟩ (c5_thrown l dC dI cs am x1 _ ev627) (cwV 0 hts gL_law_X5_thrown rfl rfl rfl cdX5_thrown ⟨Nat.le_of_ble_eq_true rfl, Nat.le_of_ble_eq_true rfl⟩) hK hP [11] (by simp only [List.flatten_cons, List.flatten_nil, List.append_nil, List.cons_append, List.nil_append]) rfl rfl rfl rfl hl.1 rfl (Nat.le_of_ble_eq_true rfl) dL_law_627 ⟨by omega, by omega⟩ ?_
  refine lv_iload hx hb dL_law_630 (lv_at hl 1 rfl) ?_
  obtain ⟨h1a, h1b, h1t, h1f⟩ := x_eqE hf
  refine xk_icmp_eq (tgt := 637) hx hb h1a h1b dL_law_632 (by decide) (fun hq => ?_) (fun hq => by cases h1f hq)
  have hf := h1t hq
  obtain ⟨h2a, h2b, h2t, h2f⟩ := x_eqE hf
  refine lv_iload hx hb dL_law_637 (lv_at hl 1 rfl) ?_
  refine xk_if_ne (tgt := 654) hx hb h2a dL_law_639 (by decide) (fun hq2 => ?_) (fun hq2 => ?_)
  · have hf := h2t hq2
    obtain ⟨h3, hf⟩ := x_ckE hf
    by_cases h4 : o1 0 = v9
    · rw [if_pos h4] at hf
      refine lv_aload_n hx hb dL_law_642 rfl (lv_at hl 5 rfl) ?_
      refine xk_iconst hx hb dL_law_643 ?_
      refine xk_lald hx hb hK hP 0 3 (by decide) (by decide) (by decide) rfl rfl dL_law_644 ?_
      rw [h4]
      refine lv_iload hx hb dL_law_645 (lv_at hl 0 rfl) ?_
      refine xk_i2l hx hb h3 dL_law_647 ?_
      refine xk_lcmp0 hx hb dL_law_648 ?_
      refine xk_if_eq (tgt := 654) hx hb (by decide) dL_law_649 (by decide) (fun _ => ?_) (fun hz => absurd rfl hz)
      refine lv_goto (tgt := 1303) hx hb dL_law_654 (by decide) ?_
      obtain rfl := Option.some.inj hf
      exact kk _ _ _ hP hS (lv_sub hl [2, 3, 4, 5, 6] rfl)
    · rw [if_neg h4] at hf; cases hf
  · have hf := h2f hq2
    refine lv_goto (tgt := 1303) hx hb dL_law_654 (by decide) ?_
    obtain rfl := Option.some.inj hf
    exact kk _ _ _ hP hS (lv_sub hl [2, 3, 4, 5, 6] rfl)

set_option maxHeartbeats 4000000 in
set_option maxRecDepth 100000 in
theorem kC_parcel {p : Program} {e : Env} {s : State} {m : MethodId} {below : List Frame} {meth : Method} {c : Code} {b L : Nat} {xs : Nat → Int32} (l : Launch) (hlS : l.stackTraces = false) (dC : Nat → ClassId) (dI : Nat → Nat → Nat) (cs : Nat → ClassId) (a am : Nat → Nat) (ao : Nat) (hL : L ≤ 2048) (hx : p.tables.exec = Jvm.exec) (hb : c.code = cL_law) (hml : c.maxLocals = 7) (hown : s.vm.findClass RL = some m.cls) (hts : ∀ w ∈ wsL_law, w.before #[Value.ref b] s = true) (hX : va_X b L xs s s.heap) (hbl : b < s.heap.size) (hT : xTh (fun z9 : Nat => s.heap.size ≤ z9) s) (hN : ∀ q ∈ x_ncs, va_Nc q.1 q.2 s) (hK : va_K (dC, dI) vwCl (xT cs) s) {Q : State → Prop} (x : ModS) (y : BrS) (o : Int → Int) (i : Int) (res : ModS × BrS × (Int → Int)) (hf : fC_parcel (x_sc xs) i x y o = some res) (h0 : 0 ≤ i) (h1 : i + 4 ≤ (L : Int)) {cells slots : Nat} (hc : cells + 1 ≤ 601024 ∧ slots + 6 ≤ 7293034) {H : Heap} {locs : List Loc} {ls : Array Slot} (hP : va_P (dC, dI) vwCl ([wo cs ao o] ++ w4 cs a y ++ [w5 cs am x]).flatten H) (hD : va_D (fun z9 : Nat => s.heap.size ≤ z9) ([wo cs ao o] ++ w4 cs a y ++ [w5 cs am x]).flatten) (hS : va_S (fun z9 : Nat => s.heap.size ≤ z9) s.heap H locs) (hl : lv_has ls 7 [(0, .ref b), (1, .ref (a 0)), (2, .ref (am 0)), (3, .ref ao), (4, .int (iI i))])
    (kk : ∀ (H : Heap) (locs : List Loc) (ls : Array Slot), va_P (dC, dI) vwCl ([wo cs ao res.2.2] ++ w4 cs a res.2.1 ++ [w5 cs am res.1]).flatten H → va_S (fun z9 : Nat => s.heap.size ≤ z9) s.heap H locs → lv_has ls 7 [(0, .ref b), (1, .ref (a 0)), (2, .ref (am 0)), (3, .ref ao), (4, .int (iI i))] → W p l e room_1 s m #[Value.ref b] below meth c H locs (cells + 1) (slots + 6) Q (F0 m 1303 ls [])) : W p l e room_1 s m #[Value.ref b] below meth c H locs cells slots Q (F0 m 657 ls []) := by
  have hA : ∀ z9 : Nat, s.heap.size ≤ z9 → (fun z9 : Nat => s.heap.size ≤ z9) z9 := fun z9 h => h
  have hbA : ¬ (fun z9 : Nat => s.heap.size ≤ z9) b := Nat.not_le.mpr hbl
  have hcr1 : room_1.cells = 601024 := rfl
  have hcr2 : room_1.slots = 7293034 := rfl
  unfold fC_parcel at hf
  refine lv_aload_n hx hb dL_law_657 rfl (lv_at hl 1 rfl) ?_
  refine lv_aload_n hx hb dL_law_658 rfl (lv_at hl 0 rfl) ?_
  refine lv_iload hx hb dL_law_659 (lv_at hl 4 rfl) ?_
  refine xk_iconst hx hb dL_law_661 ?_
  refine xk_iadd hx hb dL_law_662 ?_
  refine xk_sld hx hb hX hbl hbA hS (by omega) (by omega) hL dL_law_663 ?_
  refine lv_aload_n hx hb dL_law_664 rfl (lv_at hl 0 rfl) ?_
  refine lv_iload hx hb dL_law_665 (lv_at hl 4 rfl) ?_
  refine xk_iconst hx hb dL_law_667 ?_
  refine xk_iadd hx hb dL_law_668 ?_
  refine xk_sld hx hb hX hbl hbA hS (by omega) (by omega) hL dL_law_669 ?_
  refine lv_aload_n hx hb dL_law_670 rfl (lv_at hl 3 rfl) ?_
  obtain ⟨⟨k9, y1, o1⟩, ek9, hf⟩ := x_bind hf
  refine xf_sw (As := [.ref (a 0), .int (iI (x_sc xs (i + 1))), .int (iI (x_sc xs (i + 2))), .ref ao]) (rest := []) (wcs := [wo cs ao o] ++ w4 cs a y) (w1s := [wo cs ao o1] ++ w4 cs a y1) ⟨hx, hb, hml, hown, hts⟩ (kL_parcel l hlS dC dI cs a ao H.size y o (x_sc xs (i + 1)) (x_sc xs (i + 2)) _ ek9) (vx_cwSW 4 hts gL_law_L_parcel rfl rfl rfl cdL_parcel ⟨Nat.le_of_ble_eq_true rfl, Nat.le_of_ble_eq_true rfl⟩) hK hP hD hS hA hT hN [0, 1, 2, 3, 4, 5, 6, 7, 8, 9, 10] rfl rfl rfl (by decide) rfl rfl hl.1 rfl (Nat.le_of_ble_eq_true rfl) dL_law_671 ⟨by omega, by omega⟩ (fun H locs hP hS => ?_)
  have hP : va_P (dC, dI) vwCl ([wo cs ao o1] ++ w4 cs a y1 ++ [w5 cs am x]).flatten H := hP
  have hD : va_D (fun z9 : Nat => s.heap.size ≤ z9) ([wo cs ao o1] ++ w4 cs a y1 ++ [w5 cs am x]).flatten := x_addrF hD rfl
  refine lv_istore (lv' := [(5, .int (iI k9)), (0, .ref b), (1, .ref (a 0)), (2, .ref (am 0)), (3, .ref ao), (4, .int (iI i))]) hx hb dL_law_674 hl (by decide) rfl (fun ls hl => ?_)
  refine lv_aload_n hx hb dL_law_676 rfl (lv_at hl 3 rfl) ?_
  refine lv_aload_n hx hb dL_law_677 rfl (lv_at hl 1 rfl) ?_
  refine lv_iload hx hb dL_law_678 (lv_at hl 5 rfl) ?_
  refine xk_iconst hx hb dL_law_680 ?_
  refine xk_iadd hx hb dL_law_681 ?_
  refine xk_sld hx hb hX hbl hbA hS (by omega) (by omega) hL dL_law_682 ?_
  refine lv_aload_n hx hb dL_law_683 rfl (lv_at hl 1 rfl) ?_
  refine lv_iload hx hb dL_law_684 (lv_at hl 5 rfl) ?_
  refine xk_iconst hx hb dL_law_686 ?_
  refine xk_iadd hx hb dL_law_687 ?_
  refine xk_sld hx hb hX hbl hbA hS (by omega) (by omega) hL dL_law_688 ?_
  obtain ⟨⟨v9, x1⟩, ev689, hf⟩ := x_bind hf
  refine xf_wi (As := [.int (iI (x_sc xs (i + 1))), .int (iI (x_sc xs (i + 2)))]) (rest := []) (wcs := [w5 cs am x]) (w1s := [w5 cs am x1]) ⟨hx, hb, hml, hown, hts⟩ (c5_parcel l dC dI cs am H.size x (x_sc xs (i + 1)) (x_sc xs (i + 2)) _ ev689) (cwV 2 hts gL_law_X5_parcel rfl rfl rfl cdX5_parcel ⟨Nat.le_of_ble_eq_true rfl, Nat.le_of_ble_eq_true rfl⟩) hK hP hD hS hA [11] (by simp only [List.flatten_cons, List.flatten_nil, List.append_nil, List.cons_append, List.nil_append]) (by simp only [List.flatten_cons, List.flatten_nil, List.append_nil, List.cons_append, List.nil_append]) rfl (by decide) rfl rfl rfl rfl hl.1 rfl (Nat.le_of_ble_eq_true rfl) dL_law_689 ⟨by omega, by omega⟩ (fun H locs hP hS => ?_)
  have hP : va_P (dC, dI) vwCl ([wo cs ao o1] ++ w4 cs a y1 ++ [w5 cs am x1]).flatten H := hP
  have hD : va_D (fun z9 : Nat => s.heap.size ≤ z9) ([wo cs ao o1] ++ w4 cs a y1 ++ [w5 cs am x1]).flatten := x_addrF hD rfl
  refine lv_istore (lv' := [(6, .int (iI v9)), (5, .int (iI k9)), (0, .ref b), (1, .ref (a 0)), (2, .ref (am 0)), (3, .ref ao), (4, .int (iI i))]) hx hb dL_law_692 hl (by decide) rfl (fun ls hl => ?_)
  refine lv_aload_n hx hb dL_law_694 rfl (lv_at hl 4 rfl) ?_
  obtain ⟨t9, ev695, hf⟩ := x_bind hf
  refine xf_ri (As := []) (rest := []) (wcs := [w5 cs am x1]) ⟨hx, hb, hml, hown, hts⟩ (c5_thrown l dC dI cs am x1 _ ev695) (cwV 0 hts gL_law_X5_thrown rfl rfl rfl cdX5_thrown ⟨Nat.le_of_ble_eq_true rfl, Nat.le_of_ble_eq_true rfl⟩) hK hP [11] (by simp only [List.flatten_cons, List.flatten_nil, List.append_nil, List.cons_append, List.nil_append]) rfl rfl rfl rfl hl.1 rfl (Nat.le_of_ble_eq_true rfl) dL_law_695 ⟨by omega, by omega⟩ ?_
  refine lv_iload hx hb dL_law_698 (lv_at hl 1 rfl) ?_
  obtain ⟨h1a, h1b, h1t, h1f⟩ := x_eqE hf
  refine xk_icmp_eq (tgt := 705) hx hb h1a h1b dL_law_700 (by decide) (fun hq => ?_) (fun hq => by cases h1f hq)
  have hf := h1t hq
  obtain ⟨h2a, h2b, h2t, h2f⟩ := x_eqE hf
  refine lv_iload hx hb dL_law_705 (lv_at hl 1 rfl) ?_
  refine xk_if_ne (tgt := 722) hx hb h2a dL_law_707 (by decide) (fun hq2 => ?_) (fun hq2 => ?_)
  · have hf := h2t hq2
    obtain ⟨h3, hf⟩ := x_ckE hf
    by_cases h4 : o1 0 = v9
    · rw [if_pos h4] at hf
      refine lv_aload_n hx hb dL_law_710 rfl (lv_at hl 5 rfl) ?_
      refine xk_iconst hx hb dL_law_711 ?_
      refine xk_lald hx hb hK hP 0 3 (by decide) (by decide) (by decide) rfl rfl dL_law_712 ?_
      rw [h4]
      refine lv_iload hx hb dL_law_713 (lv_at hl 0 rfl) ?_
      refine xk_i2l hx hb h3 dL_law_715 ?_
      refine xk_lcmp0 hx hb dL_law_716 ?_
      refine xk_if_eq (tgt := 722) hx hb (by decide) dL_law_717 (by decide) (fun _ => ?_) (fun hz => absurd rfl hz)
      refine lv_goto (tgt := 1303) hx hb dL_law_722 (by decide) ?_
      obtain rfl := Option.some.inj hf
      exact kk _ _ _ hP hS (lv_sub hl [2, 3, 4, 5, 6] rfl)
    · rw [if_neg h4] at hf; cases hf
  · have hf := h2f hq2
    refine lv_goto (tgt := 1303) hx hb dL_law_722 (by decide) ?_
    obtain rfl := Option.some.inj hf
    exact kk _ _ _ hP hS (lv_sub hl [2, 3, 4, 5, 6] rfl)

set_option maxHeartbeats 4000000 in
set_option maxRecDepth 100000 in
theorem kC_run {p : Program} {e : Env} {s : State} {m : MethodId} {below : List Frame} {meth : Method} {c : Code} {b L : Nat} {xs : Nat → Int32} (l : Launch) (hlS : l.stackTraces = false) (dC : Nat → ClassId) (dI : Nat → Nat → Nat) (cs : Nat → ClassId) (a am : Nat → Nat) (ao : Nat) (hL : L ≤ 2048) (hx : p.tables.exec = Jvm.exec) (hb : c.code = cL_law) (hml : c.maxLocals = 7) (hown : s.vm.findClass RL = some m.cls) (hts : ∀ w ∈ wsL_law, w.before #[Value.ref b] s = true) (hX : va_X b L xs s s.heap) (hbl : b < s.heap.size) (hT : xTh (fun z9 : Nat => s.heap.size ≤ z9) s) (hN : ∀ q ∈ x_ncs, va_Nc q.1 q.2 s) (hK : va_K (dC, dI) vwCl (xT cs) s) {Q : State → Prop} (x : ModS) (y : BrS) (o : Int → Int) (i : Int) (res : ModS × BrS × (Int → Int)) (hf : fC_run (x_sc xs) i x y o = some res) (h0 : 0 ≤ i) (h1 : i + 4 ≤ (L : Int)) {cells slots : Nat} (hc : cells + 1 ≤ 601024 ∧ slots + 6 ≤ 7293034) {H : Heap} {locs : List Loc} {ls : Array Slot} (hP : va_P (dC, dI) vwCl ([wo cs ao o] ++ w4 cs a y ++ [w5 cs am x]).flatten H) (hD : va_D (fun z9 : Nat => s.heap.size ≤ z9) ([wo cs ao o] ++ w4 cs a y ++ [w5 cs am x]).flatten) (hS : va_S (fun z9 : Nat => s.heap.size ≤ z9) s.heap H locs) (hl : lv_has ls 7 [(0, .ref b), (1, .ref (a 0)), (2, .ref (am 0)), (3, .ref ao), (4, .int (iI i))])
    (kk : ∀ (H : Heap) (locs : List Loc) (ls : Array Slot), va_P (dC, dI) vwCl ([wo cs ao res.2.2] ++ w4 cs a res.2.1 ++ [w5 cs am res.1]).flatten H → va_S (fun z9 : Nat => s.heap.size ≤ z9) s.heap H locs → lv_has ls 7 [(0, .ref b), (1, .ref (a 0)), (2, .ref (am 0)), (3, .ref ao), (4, .int (iI i))] → W p l e room_1 s m #[Value.ref b] below meth c H locs (cells + 1) (slots + 6) Q (F0 m 1303 ls [])) : W p l e room_1 s m #[Value.ref b] below meth c H locs cells slots Q (F0 m 725 ls []) := by
  have hA : ∀ z9 : Nat, s.heap.size ≤ z9 → (fun z9 : Nat => s.heap.size ≤ z9) z9 := fun z9 h => h
  have hbA : ¬ (fun z9 : Nat => s.heap.size ≤ z9) b := Nat.not_le.mpr hbl
  have hcr1 : room_1.cells = 601024 := rfl
  have hcr2 : room_1.slots = 7293034 := rfl
  unfold fC_run at hf
  refine lv_aload_n hx hb dL_law_725 rfl (lv_at hl 1 rfl) ?_
  refine lv_aload_n hx hb dL_law_726 rfl (lv_at hl 0 rfl) ?_
  refine lv_iload hx hb dL_law_727 (lv_at hl 4 rfl) ?_
  refine xk_iconst hx hb dL_law_729 ?_
  refine xk_iadd hx hb dL_law_730 ?_
  refine xk_sld hx hb hX hbl hbA hS (by omega) (by omega) hL dL_law_731 ?_
  refine lv_aload_n hx hb dL_law_732 rfl (lv_at hl 0 rfl) ?_
  refine lv_iload hx hb dL_law_733 (lv_at hl 4 rfl) ?_
  refine xk_iconst hx hb dL_law_735 ?_
  refine xk_iadd hx hb dL_law_736 ?_
  refine xk_sld hx hb hX hbl hbA hS (by omega) (by omega) hL dL_law_737 ?_
  refine lv_aload_n hx hb dL_law_738 rfl (lv_at hl 3 rfl) ?_
  obtain ⟨⟨k9, y1, o1⟩, ek9, hf⟩ := x_bind hf
  refine xf_sw (As := [.ref (a 0), .int (iI (x_sc xs (i + 1))), .int (iI (x_sc xs (i + 2))), .ref ao]) (rest := []) (wcs := [wo cs ao o] ++ w4 cs a y) (w1s := [wo cs ao o1] ++ w4 cs a y1) ⟨hx, hb, hml, hown, hts⟩ (kL_run l hlS dC dI cs a ao H.size y o (x_sc xs (i + 1)) (x_sc xs (i + 2)) _ ek9) (vx_cwSW 4 hts gL_law_L_run rfl rfl rfl cdL_run ⟨Nat.le_of_ble_eq_true rfl, Nat.le_of_ble_eq_true rfl⟩) hK hP hD hS hA hT hN [0, 1, 2, 3, 4, 5, 6, 7, 8, 9, 10] rfl rfl rfl (by decide) rfl rfl hl.1 rfl (Nat.le_of_ble_eq_true rfl) dL_law_739 ⟨by omega, by omega⟩ (fun H locs hP hS => ?_)
  have hP : va_P (dC, dI) vwCl ([wo cs ao o1] ++ w4 cs a y1 ++ [w5 cs am x]).flatten H := hP
  have hD : va_D (fun z9 : Nat => s.heap.size ≤ z9) ([wo cs ao o1] ++ w4 cs a y1 ++ [w5 cs am x]).flatten := x_addrF hD rfl
  refine lv_istore (lv' := [(5, .int (iI k9)), (0, .ref b), (1, .ref (a 0)), (2, .ref (am 0)), (3, .ref ao), (4, .int (iI i))]) hx hb dL_law_742 hl (by decide) rfl (fun ls hl => ?_)
  refine lv_aload_n hx hb dL_law_744 rfl (lv_at hl 3 rfl) ?_
  refine lv_aload_n hx hb dL_law_745 rfl (lv_at hl 1 rfl) ?_
  refine lv_iload hx hb dL_law_746 (lv_at hl 5 rfl) ?_
  refine xk_iconst hx hb dL_law_748 ?_
  refine xk_iadd hx hb dL_law_749 ?_
  refine xk_sld hx hb hX hbl hbA hS (by omega) (by omega) hL dL_law_750 ?_
  refine lv_aload_n hx hb dL_law_751 rfl (lv_at hl 1 rfl) ?_
  refine lv_iload hx hb dL_law_752 (lv_at hl 5 rfl) ?_
  refine xk_iconst hx hb dL_law_754 ?_
  refine xk_iadd hx hb dL_law_755 ?_
  refine xk_sld hx hb hX hbl hbA hS (by omega) (by omega) hL dL_law_756 ?_
  obtain ⟨⟨v9, x1⟩, ev757, hf⟩ := x_bind hf
  refine xf_wi (As := [.int (iI (x_sc xs (i + 1))), .int (iI (x_sc xs (i + 2)))]) (rest := []) (wcs := [w5 cs am x]) (w1s := [w5 cs am x1]) ⟨hx, hb, hml, hown, hts⟩ (c5_run l dC dI cs am H.size x (x_sc xs (i + 1)) (x_sc xs (i + 2)) _ ev757) (cwV 2 hts gL_law_X5_run rfl rfl rfl cdX5_run ⟨Nat.le_of_ble_eq_true rfl, Nat.le_of_ble_eq_true rfl⟩) hK hP hD hS hA [11] (by simp only [List.flatten_cons, List.flatten_nil, List.append_nil, List.cons_append, List.nil_append]) (by simp only [List.flatten_cons, List.flatten_nil, List.append_nil, List.cons_append, List.nil_append]) rfl (by decide) rfl rfl rfl rfl hl.1 rfl (Nat.le_of_ble_eq_true rfl) dL_law_757 ⟨by omega, by omega⟩ (fun H locs hP hS => ?_)
  have hP : va_P (dC, dI) vwCl ([wo cs ao o1] ++ w4 cs a y1 ++ [w5 cs am x1]).flatten H := hP
  have hD : va_D (fun z9 : Nat => s.heap.size ≤ z9) ([wo cs ao o1] ++ w4 cs a y1 ++ [w5 cs am x1]).flatten := x_addrF hD rfl
  refine lv_istore (lv' := [(6, .int (iI v9)), (5, .int (iI k9)), (0, .ref b), (1, .ref (a 0)), (2, .ref (am 0)), (3, .ref ao), (4, .int (iI i))]) hx hb dL_law_760 hl (by decide) rfl (fun ls hl => ?_)
  refine lv_aload_n hx hb dL_law_762 rfl (lv_at hl 4 rfl) ?_
  obtain ⟨t9, ev763, hf⟩ := x_bind hf
  refine xf_ri (As := []) (rest := []) (wcs := [w5 cs am x1]) ⟨hx, hb, hml, hown, hts⟩ (c5_thrown l dC dI cs am x1 _ ev763) (cwV 0 hts gL_law_X5_thrown rfl rfl rfl cdX5_thrown ⟨Nat.le_of_ble_eq_true rfl, Nat.le_of_ble_eq_true rfl⟩) hK hP [11] (by simp only [List.flatten_cons, List.flatten_nil, List.append_nil, List.cons_append, List.nil_append]) rfl rfl rfl rfl hl.1 rfl (Nat.le_of_ble_eq_true rfl) dL_law_763 ⟨by omega, by omega⟩ ?_
  refine lv_iload hx hb dL_law_766 (lv_at hl 1 rfl) ?_
  obtain ⟨h1a, h1b, h1t, h1f⟩ := x_eqE hf
  refine xk_icmp_eq (tgt := 773) hx hb h1a h1b dL_law_768 (by decide) (fun hq => ?_) (fun hq => by cases h1f hq)
  have hf := h1t hq
  obtain ⟨h2a, h2b, h2t, h2f⟩ := x_eqE hf
  refine lv_iload hx hb dL_law_773 (lv_at hl 1 rfl) ?_
  refine xk_if_ne (tgt := 790) hx hb h2a dL_law_775 (by decide) (fun hq2 => ?_) (fun hq2 => ?_)
  · have hf := h2t hq2
    obtain ⟨h3, hf⟩ := x_ckE hf
    by_cases h4 : o1 0 = v9
    · rw [if_pos h4] at hf
      refine lv_aload_n hx hb dL_law_778 rfl (lv_at hl 5 rfl) ?_
      refine xk_iconst hx hb dL_law_779 ?_
      refine xk_lald hx hb hK hP 0 3 (by decide) (by decide) (by decide) rfl rfl dL_law_780 ?_
      rw [h4]
      refine lv_iload hx hb dL_law_781 (lv_at hl 0 rfl) ?_
      refine xk_i2l hx hb h3 dL_law_783 ?_
      refine xk_lcmp0 hx hb dL_law_784 ?_
      refine xk_if_eq (tgt := 790) hx hb (by decide) dL_law_785 (by decide) (fun _ => ?_) (fun hz => absurd rfl hz)
      refine lv_goto (tgt := 1303) hx hb dL_law_790 (by decide) ?_
      obtain rfl := Option.some.inj hf
      exact kk _ _ _ hP hS (lv_sub hl [2, 3, 4, 5, 6] rfl)
    · rw [if_neg h4] at hf; cases hf
  · have hf := h2f hq2
    refine lv_goto (tgt := 1303) hx hb dL_law_790 (by decide) ?_
    obtain rfl := Option.some.inj hf
    exact kk _ _ _ hP hS (lv_sub hl [2, 3, 4, 5, 6] rfl)

set_option maxHeartbeats 4000000 in
set_option maxRecDepth 100000 in
theorem kC_inRun {p : Program} {e : Env} {s : State} {m : MethodId} {below : List Frame} {meth : Method} {c : Code} {b L : Nat} {xs : Nat → Int32} (l : Launch) (hlS : l.stackTraces = false) (dC : Nat → ClassId) (dI : Nat → Nat → Nat) (cs : Nat → ClassId) (a am : Nat → Nat) (ao : Nat) (hL : L ≤ 2048) (hx : p.tables.exec = Jvm.exec) (hb : c.code = cL_law) (hml : c.maxLocals = 7) (hown : s.vm.findClass RL = some m.cls) (hts : ∀ w ∈ wsL_law, w.before #[Value.ref b] s = true) (hX : va_X b L xs s s.heap) (hbl : b < s.heap.size) (hT : xTh (fun z9 : Nat => s.heap.size ≤ z9) s) (hN : ∀ q ∈ x_ncs, va_Nc q.1 q.2 s) (hK : va_K (dC, dI) vwCl (xT cs) s) {Q : State → Prop} (x : ModS) (y : BrS) (o : Int → Int) (i : Int) (res : ModS × BrS × (Int → Int)) (hf : fC_inRun (x_sc xs) i x y o = some res) (h0 : 0 ≤ i) (h1 : i + 4 ≤ (L : Int)) {cells slots : Nat} (hc : cells + 1 ≤ 601024 ∧ slots + 6 ≤ 7293034) {H : Heap} {locs : List Loc} {ls : Array Slot} (hP : va_P (dC, dI) vwCl ([wo cs ao o] ++ w4 cs a y ++ [w5 cs am x]).flatten H) (hD : va_D (fun z9 : Nat => s.heap.size ≤ z9) ([wo cs ao o] ++ w4 cs a y ++ [w5 cs am x]).flatten) (hS : va_S (fun z9 : Nat => s.heap.size ≤ z9) s.heap H locs) (hl : lv_has ls 7 [(0, .ref b), (1, .ref (a 0)), (2, .ref (am 0)), (3, .ref ao), (4, .int (iI i))])
    (kk : ∀ (H : Heap) (locs : List Loc) (ls : Array Slot), va_P (dC, dI) vwCl ([wo cs ao res.2.2] ++ w4 cs a res.2.1 ++ [w5 cs am res.1]).flatten H → va_S (fun z9 : Nat => s.heap.size ≤ z9) s.heap H locs → lv_has ls 7 [(0, .ref b), (1, .ref (a 0)), (2, .ref (am 0)), (3, .ref ao), (4, .int (iI i))] → W p l e room_1 s m #[Value.ref b] below meth c H locs (cells + 1) (slots + 6) Q (F0 m 1303 ls [])) : W p l e room_1 s m #[Value.ref b] below meth c H locs cells slots Q (F0 m 793 ls []) := by
  have hA : ∀ z9 : Nat, s.heap.size ≤ z9 → (fun z9 : Nat => s.heap.size ≤ z9) z9 := fun z9 h => h
  have hbA : ¬ (fun z9 : Nat => s.heap.size ≤ z9) b := Nat.not_le.mpr hbl
  have hcr1 : room_1.cells = 601024 := rfl
  have hcr2 : room_1.slots = 7293034 := rfl
  unfold fC_inRun at hf
  refine lv_aload_n hx hb dL_law_793 rfl (lv_at hl 1 rfl) ?_
  refine lv_aload_n hx hb dL_law_794 rfl (lv_at hl 0 rfl) ?_
  refine lv_iload hx hb dL_law_795 (lv_at hl 4 rfl) ?_
  refine xk_iconst hx hb dL_law_797 ?_
  refine xk_iadd hx hb dL_law_798 ?_
  refine xk_sld hx hb hX hbl hbA hS (by omega) (by omega) hL dL_law_799 ?_
  refine lv_aload_n hx hb dL_law_800 rfl (lv_at hl 0 rfl) ?_
  refine lv_iload hx hb dL_law_801 (lv_at hl 4 rfl) ?_
  refine xk_iconst hx hb dL_law_803 ?_
  refine xk_iadd hx hb dL_law_804 ?_
  refine xk_sld hx hb hX hbl hbA hS (by omega) (by omega) hL dL_law_805 ?_
  refine lv_aload_n hx hb dL_law_806 rfl (lv_at hl 3 rfl) ?_
  obtain ⟨⟨k9, y1, o1⟩, ek9, hf⟩ := x_bind hf
  refine xf_sw (As := [.ref (a 0), .int (iI (x_sc xs (i + 1))), .int (iI (x_sc xs (i + 2))), .ref ao]) (rest := []) (wcs := [wo cs ao o] ++ w4 cs a y) (w1s := [wo cs ao o1] ++ w4 cs a y1) ⟨hx, hb, hml, hown, hts⟩ (kL_inRun l hlS dC dI cs a ao H.size y o (x_sc xs (i + 1)) (x_sc xs (i + 2)) _ ek9) (vx_cwSW 4 hts gL_law_L_inRun rfl rfl rfl cdL_inRun ⟨Nat.le_of_ble_eq_true rfl, Nat.le_of_ble_eq_true rfl⟩) hK hP hD hS hA hT hN [0, 1, 2, 3, 4, 5, 6, 7, 8, 9, 10] rfl rfl rfl (by decide) rfl rfl hl.1 rfl (Nat.le_of_ble_eq_true rfl) dL_law_807 ⟨by omega, by omega⟩ (fun H locs hP hS => ?_)
  have hP : va_P (dC, dI) vwCl ([wo cs ao o1] ++ w4 cs a y1 ++ [w5 cs am x]).flatten H := hP
  have hD : va_D (fun z9 : Nat => s.heap.size ≤ z9) ([wo cs ao o1] ++ w4 cs a y1 ++ [w5 cs am x]).flatten := x_addrF hD rfl
  refine lv_istore (lv' := [(5, .int (iI k9)), (0, .ref b), (1, .ref (a 0)), (2, .ref (am 0)), (3, .ref ao), (4, .int (iI i))]) hx hb dL_law_810 hl (by decide) rfl (fun ls hl => ?_)
  refine lv_aload_n hx hb dL_law_812 rfl (lv_at hl 3 rfl) ?_
  refine lv_aload_n hx hb dL_law_813 rfl (lv_at hl 1 rfl) ?_
  refine lv_iload hx hb dL_law_814 (lv_at hl 5 rfl) ?_
  refine xk_iconst hx hb dL_law_816 ?_
  refine xk_iadd hx hb dL_law_817 ?_
  refine xk_sld hx hb hX hbl hbA hS (by omega) (by omega) hL dL_law_818 ?_
  refine lv_aload_n hx hb dL_law_819 rfl (lv_at hl 1 rfl) ?_
  refine lv_iload hx hb dL_law_820 (lv_at hl 5 rfl) ?_
  refine xk_iconst hx hb dL_law_822 ?_
  refine xk_iadd hx hb dL_law_823 ?_
  refine xk_sld hx hb hX hbl hbA hS (by omega) (by omega) hL dL_law_824 ?_
  obtain ⟨⟨v9, x1⟩, ev825, hf⟩ := x_bind hf
  refine xf_wi (As := [.int (iI (x_sc xs (i + 1))), .int (iI (x_sc xs (i + 2)))]) (rest := []) (wcs := [w5 cs am x]) (w1s := [w5 cs am x1]) ⟨hx, hb, hml, hown, hts⟩ (c5_inRun l dC dI cs am H.size x (x_sc xs (i + 1)) (x_sc xs (i + 2)) _ ev825) (cwV 2 hts gL_law_X5_inRun rfl rfl rfl cdX5_inRun ⟨Nat.le_of_ble_eq_true rfl, Nat.le_of_ble_eq_true rfl⟩) hK hP hD hS hA [11] (by simp only [List.flatten_cons, List.flatten_nil, List.append_nil, List.cons_append, List.nil_append]) (by simp only [List.flatten_cons, List.flatten_nil, List.append_nil, List.cons_append, List.nil_append]) rfl (by decide) rfl rfl rfl rfl hl.1 rfl (Nat.le_of_ble_eq_true rfl) dL_law_825 ⟨by omega, by omega⟩ (fun H locs hP hS => ?_)
  have hP : va_P (dC, dI) vwCl ([wo cs ao o1] ++ w4 cs a y1 ++ [w5 cs am x1]).flatten H := hP
  have hD : va_D (fun z9 : Nat => s.heap.size ≤ z9) ([wo cs ao o1] ++ w4 cs a y1 ++ [w5 cs am x1]).flatten := x_addrF hD rfl
  refine lv_istore (lv' := [(6, .int (iI v9)), (5, .int (iI k9)), (0, .ref b), (1, .ref (a 0)), (2, .ref (am 0)), (3, .ref ao), (4, .int (iI i))]) hx hb dL_law_828 hl (by decide) rfl (fun ls hl => ?_)
  refine lv_aload_n hx hb dL_law_830 rfl (lv_at hl 4 rfl) ?_
  obtain ⟨t9, ev831, hf⟩ := x_bind hf
  refine xf_ri (As := []) (rest := []) (wcs := [w5 cs am x1]) ⟨hx, hb, hml, hown, hts⟩ (c5_thrown l dC dI cs am x1 _ ev831) (cwV 0 hts gL_law_X5_thrown rfl rfl rfl cdX5_thrown ⟨Nat.le_of_ble_eq_true rfl, Nat.le_of_ble_eq_true rfl⟩) hK hP [11] (by simp only [List.flatten_cons, List.flatten_nil, List.append_nil, List.cons_append, List.nil_append]) rfl rfl rfl rfl hl.1 rfl (Nat.le_of_ble_eq_true rfl) dL_law_831 ⟨by omega, by omega⟩ ?_
  refine lv_iload hx hb dL_law_834 (lv_at hl 1 rfl) ?_
  obtain ⟨h1a, h1b, h1t, h1f⟩ := x_eqE hf
  refine xk_icmp_eq (tgt := 841) hx hb h1a h1b dL_law_836 (by decide) (fun hq => ?_) (fun hq => by cases h1f hq)
  have hf := h1t hq
  obtain ⟨h2a, h2b, h2t, h2f⟩ := x_eqE hf
  refine lv_iload hx hb dL_law_841 (lv_at hl 1 rfl) ?_
  refine xk_if_ne (tgt := 858) hx hb h2a dL_law_843 (by decide) (fun hq2 => ?_) (fun hq2 => ?_)
  · have hf := h2t hq2
    obtain ⟨h3, hf⟩ := x_ckE hf
    by_cases h4 : o1 0 = v9
    · rw [if_pos h4] at hf
      refine lv_aload_n hx hb dL_law_846 rfl (lv_at hl 5 rfl) ?_
      refine xk_iconst hx hb dL_law_847 ?_
      refine xk_lald hx hb hK hP 0 3 (by decide) (by decide) (by decide) rfl rfl dL_law_848 ?_
      rw [h4]
      refine lv_iload hx hb dL_law_849 (lv_at hl 0 rfl) ?_
      refine xk_i2l hx hb h3 dL_law_851 ?_
      refine xk_lcmp0 hx hb dL_law_852 ?_
      refine xk_if_eq (tgt := 858) hx hb (by decide) dL_law_853 (by decide) (fun _ => ?_) (fun hz => absurd rfl hz)
      refine lv_goto (tgt := 1303) hx hb dL_law_858 (by decide) ?_
      obtain rfl := Option.some.inj hf
      exact kk _ _ _ hP hS (lv_sub hl [2, 3, 4, 5, 6] rfl)
    · rw [if_neg h4] at hf; cases hf
  · have hf := h2f hq2
    refine lv_goto (tgt := 1303) hx hb dL_law_858 (by decide) ?_
    obtain rfl := Option.some.inj hf
    exact kk _ _ _ hP hS (lv_sub hl [2, 3, 4, 5, 6] rfl)

set_option maxHeartbeats 4000000 in
set_option maxRecDepth 100000 in
theorem kC_ashore {p : Program} {e : Env} {s : State} {m : MethodId} {below : List Frame} {meth : Method} {c : Code} {b L : Nat} {xs : Nat → Int32} (l : Launch) (hlS : l.stackTraces = false) (dC : Nat → ClassId) (dI : Nat → Nat → Nat) (cs : Nat → ClassId) (a am : Nat → Nat) (ao : Nat) (hL : L ≤ 2048) (hx : p.tables.exec = Jvm.exec) (hb : c.code = cL_law) (hml : c.maxLocals = 7) (hown : s.vm.findClass RL = some m.cls) (hts : ∀ w ∈ wsL_law, w.before #[Value.ref b] s = true) (hX : va_X b L xs s s.heap) (hbl : b < s.heap.size) (hT : xTh (fun z9 : Nat => s.heap.size ≤ z9) s) (hN : ∀ q ∈ x_ncs, va_Nc q.1 q.2 s) (hK : va_K (dC, dI) vwCl (xT cs) s) {Q : State → Prop} (x : ModS) (y : BrS) (o : Int → Int) (i : Int) (res : ModS × BrS × (Int → Int)) (hf : fC_ashore (x_sc xs) i x y o = some res) (h0 : 0 ≤ i) (h1 : i + 4 ≤ (L : Int)) {cells slots : Nat} (hc : cells + 1 ≤ 601024 ∧ slots + 6 ≤ 7293034) {H : Heap} {locs : List Loc} {ls : Array Slot} (hP : va_P (dC, dI) vwCl ([wo cs ao o] ++ w4 cs a y ++ [w5 cs am x]).flatten H) (hD : va_D (fun z9 : Nat => s.heap.size ≤ z9) ([wo cs ao o] ++ w4 cs a y ++ [w5 cs am x]).flatten) (hS : va_S (fun z9 : Nat => s.heap.size ≤ z9) s.heap H locs) (hl : lv_has ls 7 [(0, .ref b), (1, .ref (a 0)), (2, .ref (am 0)), (3, .ref ao), (4, .int (iI i))])
    (kk : ∀ (H : Heap) (locs : List Loc) (ls : Array Slot), va_P (dC, dI) vwCl ([wo cs ao res.2.2] ++ w4 cs a res.2.1 ++ [w5 cs am res.1]).flatten H → va_S (fun z9 : Nat => s.heap.size ≤ z9) s.heap H locs → lv_has ls 7 [(0, .ref b), (1, .ref (a 0)), (2, .ref (am 0)), (3, .ref ao), (4, .int (iI i))] → W p l e room_1 s m #[Value.ref b] below meth c H locs (cells + 1) (slots + 6) Q (F0 m 1303 ls [])) : W p l e room_1 s m #[Value.ref b] below meth c H locs cells slots Q (F0 m 861 ls []) := by
  have hA : ∀ z9 : Nat, s.heap.size ≤ z9 → (fun z9 : Nat => s.heap.size ≤ z9) z9 := fun z9 h => h
  have hbA : ¬ (fun z9 : Nat => s.heap.size ≤ z9) b := Nat.not_le.mpr hbl
  have hcr1 : room_1.cells = 601024 := rfl
  have hcr2 : room_1.slots = 7293034 := rfl
  unfold fC_ashore at hf
  refine lv_aload_n hx hb dL_law_861 rfl (lv_at hl 1 rfl) ?_
  refine lv_aload_n hx hb dL_law_862 rfl (lv_at hl 0 rfl) ?_
  refine lv_iload hx hb dL_law_863 (lv_at hl 4 rfl) ?_
  refine xk_iconst hx hb dL_law_865 ?_
  refine xk_iadd hx hb dL_law_866 ?_
  refine xk_sld hx hb hX hbl hbA hS (by omega) (by omega) hL dL_law_867 ?_
  refine lv_aload_n hx hb dL_law_868 rfl (lv_at hl 3 rfl) ?_
  obtain ⟨⟨k9, y1, o1⟩, ek9, hf⟩ := x_bind hf
  refine xf_sw (As := [.ref (a 0), .int (iI (x_sc xs (i + 1))), .ref ao]) (rest := []) (wcs := [wo cs ao o] ++ w4 cs a y) (w1s := [wo cs ao o1] ++ w4 cs a y1) ⟨hx, hb, hml, hown, hts⟩ (kL_ashore l hlS dC dI cs a ao H.size y o (x_sc xs (i + 1)) _ ek9) (vx_cwSW 3 hts gL_law_L_ashore rfl rfl rfl cdL_ashore ⟨Nat.le_of_ble_eq_true rfl, Nat.le_of_ble_eq_true rfl⟩) hK hP hD hS hA hT hN [0, 1, 2, 3, 4, 5, 6, 7, 8, 9, 10] rfl rfl rfl (by decide) rfl rfl hl.1 rfl (Nat.le_of_ble_eq_true rfl) dL_law_869 ⟨by omega, by omega⟩ (fun H locs hP hS => ?_)
  have hP : va_P (dC, dI) vwCl ([wo cs ao o1] ++ w4 cs a y1 ++ [w5 cs am x]).flatten H := hP
  have hD : va_D (fun z9 : Nat => s.heap.size ≤ z9) ([wo cs ao o1] ++ w4 cs a y1 ++ [w5 cs am x]).flatten := x_addrF hD rfl
  refine lv_istore (lv' := [(5, .int (iI k9)), (0, .ref b), (1, .ref (a 0)), (2, .ref (am 0)), (3, .ref ao), (4, .int (iI i))]) hx hb dL_law_872 hl (by decide) rfl (fun ls hl => ?_)
  refine lv_aload_n hx hb dL_law_874 rfl (lv_at hl 3 rfl) ?_
  refine lv_aload_n hx hb dL_law_875 rfl (lv_at hl 1 rfl) ?_
  refine lv_iload hx hb dL_law_876 (lv_at hl 5 rfl) ?_
  refine xk_iconst hx hb dL_law_878 ?_
  refine xk_iadd hx hb dL_law_879 ?_
  refine xk_sld hx hb hX hbl hbA hS (by omega) (by omega) hL dL_law_880 ?_
  obtain ⟨⟨v9, x1⟩, ev881, hf⟩ := x_bind hf
  refine xf_wi (As := [.int (iI (x_sc xs (i + 1)))]) (rest := []) (wcs := [w5 cs am x]) (w1s := [w5 cs am x1]) ⟨hx, hb, hml, hown, hts⟩ (c5_ashore l dC dI cs am H.size x (x_sc xs (i + 1)) _ ev881) (cwV 1 hts gL_law_X5_ashore rfl rfl rfl cdX5_ashore ⟨Nat.le_of_ble_eq_true rfl, Nat.le_of_ble_eq_true rfl⟩) hK hP hD hS hA [11] (by simp only [List.flatten_cons, List.flatten_nil, List.append_nil, List.cons_append, List.nil_append]) (by simp only [List.flatten_cons, List.flatten_nil, List.append_nil, List.cons_append, List.nil_append]) rfl (by decide) rfl rfl rfl rfl hl.1 rfl (Nat.le_of_ble_eq_true rfl) dL_law_881 ⟨by omega, by omega⟩ (fun H locs hP hS => ?_)
  have hP : va_P (dC, dI) vwCl ([wo cs ao o1] ++ w4 cs a y1 ++ [w5 cs am x1]).flatten H := hP
  have hD : va_D (fun z9 : Nat => s.heap.size ≤ z9) ([wo cs ao o1] ++ w4 cs a y1 ++ [w5 cs am x1]).flatten := x_addrF hD rfl
  refine lv_istore (lv' := [(6, .int (iI v9)), (5, .int (iI k9)), (0, .ref b), (1, .ref (a 0)), (2, .ref (am 0)), (3, .ref ao), (4, .int (iI i))]) hx hb dL_law_884 hl (by decide) rfl (fun ls hl => ?_)
  refine lv_aload_n hx hb dL_law_886 rfl (lv_at hl 4 rfl) ?_
  obtain ⟨t9, ev887, hf⟩ := x_bind hf
  refine xf_ri (As := []) (rest := []) (wcs := [w5 cs am x1]) ⟨hx, hb, hml, hown, hts⟩ (c5_thrown l dC dI cs am x1 _ ev887) (cwV 0 hts gL_law_X5_thrown rfl rfl rfl cdX5_thrown ⟨Nat.le_of_ble_eq_true rfl, Nat.le_of_ble_eq_true rfl⟩) hK hP [11] (by simp only [List.flatten_cons, List.flatten_nil, List.append_nil, List.cons_append, List.nil_append]) rfl rfl rfl rfl hl.1 rfl (Nat.le_of_ble_eq_true rfl) dL_law_887 ⟨by omega, by omega⟩ ?_
  refine lv_iload hx hb dL_law_890 (lv_at hl 1 rfl) ?_
  obtain ⟨h1a, h1b, h1t, h1f⟩ := x_eqE hf
  refine xk_icmp_eq (tgt := 897) hx hb h1a h1b dL_law_892 (by decide) (fun hq => ?_) (fun hq => by cases h1f hq)
  have hf := h1t hq
  obtain ⟨h2a, h2b, h2t, h2f⟩ := x_eqE hf
  refine lv_iload hx hb dL_law_897 (lv_at hl 1 rfl) ?_
  refine xk_if_ne (tgt := 914) hx hb h2a dL_law_899 (by decide) (fun hq2 => ?_) (fun hq2 => ?_)
  · have hf := h2t hq2
    obtain ⟨h3, hf⟩ := x_ckE hf
    by_cases h4 : o1 0 = v9
    · rw [if_pos h4] at hf
      refine lv_aload_n hx hb dL_law_902 rfl (lv_at hl 5 rfl) ?_
      refine xk_iconst hx hb dL_law_903 ?_
      refine xk_lald hx hb hK hP 0 3 (by decide) (by decide) (by decide) rfl rfl dL_law_904 ?_
      rw [h4]
      refine lv_iload hx hb dL_law_905 (lv_at hl 0 rfl) ?_
      refine xk_i2l hx hb h3 dL_law_907 ?_
      refine xk_lcmp0 hx hb dL_law_908 ?_
      refine xk_if_eq (tgt := 914) hx hb (by decide) dL_law_909 (by decide) (fun _ => ?_) (fun hz => absurd rfl hz)
      refine lv_goto (tgt := 1303) hx hb dL_law_914 (by decide) ?_
      obtain rfl := Option.some.inj hf
      exact kk _ _ _ hP hS (lv_sub hl [2, 3, 4, 5, 6] rfl)
    · rw [if_neg h4] at hf; cases hf
  · have hf := h2f hq2
    refine lv_goto (tgt := 1303) hx hb dL_law_914 (by decide) ?_
    obtain rfl := Option.some.inj hf
    exact kk _ _ _ hP hS (lv_sub hl [2, 3, 4, 5, 6] rfl)

set_option maxHeartbeats 4000000 in
set_option maxRecDepth 100000 in
theorem kC_runAt {p : Program} {e : Env} {s : State} {m : MethodId} {below : List Frame} {meth : Method} {c : Code} {b L : Nat} {xs : Nat → Int32} (l : Launch) (hlS : l.stackTraces = false) (dC : Nat → ClassId) (dI : Nat → Nat → Nat) (cs : Nat → ClassId) (a am : Nat → Nat) (ao : Nat) (hL : L ≤ 2048) (hx : p.tables.exec = Jvm.exec) (hb : c.code = cL_law) (hml : c.maxLocals = 7) (hown : s.vm.findClass RL = some m.cls) (hts : ∀ w ∈ wsL_law, w.before #[Value.ref b] s = true) (hX : va_X b L xs s s.heap) (hbl : b < s.heap.size) (hT : xTh (fun z9 : Nat => s.heap.size ≤ z9) s) (hN : ∀ q ∈ x_ncs, va_Nc q.1 q.2 s) (hK : va_K (dC, dI) vwCl (xT cs) s) {Q : State → Prop} (x : ModS) (y : BrS) (o : Int → Int) (i : Int) (res : ModS × BrS × (Int → Int)) (hf : fC_runAt (x_sc xs) i x y o = some res) (h0 : 0 ≤ i) (h1 : i + 4 ≤ (L : Int)) {cells slots : Nat} (hc : cells + 1 ≤ 601024 ∧ slots + 6 ≤ 7293034) {H : Heap} {locs : List Loc} {ls : Array Slot} (hP : va_P (dC, dI) vwCl ([wo cs ao o] ++ w4 cs a y ++ [w5 cs am x]).flatten H) (hD : va_D (fun z9 : Nat => s.heap.size ≤ z9) ([wo cs ao o] ++ w4 cs a y ++ [w5 cs am x]).flatten) (hS : va_S (fun z9 : Nat => s.heap.size ≤ z9) s.heap H locs) (hl : lv_has ls 7 [(0, .ref b), (1, .ref (a 0)), (2, .ref (am 0)), (3, .ref ao), (4, .int (iI i))])
    (kk : ∀ (H : Heap) (locs : List Loc) (ls : Array Slot), va_P (dC, dI) vwCl ([wo cs ao res.2.2] ++ w4 cs a res.2.1 ++ [w5 cs am res.1]).flatten H → va_S (fun z9 : Nat => s.heap.size ≤ z9) s.heap H locs → lv_has ls 7 [(0, .ref b), (1, .ref (a 0)), (2, .ref (am 0)), (3, .ref ao), (4, .int (iI i))] → W p l e room_1 s m #[Value.ref b] below meth c H locs (cells + 1) (slots + 6) Q (F0 m 1303 ls [])) : W p l e room_1 s m #[Value.ref b] below meth c H locs cells slots Q (F0 m 917 ls []) := by
  have hA : ∀ z9 : Nat, s.heap.size ≤ z9 → (fun z9 : Nat => s.heap.size ≤ z9) z9 := fun z9 h => h
  have hbA : ¬ (fun z9 : Nat => s.heap.size ≤ z9) b := Nat.not_le.mpr hbl
  have hcr1 : room_1.cells = 601024 := rfl
  have hcr2 : room_1.slots = 7293034 := rfl
  unfold fC_runAt at hf
  refine lv_aload_n hx hb dL_law_917 rfl (lv_at hl 1 rfl) ?_
  refine lv_aload_n hx hb dL_law_918 rfl (lv_at hl 0 rfl) ?_
  refine lv_iload hx hb dL_law_919 (lv_at hl 4 rfl) ?_
  refine xk_iconst hx hb dL_law_921 ?_
  refine xk_iadd hx hb dL_law_922 ?_
  refine xk_sld hx hb hX hbl hbA hS (by omega) (by omega) hL dL_law_923 ?_
  refine lv_aload_n hx hb dL_law_924 rfl (lv_at hl 3 rfl) ?_
  obtain ⟨⟨k9, y1, o1⟩, ek9, hf⟩ := x_bind hf
  refine xf_sw (As := [.ref (a 0), .int (iI (x_sc xs (i + 1))), .ref ao]) (rest := []) (wcs := [wo cs ao o] ++ w4 cs a y) (w1s := [wo cs ao o1] ++ w4 cs a y1) ⟨hx, hb, hml, hown, hts⟩ (kL_runAt l hlS dC dI cs a ao H.size y o (x_sc xs (i + 1)) _ ek9) (vx_cwSW 3 hts gL_law_L_runAt rfl rfl rfl cdL_runAt ⟨Nat.le_of_ble_eq_true rfl, Nat.le_of_ble_eq_true rfl⟩) hK hP hD hS hA hT hN [0, 1, 2, 3, 4, 5, 6, 7, 8, 9, 10] rfl rfl rfl (by decide) rfl rfl hl.1 rfl (Nat.le_of_ble_eq_true rfl) dL_law_925 ⟨by omega, by omega⟩ (fun H locs hP hS => ?_)
  have hP : va_P (dC, dI) vwCl ([wo cs ao o1] ++ w4 cs a y1 ++ [w5 cs am x]).flatten H := hP
  have hD : va_D (fun z9 : Nat => s.heap.size ≤ z9) ([wo cs ao o1] ++ w4 cs a y1 ++ [w5 cs am x]).flatten := x_addrF hD rfl
  refine lv_istore (lv' := [(5, .int (iI k9)), (0, .ref b), (1, .ref (a 0)), (2, .ref (am 0)), (3, .ref ao), (4, .int (iI i))]) hx hb dL_law_928 hl (by decide) rfl (fun ls hl => ?_)
  refine lv_aload_n hx hb dL_law_930 rfl (lv_at hl 3 rfl) ?_
  refine lv_aload_n hx hb dL_law_931 rfl (lv_at hl 1 rfl) ?_
  refine lv_iload hx hb dL_law_932 (lv_at hl 5 rfl) ?_
  refine xk_iconst hx hb dL_law_934 ?_
  refine xk_iadd hx hb dL_law_935 ?_
  refine xk_sld hx hb hX hbl hbA hS (by omega) (by omega) hL dL_law_936 ?_
  obtain ⟨⟨v9, x1⟩, ev937, hf⟩ := x_bind hf
  refine xf_wi (As := [.int (iI (x_sc xs (i + 1)))]) (rest := []) (wcs := [w5 cs am x]) (w1s := [w5 cs am x1]) ⟨hx, hb, hml, hown, hts⟩ (c5_runAt l dC dI cs am H.size x (x_sc xs (i + 1)) _ ev937) (cwV 1 hts gL_law_X5_runAt rfl rfl rfl cdX5_runAt ⟨Nat.le_of_ble_eq_true rfl, Nat.le_of_ble_eq_true rfl⟩) hK hP hD hS hA [11] (by simp only [List.flatten_cons, List.flatten_nil, List.append_nil, List.cons_append, List.nil_append]) (by simp only [List.flatten_cons, List.flatten_nil, List.append_nil, List.cons_append, List.nil_append]) rfl (by decide) rfl rfl rfl rfl hl.1 rfl (Nat.le_of_ble_eq_true rfl) dL_law_937 ⟨by omega, by omega⟩ (fun H locs hP hS => ?_)
  have hP : va_P (dC, dI) vwCl ([wo cs ao o1] ++ w4 cs a y1 ++ [w5 cs am x1]).flatten H := hP
  have hD : va_D (fun z9 : Nat => s.heap.size ≤ z9) ([wo cs ao o1] ++ w4 cs a y1 ++ [w5 cs am x1]).flatten := x_addrF hD rfl
  refine lv_istore (lv' := [(6, .int (iI v9)), (5, .int (iI k9)), (0, .ref b), (1, .ref (a 0)), (2, .ref (am 0)), (3, .ref ao), (4, .int (iI i))]) hx hb dL_law_940 hl (by decide) rfl (fun ls hl => ?_)
  refine lv_aload_n hx hb dL_law_942 rfl (lv_at hl 4 rfl) ?_
  obtain ⟨t9, ev943, hf⟩ := x_bind hf
  refine xf_ri (As := []) (rest := []) (wcs := [w5 cs am x1]) ⟨hx, hb, hml, hown, hts⟩ (c5_thrown l dC dI cs am x1 _ ev943) (cwV 0 hts gL_law_X5_thrown rfl rfl rfl cdX5_thrown ⟨Nat.le_of_ble_eq_true rfl, Nat.le_of_ble_eq_true rfl⟩) hK hP [11] (by simp only [List.flatten_cons, List.flatten_nil, List.append_nil, List.cons_append, List.nil_append]) rfl rfl rfl rfl hl.1 rfl (Nat.le_of_ble_eq_true rfl) dL_law_943 ⟨by omega, by omega⟩ ?_
  refine lv_iload hx hb dL_law_946 (lv_at hl 1 rfl) ?_
  obtain ⟨h1a, h1b, h1t, h1f⟩ := x_eqE hf
  refine xk_icmp_eq (tgt := 953) hx hb h1a h1b dL_law_948 (by decide) (fun hq => ?_) (fun hq => by cases h1f hq)
  have hf := h1t hq
  obtain ⟨h2a, h2b, h2t, h2f⟩ := x_eqE hf
  refine lv_iload hx hb dL_law_953 (lv_at hl 1 rfl) ?_
  refine xk_if_ne (tgt := 970) hx hb h2a dL_law_955 (by decide) (fun hq2 => ?_) (fun hq2 => ?_)
  · have hf := h2t hq2
    obtain ⟨h3, hf⟩ := x_ckE hf
    by_cases h4 : o1 0 = v9
    · rw [if_pos h4] at hf
      refine lv_aload_n hx hb dL_law_958 rfl (lv_at hl 5 rfl) ?_
      refine xk_iconst hx hb dL_law_959 ?_
      refine xk_lald hx hb hK hP 0 3 (by decide) (by decide) (by decide) rfl rfl dL_law_960 ?_
      rw [h4]
      refine lv_iload hx hb dL_law_961 (lv_at hl 0 rfl) ?_
      refine xk_i2l hx hb h3 dL_law_963 ?_
      refine xk_lcmp0 hx hb dL_law_964 ?_
      refine xk_if_eq (tgt := 970) hx hb (by decide) dL_law_965 (by decide) (fun _ => ?_) (fun hz => absurd rfl hz)
      refine lv_goto (tgt := 1303) hx hb dL_law_970 (by decide) ?_
      obtain rfl := Option.some.inj hf
      exact kk _ _ _ hP hS (lv_sub hl [2, 3, 4, 5, 6] rfl)
    · rw [if_neg h4] at hf; cases hf
  · have hf := h2f hq2
    refine lv_goto (tgt := 1303) hx hb dL_law_970 (by decide) ?_
    obtain rfl := Option.some.inj hf
    exact kk _ _ _ hP hS (lv_sub hl [2, 3, 4, 5, 6] rfl)

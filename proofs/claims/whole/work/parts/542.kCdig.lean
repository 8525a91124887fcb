theorem xk_lcmpE {p : Program} {l : Launch} {e : Env} {R : Room} {s : State} {m : MethodId} {args : Array Value} {below : List Frame} {meth : Method} {c : Code} {H : Heap} {locs : List Loc} {cells slots : Nat} {Q : State → Prop} {cc : ByteArray} {pc : Nat} {ls : Array Slot} {rest : List Value} {x y : Int64} (h : x = y) (hexec : p.tables.exec = Jvm.exec) (hb : c.code = cc) (hdg : decode cc pc = .ok (.lcmp, 1))
    (kk : W p l e R s m args below meth c H locs cells slots Q (F0 m (pc + 1) ls (.int (iI 0) :: rest))) : W p l e R s m args below meth c H locs cells slots Q (F0 m pc ls (.long y :: .long x :: rest)) := by
  subst h; exact xk_lcmp0 hexec hb hdg kk
set_option maxHeartbeats 400000 in
set_option maxRecDepth 100000 in
theorem kC_digest {p : Program} {e : Env} {s : State} {m : MethodId} {below : List Frame} {meth : Method} {c : Code} {b L : Nat} {xs : Nat → Int32} (l : Launch) (hlS : l.stackTraces = false) (dC : Nat → ClassId) (dI : Nat → Nat → Nat) (cs : Nat → ClassId) (a am : Nat → Nat) (ao : Nat) (hL : L ≤ 2048) (hx : p.tables.exec = Jvm.exec) (hb : c.code = cL_law) (hml : c.maxLocals = 7) (hown : s.vm.findClass RL = some m.cls) (hts : ∀ w ∈ wsL_law, w.before #[Value.ref b] s = true) (hX : va_X b L xs s s.heap) (hbl : b < s.heap.size) (hT : xTh (fun z9 : Nat => s.heap.size ≤ z9) s) (hN : ∀ q ∈ x_ncs, va_Nc q.1 q.2 s) (hK : va_K (dC, dI) vwCl (xT cs) s) {Q : State → Prop} (x : ModS) (y : BrS) (o : Int → Int) (i : Int) (res : ModS × BrS × (Int → Int)) (hf : fC_digest (x_sc xs) i x y o = some res) (h0 : 0 ≤ i) (h1 : i + 4 ≤ (L : Int)) {cells slots : Nat} (hc : cells + 1 ≤ 601024 ∧ slots + 6 ≤ 7293034) {H : Heap} {locs : List Loc} {ls : Array Slot} (hP : va_P (dC, dI) vwCl ([wo cs ao o] ++ w4 cs a y ++ [w5 cs am x]).flatten H) (hD : va_D (fun z9 : Nat => s.heap.size ≤ z9) ([wo cs ao o] ++ w4 cs a y ++ [w5 cs am x]).flatten) (hS : va_S (fun z9 : Nat => s.heap.size ≤ z9) s.heap H locs) (hl : lv_has ls 7 [(0, .ref b), (1, .ref (a 0)), (2, .ref (am 0)), (3, .ref ao), (4, .int (iI i))])
    (kk : ∀ (H : Heap) (locs : List Loc) (ls : Array Slot), va_P (dC, dI) vwCl ([wo cs ao res.2.2] ++ w4 cs a res.2.1 ++ [w5 cs am res.1]).flatten H → va_S (fun z9 : Nat => s.heap.size ≤ z9) s.heap H locs → lv_has ls 7 [(0, .ref b), (1, .ref (a 0)), (2, .ref (am 0)), (3, .ref ao), (4, .int (iI i))] → W p l e room_1 s m #[Value.ref b] below meth c H locs (cells + 1) (slots + 6) Q (F0 m 1303 ls [])) : W p l e room_1 s m #[Value.ref b] below meth c H locs cells slots Q (F0 m 1289 ls []) := by
  have hA : ∀ z9 : Nat, s.heap.size ≤ z9 → (fun z9 : Nat => s.heap.size ≤ z9) z9 := fun z9 h => h
  have hbA : ¬ (fun z9 : Nat => s.heap.size ≤ z9) b := Nat.not_le.mpr hbl
  have hcr1 : room_1.cells = 601024 := rfl
  have hcr2 : room_1.slots = 7293034 := rfl
  unfold fC_digest at hf
  refine lv_aload_n hx hb dL_law_1289 rfl (lv_at hl 1 rfl) ?_
  obtain ⟨⟨v9, y1⟩, ev1290, hf⟩ := x_bind hf
  refine xf_wl (As := []) (rest := []) (wcs := (w4 cs a y)) (w1s := (w4 cs a y1)) (v := v9) ⟨hx, hb, hml, hown, hts⟩ (c4_digest l dC dI cs a H.size y _ ev1290) (cwV 0 hts gL_law_X4_digest rfl rfl rfl cdX4_digest ⟨Nat.le_of_ble_eq_true rfl, Nat.le_of_ble_eq_true rfl⟩) hK hP hD hS hA [1, 2, 3, 4, 5, 6, 7, 8, 9, 10] rfl rfl rfl (by decide) rfl rfl rfl rfl hl.1 rfl (Nat.le_of_ble_eq_true rfl) dL_law_1290 ⟨by omega, by omega⟩ (fun H locs hP hS => ?_)
  have hP : va_P (dC, dI) vwCl ([wo cs ao o] ++ w4 cs a y1 ++ [w5 cs am x]).flatten H := hP
  have hD : va_D (fun z9 : Nat => s.heap.size ≤ z9) ([wo cs ao o] ++ w4 cs a y1 ++ [w5 cs am x]).flatten := x_addrF hD rfl
  refine lv_aload_n hx hb dL_law_1293 rfl (lv_at hl 2 rfl) ?_
  obtain ⟨⟨u9, x1⟩, ev1294, hf⟩ := x_bind hf
  refine xf_wl (As := []) (rest := [.long (iL v9)]) (wcs := [w5 cs am x]) (w1s := [w5 cs am x1]) (v := u9) ⟨hx, hb, hml, hown, hts⟩ (c5_digest l dC dI cs am H.size x _ ev1294) (cwV 0 hts gL_law_X5_digest rfl rfl rfl cdX5_digest ⟨Nat.le_of_ble_eq_true rfl, Nat.le_of_ble_eq_true rfl⟩) hK hP hD hS hA [11] (by simp only [List.flatten_cons, List.flatten_nil, List.append_nil, List.cons_append, List.nil_append]) (by simp only [List.flatten_cons, List.flatten_nil, List.append_nil, List.cons_append, List.nil_append]) rfl (by decide) rfl rfl rfl rfl hl.1 rfl (Nat.le_of_ble_eq_true rfl) dL_law_1294 ⟨by omega, by omega⟩ (fun H locs hP hS => ?_)
  have hP : va_P (dC, dI) vwCl ([wo cs ao o] ++ w4 cs a y1 ++ [w5 cs am x1]).flatten H := hP
  have hD : va_D (fun z9 : Nat => s.heap.size ≤ z9) ([wo cs ao o] ++ w4 cs a y1 ++ [w5 cs am x1]).flatten := x_addrF hD rfl
  dsimp only at hf
  by_cases h4 : v9 = u9
  · rw [if_pos h4] at hf
    refine xk_lcmpE (x := iL v9) (y := iL u9) (by rw [h4]) hx hb dL_law_1297 ?_
    refine xk_if_eq (tgt := 1303) hx hb (by decide) dL_law_1298 (by decide) (fun _ => ?_) (fun hz => absurd rfl hz)
    obtain rfl := Option.some.inj hf
    refine W.widen (k := cells + 1) (n := slots + 6) (by omega) (by omega) ?_
    exact kk _ _ _ hP hS hl
  · rw [if_neg h4] at hf; cases hf

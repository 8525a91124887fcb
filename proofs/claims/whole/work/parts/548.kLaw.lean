set_option maxHeartbeats 4000000 in
set_option maxRecDepth 100000 in
theorem kS {p : Program} {e : Env} {s : State} {m : MethodId} {below : List Frame} {meth : Method} {c : Code} {b L : Nat} {xs : Nat → Int32} (l : Launch) (hlS : l.stackTraces = false) (dC : Nat → ClassId) (dI : Nat → Nat → Nat) (cs : Nat → ClassId) (a am : Nat → Nat) (ao : Nat) (hL : L ≤ 2048) (hx : p.tables.exec = Jvm.exec) (hb : c.code = cL_law) (hml : c.maxLocals = 7) (hown : s.vm.findClass RL = some m.cls) (hts : ∀ w ∈ wsL_law, w.before #[Value.ref b] s = true) (hX : va_X b L xs s s.heap) (hbl : b < s.heap.size) (hT : xTh (fun z9 : Nat => s.heap.size ≤ z9) s) (hN : ∀ q ∈ x_ncs, va_Nc q.1 q.2 s) (hK : va_K (dC, dI) vwCl (xT cs) s) {Q : State → Prop} (x : ModS) (y : BrS) (o : Int → Int) (i : Int) (res : ModS × BrS × (Int → Int)) (hf : fS (x_sc xs) i x y o = some res) (h0 : 0 ≤ i) (h1 : i + 4 ≤ (L : Int)) {cells slots : Nat} (hc : cells + 1 ≤ 601024 ∧ slots + 6 ≤ 7293034) {H : Heap} {locs : List Loc} {ls : Array Slot} (hP : va_P (dC, dI) vwCl ([wo cs ao o] ++ w4 cs a y ++ [w5 cs am x]).flatten H) (hD : va_D (fun z9 : Nat => s.heap.size ≤ z9) ([wo cs ao o] ++ w4 cs a y ++ [w5 cs am x]).flatten) (hS : va_S (fun z9 : Nat => s.heap.size ≤ z9) s.heap H locs) (hl : lv_has ls 7 [(0, .ref b), (1, .ref (a 0)), (2, .ref (am 0)), (3, .ref ao), (4, .int (iI i))])
    (kk : ∀ (H : Heap) (locs : List Loc) (ls : Array Slot), va_P (dC, dI) vwCl ([wo cs ao res.2.2] ++ w4 cs a res.2.1 ++ [w5 cs am res.1]).flatten H → va_S (fun z9 : Nat => s.heap.size ≤ z9) s.heap H locs → lv_has ls 7 [(0, .ref b), (1, .ref (a 0)), (2, .ref (am 0)), (3, .ref ao), (4, .int (iI i))] → W p l e room_1 s m #[Value.ref b] below meth c H locs (cells + 1) (slots + 6) Q (F0 m 1303 ls [])) : W p l e room_1 s m #[Value.ref b] below meth c H locs cells slots Q (F0 m 39 ls [.int (iI (x_sc xs i % 32))]) := by
  unfold fS at hf
  by_cases hx9 : xin (x_sc xs i % 32)
  · rw [if_pos hx9] at hf
    exact kS_0 l hlS dC dI cs a am ao hL hx hb hml hown hts hX hbl hT hN hK x y o i _ hf h0 h1 hc hP hD hS hl kk hx9 (by omega)
  · rw [if_neg hx9] at hf; cases hf
set_option maxHeartbeats 4000000 in
set_option maxRecDepth 100000 in
theorem kLaw {p : Program} {e : Env} {s : State} {m : MethodId} {below : List Frame} {meth : Method} {c : Code} {b L : Nat} {xs : Nat → Int32} (l : Launch) (hlS : l.stackTraces = false) (dC : Nat → ClassId) (dI : Nat → Nat → Nat) (cs : Nat → ClassId) (a am : Nat → Nat) (ao : Nat) (hL : L ≤ 2048) (hx : p.tables.exec = Jvm.exec) (hb : c.code = cL_law) (hml : c.maxLocals = 7) (hown : s.vm.findClass RL = some m.cls) (hts : ∀ w ∈ wsL_law, w.before #[Value.ref b] s = true) (hX : va_X b L xs s s.heap) (hbl : b < s.heap.size) (hT : xTh (fun z9 : Nat => s.heap.size ≤ z9) s) (hN : ∀ q ∈ x_ncs, va_Nc q.1 q.2 s) (hK : va_K (dC, dI) vwCl (xT cs) s) {Q : State → Prop} (n : Nat) : ∀ (x : ModS) (y : BrS) (o : Int → Int) (i : Int) (_ : fLaw (x_sc xs) (L : Int) n i x y o = some ()) (_ : 0 ≤ i) {cells slots : Nat} (_ : cells + n ≤ 601024 ∧ slots + 6 * n ≤ 7293034) {H : Heap} {locs : List Loc} {ls : Array Slot} (_ : va_P (dC, dI) vwCl ([wo cs ao o] ++ w4 cs a y ++ [w5 cs am x]).flatten H) (_ : va_D (fun z9 : Nat => s.heap.size ≤ z9) ([wo cs ao o] ++ w4 cs a y ++ [w5 cs am x]).flatten) (_ : va_S (fun z9 : Nat => s.heap.size ≤ z9) s.heap H locs) (_ : lv_has ls 7 [(0, .ref b), (1, .ref (a 0)), (2, .ref (am 0)), (3, .ref ao), (4, .int (iI i))])
    (_ : ∀ (H : Heap) (locs : List Loc) (ls : Array Slot), va_S (fun z9 : Nat => s.heap.size ≤ z9) s.heap H locs → W p l e room_1 s m #[Value.ref b] below meth c H locs 601024 7293034 Q (F0 m 1309 ls [])), W p l e room_1 s m #[Value.ref b] below meth c H locs cells slots Q (F0 m 23 ls []) := by
  have hbA : ¬ (fun z9 : Nat => s.heap.size ≤ z9) b := Nat.not_le.mpr hbl
  induction n with
  | zero => intro x y o i hf; cases hf
  | succ n ih =>
    intro x y o i hf h0 cells slots hc H locs ls hP hD hS hl kk
    unfold fLaw at hf
    obtain ⟨ha, hi, ht, hg⟩ := x_ltE hf
    refine lv_iload hx hb dL_law_23 (lv_at hl 4 rfl) ?_
    refine lv_aload_n hx hb dL_law_25 rfl (lv_at hl 0 rfl) ?_
    refine xk_slen hx hb hX hbl hbA hS dL_law_26 ?_
    refine xk_iconst hx hb dL_law_27 ?_
    refine xk_isub hx hb dL_law_28 ?_
    refine xk_icmp_gt (tgt := 1309) hx hb hi ha dL_law_29 (by decide) (fun hq => ?_) (fun hq => ?_)
    · refine W.widen (k := 601024) (n := 7293034) (by omega) (by omega) ?_
      exact kk _ _ _ hS
    · have hf := hg hq
      obtain ⟨⟨x1, y1, o1⟩, e1, hf⟩ := x_bind hf
      refine lv_aload_n hx hb dL_law_32 rfl (lv_at hl 0 rfl) ?_
      refine lv_iload hx hb dL_law_33 (lv_at hl 4 rfl) ?_
      refine xk_sld hx hb hX hbl hbA hS h0 (by omega) hL dL_law_35 ?_
      refine xk_bipush hx hb dL_law_36 rfl ?_
      refine xk_and31 hx hb (x_sc_in xs i) dL_law_38 ?_
      refine kS l hlS dC dI cs a am ao hL hx hb hml hown hts hX hbl hT hN hK x y o i _ e1 h0 (by omega) ⟨by omega, by omega⟩ hP hD hS hl (fun H locs ls hP hS hl => ?_)
      have hD : va_D (fun z9 : Nat => s.heap.size ≤ z9) ([wo cs ao o1] ++ w4 cs a y1 ++ [w5 cs am x1]).flatten := x_addrF hD rfl
      refine xk_iinc (k := 4) (lv' := [(4, .int (iI (i + 4))), (0, .ref b), (1, .ref (a 0)), (2, .ref (am 0)), (3, .ref ao)]) hx hb dL_law_1303 hl rfl (by decide) rfl (fun ls hl => ?_)
      refine lv_goto (tgt := 23) hx hb dL_law_1306 (by decide) ?_
      exact ih x1 y1 o1 (i + 4) hf (by omega) ⟨by omega, by omega⟩ hP hD hS (lv_sub hl [1, 2, 3, 4, 0] rfl) kk

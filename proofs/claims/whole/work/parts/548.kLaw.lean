set_option maxHeartbeats 4000000 in
set_option maxRecDepth 100000 in
theorem kS {p : Program} {e : Env} {s : State} {m : MethodId} {below : List Frame} {meth : Method} {c : Code} {b L : Nat} {xs : Nat → Int32} (l : Launch) (hlS : l.stackTraces = false) (dC : Nat → ClassId) (dI : Nat → Nat → Nat) (cs : Nat → ClassId) (a am : Nat → Nat) (ao : Nat) (hL : L ≤ 2048) (hx : p.tables.exec = Jvm.exec) (hb : c.code = cL_law) (hml : c.maxLocals = 7) (hown : s.vm.findClass RL = some m.cls) (hts : ∀ w ∈ wsL_law, w.before #[Value.ref b] s = true) (hX : va_X b L xs s s.heap) (hbl : b < s.heap.size) (hT : xTh (fun z9 : Nat => s.heap.size ≤ z9) s) (hN : ∀ q ∈ x_ncs, va_Nc q.1 q.2 s) (hK : va_K (dC, dI) vwCl (xT cs) s) {Q : State → Prop} (x : ModS) (y : BrS) (o : Int → Int) (i : Int) (res : ModS × BrS × (Int → Int)) (hf : fS (x_sc xs) i x y o = some res) (h0 : 0 ≤ i) (h1 : i + 4 ≤ (L : Int)) {cells slots : Nat} (hc : cells + 1 ≤ 601024 ∧ slots + 6 ≤ 7293034) {H : Heap} {locs : List Loc} {ls : Array Slot} (hP : va_P (dC, dI) vwCl ([wo cs ao o] ++ w4 cs a y ++ [w5 cs am x]).flatten H) (hD : va_D (fun z9 : Nat => s.heap.size ≤ z9) ([wo cs ao o] ++ w4 cs a y ++ [w5 cs am x]).flatten) (hS : va_S (fun z9 : Nat => s.heap.size ≤ z9) s.heap H locs) (hl : lv_has ls 7 [(0, .ref b), (1, .ref (a 0)), (2, .ref (am 0)), (3, .ref ao), (4, .int (iI i))])
    (kk : ∀ (H : Heap) (locs : List Loc) (ls : Array Slot), va_P (dC, dI) vwCl ([wo cs ao res.2.2] ++ w4 cs a res.2.1 ++ [w5 cs am res.1]).flatten H → va_S (fun z9 : Nat => s.heap.size ≤ z9) s.heap H locs → lv_has ls 7 [(0, .ref b), (1, .ref (a 0)), (2, .ref (am 0)), (3, .ref ao), (4, .int (iI i))] → W p l e room_1 s m #[Value.ref b] below meth c H locs (cells + 1) (slots + 6) Q (F0 m 1303 ls [])) : W p l e room_1 s m #[Value.ref b] below meth c H locs cells slots Q (F0 m 39 ls [.int (iI (x_sc xs i % 32))]) := by
  unfold fS at hf
  obtain ⟨q0a, q0b, q0t, q0f⟩ := x_eqE hf
  by_cases q0 : x_sc xs i % 32 = 0
  · refine xk_tabIn (tgt := 160) hx hb q0a q0 dL_law_39 (by decide) rfl (by decide) ?_
    exact kC_begin l hlS dC dI cs a am ao hL hx hb hml hown hts hX hbl hT hN hK x y o i _ (q0t q0) h0 h1 hc hP hD hS hl kk
  have hf := q0f q0
  obtain ⟨q1a, q1b, q1t, q1f⟩ := x_eqE hf
  by_cases q1 : x_sc xs i % 32 = 1
  · refine xk_tabIn (tgt := 216) hx hb q1a q1 dL_law_39 (by decide) rfl (by decide) ?_
    exact kC_load l hlS dC dI cs a am ao hL hx hb hml hown hts hX hbl hT hN hK x y o i _ (q1t q1) h0 h1 hc hP hD hS hl kk
  have hf := q1f q1
  obtain ⟨q2a, q2b, q2t, q2f⟩ := x_eqE hf
  by_cases q2 : x_sc xs i % 32 = 2
  · refine xk_tabIn (tgt := 284) hx hb q2a q2 dL_law_39 (by decide) rfl (by decide) ?_
    exact kC_loadDrawn l hlS dC dI cs a am ao hL hx hb hml hown hts hX hbl hT hN hK x y o i _ (q2t q2) h0 h1 hc hP hD hS hl kk
  have hf := q2f q2
  obtain ⟨q3a, q3b, q3t, q3f⟩ := x_eqE hf
  by_cases q3 : x_sc xs i % 32 = 3
  · refine xk_tabIn (tgt := 364) hx hb q3a q3 dL_law_39 (by decide) rfl (by decide) ?_
    exact kC_empty l hlS dC dI cs a am ao hL hx hb hml hown hts hX hbl hT hN hK x y o i _ (q3t q3) h0 h1 hc hP hD hS hl kk
  have hf := q3f q3
  obtain ⟨q4a, q4b, q4t, q4f⟩ := x_eqE hf
  by_cases q4 : x_sc xs i % 32 = 4
  · refine xk_tabIn (tgt := 377) hx hb q4a q4 dL_law_39 (by decide) rfl (by decide) ?_
    exact kC_merge l hlS dC dI cs a am ao hL hx hb hml hown hts hX hbl hT hN hK x y o i _ (q4t q4) h0 h1 hc hP hD hS hl kk
  have hf := q4f q4
  obtain ⟨q5a, q5b, q5t, q5f⟩ := x_eqE hf
  by_cases q5 : x_sc xs i % 32 = 5
  · refine xk_tabIn (tgt := 445) hx hb q5a q5 dL_law_39 (by decide) rfl (by decide) ?_
    exact kC_mergeLightest l hlS dC dI cs a am ao hL hx hb hml hown hts hX hbl hT hN hK x y o i _ (q5t q5) h0 h1 hc hP hD hS hl kk
  have hf := q5f q5
  obtain ⟨q6a, q6b, q6t, q6f⟩ := x_eqE hf
  by_cases q6 : x_sc xs i % 32 = 6
  · refine xk_tabIn (tgt := 489) hx hb q6a q6 dL_law_39 (by decide) rfl (by decide) ?_
    exact kC_storm l hlS dC dI cs a am ao hL hx hb hml hown hts hX hbl hT hN hK x y o i _ (q6t q6) h0 h1 hc hP hD hS hl kk
  have hf := q6f q6
  obtain ⟨q7a, q7b, q7t, q7f⟩ := x_eqE hf
  by_cases q7 : x_sc xs i % 32 = 7
  · refine xk_tabIn (tgt := 545) hx hb q7a q7 dL_law_39 (by decide) rfl (by decide) ?_
    exact kC_tighten l hlS dC dI cs a am ao hL hx hb hml hown hts hX hbl hT hN hK x y o i _ (q7t q7) h0 h1 hc hP hD hS hl kk
  have hf := q7f q7
  obtain ⟨q8a, q8b, q8t, q8f⟩ := x_eqE hf
  by_cases q8 : x_sc xs i % 32 = 8
  · refine xk_tabIn (tgt := 601) hx hb q8a q8 dL_law_39 (by decide) rfl (by decide) ?_
    exact kC_land l hlS dC dI cs a am ao hL hx hb hml hown hts hX hbl hT hN hK x y o i _ (q8t q8) h0 h1 hc hP hD hS hl kk
  have hf := q8f q8
  obtain ⟨q9a, q9b, q9t, q9f⟩ := x_eqE hf
  by_cases q9 : x_sc xs i % 32 = 9
  · refine xk_tabIn (tgt := 657) hx hb q9a q9 dL_law_39 (by decide) rfl (by decide) ?_
    exact kC_parcel l hlS dC dI cs a am ao hL hx hb hml hown hts hX hbl hT hN hK x y o i _ (q9t q9) h0 h1 hc hP hD hS hl kk
  have hf := q9f q9
  obtain ⟨q10a, q10b, q10t, q10f⟩ := x_eqE hf
  by_cases q10 : x_sc xs i % 32 = 10
  · refine xk_tabIn (tgt := 725) hx hb q10a q10 dL_law_39 (by decide) rfl (by decide) ?_
    exact kC_run l hlS dC dI cs a am ao hL hx hb hml hown hts hX hbl hT hN hK x y o i _ (q10t q10) h0 h1 hc hP hD hS hl kk
  have hf := q10f q10
  obtain ⟨q11a, q11b, q11t, q11f⟩ := x_eqE hf
  by_cases q11 : x_sc xs i % 32 = 11
  · refine xk_tabIn (tgt := 793) hx hb q11a q11 dL_law_39 (by decide) rfl (by decide) ?_
    exact kC_inRun l hlS dC dI cs a am ao hL hx hb hml hown hts hX hbl hT hN hK x y o i _ (q11t q11) h0 h1 hc hP hD hS hl kk
  have hf := q11f q11
  obtain ⟨q12a, q12b, q12t, q12f⟩ := x_eqE hf
  by_cases q12 : x_sc xs i % 32 = 12
  · refine xk_tabIn (tgt := 861) hx hb q12a q12 dL_law_39 (by decide) rfl (by decide) ?_
    exact kC_ashore l hlS dC dI cs a am ao hL hx hb hml hown hts hX hbl hT hN hK x y o i _ (q12t q12) h0 h1 hc hP hD hS hl kk
  have hf := q12f q12
  obtain ⟨q13a, q13b, q13t, q13f⟩ := x_eqE hf
  by_cases q13 : x_sc xs i % 32 = 13
  · refine xk_tabIn (tgt := 917) hx hb q13a q13 dL_law_39 (by decide) rfl (by decide) ?_
    exact kC_runAt l hlS dC dI cs a am ao hL hx hb hml hown hts hX hbl hT hN hK x y o i _ (q13t q13) h0 h1 hc hP hD hS hl kk
  have hf := q13f q13
  obtain ⟨q14a, q14b, q14t, q14f⟩ := x_eqE hf
  by_cases q14 : x_sc xs i % 32 = 14
  · refine xk_tabIn (tgt := 973) hx hb q14a q14 dL_law_39 (by decide) rfl (by decide) ?_
    exact kC_value l hlS dC dI cs a am ao hL hx hb hml hown hts hX hbl hT hN hK x y o i _ (q14t q14) h0 h1 hc hP hD hS hl kk
  have hf := q14f q14
  obtain ⟨q15a, q15b, q15t, q15f⟩ := x_eqE hf
  by_cases q15 : x_sc xs i % 32 = 15
  · refine xk_tabIn (tgt := 1029) hx hb q15a q15 dL_law_39 (by decide) rfl (by decide) ?_
    exact kC_nextThrown l hlS dC dI cs a am ao hL hx hb hml hown hts hX hbl hT hN hK x y o i _ (q15t q15) h0 h1 hc hP hD hS hl kk
  have hf := q15f q15
  obtain ⟨q16a, q16b, q16t, q16f⟩ := x_eqE hf
  by_cases q16 : x_sc xs i % 32 = 16
  · refine xk_tabIn (tgt := 1042) hx hb q16a q16 dL_law_39 (by decide) rfl (by decide) ?_
    exact kC_runsIfEmptied l hlS dC dI cs a am ao hL hx hb hml hown hts hX hbl hT hN hK x y o i _ (q16t q16) h0 h1 hc hP hD hS hl kk
  have hf := q16f q16
  obtain ⟨q17a, q17b, q17t, q17f⟩ := x_eqE hf
  by_cases q17 : x_sc xs i % 32 = 17
  · refine xk_tabIn (tgt := 1055) hx hb q17a q17 dL_law_39 (by decide) rfl (by decide) ?_
    exact kC_costByWeight l hlS dC dI cs a am ao hL hx hb hml hown hts hX hbl hT hN hK x y o i _ (q17t q17) h0 h1 hc hP hD hS hl kk
  have hf := q17f q17
  obtain ⟨q18a, q18b, q18t, q18f⟩ := x_eqE hf
  by_cases q18 : x_sc xs i % 32 = 18
  · refine xk_tabIn (tgt := 1068) hx hb q18a q18 dL_law_39 (by decide) rfl (by decide) ?_
    exact kC_costByNumber l hlS dC dI cs a am ao hL hx hb hml hown hts hX hbl hT hN hK x y o i _ (q18t q18) h0 h1 hc hP hD hS hl kk
  have hf := q18f q18
  obtain ⟨q19a, q19b, q19t, q19f⟩ := x_eqE hf
  by_cases q19 : x_sc xs i % 32 = 19
  · refine xk_tabIn (tgt := 1081) hx hb q19a q19 dL_law_39 (by decide) rfl (by decide) ?_
    exact kC_runsWith l hlS dC dI cs a am ao hL hx hb hml hown hts hX hbl hT hN hK x y o i _ (q19t q19) h0 h1 hc hP hD hS hl kk
  have hf := q19f q19
  obtain ⟨q20a, q20b, q20t, q20f⟩ := x_eqE hf
  by_cases q20 : x_sc xs i % 32 = 20
  · refine xk_tabIn (tgt := 1137) hx hb q20a q20 dL_law_39 (by decide) rfl (by decide) ?_
    exact kC_leastRoom l hlS dC dI cs a am ao hL hx hb hml hown hts hX hbl hT hN hK x y o i _ (q20t q20) h0 h1 hc hP hD hS hl kk
  have hf := q20f q20
  obtain ⟨q21a, q21b, q21t, q21f⟩ := x_eqE hf
  by_cases q21 : x_sc xs i % 32 = 21
  · refine xk_tabIn (tgt := 1150) hx hb q21a q21 dL_law_39 (by decide) rfl (by decide) ?_
    exact kC_inversions l hlS dC dI cs a am ao hL hx hb hml hown hts hX hbl hT hN hK x y o i _ (q21t q21) h0 h1 hc hP hD hS hl kk
  have hf := q21f q21
  obtain ⟨q22a, q22b, q22t, q22f⟩ := x_eqE hf
  by_cases q22 : x_sc xs i % 32 = 22
  · refine xk_tabIn (tgt := 1163) hx hb q22a q22 dL_law_39 (by decide) rfl (by decide) ?_
    exact kC_append l hlS dC dI cs a am ao hL hx hb hml hown hts hX hbl hT hN hK x y o i _ (q22t q22) h0 h1 hc hP hD hS hl kk
  have hf := q22f q22
  obtain ⟨q23a, q23b, q23t, q23f⟩ := x_eqE hf
  by_cases q23 : x_sc xs i % 32 = 23
  · refine xk_tabIn (tgt := 1219) hx hb q23a q23 dL_law_39 (by decide) rfl (by decide) ?_
    exact kC_clearText l hlS dC dI cs a am ao hL hx hb hml hown hts hX hbl hT hN hK x y o i _ (q23t q23) h0 h1 hc hP hD hS hl kk
  have hf := q23f q23
  obtain ⟨q24a, q24b, q24t, q24f⟩ := x_eqE hf
  by_cases q24 : x_sc xs i % 32 = 24
  · refine xk_tabIn (tgt := 1232) hx hb q24a q24 dL_law_39 (by decide) rfl (by decide) ?_
    exact kC_carryOut l hlS dC dI cs a am ao hL hx hb hml hown hts hX hbl hT hN hK x y o i _ (q24t q24) h0 h1 hc hP hD hS hl kk
  have hf := q24f q24
  obtain ⟨q25a, q25b, q25t, q25f⟩ := x_eqE hf
  by_cases q25 : x_sc xs i % 32 = 25
  · refine xk_tabIn (tgt := 1245) hx hb q25a q25 dL_law_39 (by decide) rfl (by decide) ?_
    exact kC_undo l hlS dC dI cs a am ao hL hx hb hml hown hts hX hbl hT hN hK x y o i _ (q25t q25) h0 h1 hc hP hD hS hl kk
  have hf := q25f q25
  obtain ⟨q26a, q26b, q26t, q26f⟩ := x_eqE hf
  by_cases q26 : x_sc xs i % 32 = 26
  · refine xk_tabIn (tgt := 1289) hx hb q26a q26 dL_law_39 (by decide) rfl (by decide) ?_
    exact kC_digest l hlS dC dI cs a am ao hL hx hb hml hown hts hX hbl hT hN hK x y o i _ (q26t q26) h0 h1 hc hP hD hS hl kk
  have hf := q26f q26
  obtain rfl := Option.some.inj hf
  refine xk_tabOut (tgt := 1303) hx hb q0a dL_law_39 (by omega) (by decide) ?_
  refine W.widen (k := cells + 1) (n := slots + 6) (by omega) (by omega) ?_
  exact kk _ _ _ hP hS hl
set_option maxHeartbeats 4000000 in
set_option maxRecDepth 100000 in
theorem kLaw {p : Program} {e : Env} {s : State} {m : MethodId} {below : List Frame} {meth : Method} {c : Code} {b L : Nat} {xs : Nat → Int32} (l : Launch) (hlS : l.stackTraces = false) (dC : Nat → ClassId) (dI : Nat → Nat → Nat) (cs : Nat → ClassId) (a am : Nat → Nat) (ao : Nat) (hL : L ≤ 2048) (hx : p.tables.exec = Jvm.exec) (hb : c.code = cL_law) (hml : c.maxLocals = 7) (hown : s.vm.findClass RL = some m.cls) (hts : ∀ w ∈ wsL_law, w.before #[Value.ref b] s = true) (hX : va_X b L xs s s.heap) (hbl : b < s.heap.size) (hT : xTh (fun z9 : Nat => s.heap.size ≤ z9) s) (hN : ∀ q ∈ x_ncs, va_Nc q.1 q.2 s) (hK : va_K (dC, dI) vwCl (xT cs) s) {Q : State → Prop} (n : Nat) : ∀ (x : ModS) (y : BrS) (o : Int → Int) (i : Int) (_ : fLaw (x_sc xs) (L : Int) n i x y o = some ()) (_ : 0 ≤ i) {cells slots : Nat} (_ : cells + n ≤ 601024 ∧ slots + 6 * n ≤ 7293034) {H : Heap} {locs : List Loc} {ls : Array Slot} (_ : va_P (dC, dI) vwCl ([wo cs ao o] ++ w4 cs a y ++ [w5 cs am x]).flatten H) (_ : va_D (fun z9 : Nat => s.heap.size ≤ z9) ([wo cs ao o] ++ w4 cs a y ++ [w5 cs am x]).flatten) (_ : va_S (fun z9 : Nat => s.heap.size ≤ z9) s.heap H locs) (_ : lv_has ls 7 [(0, .ref b), (1, .ref (a 0)), (2, .ref (am 0)), (3, .ref ao), (4, .int (iI i))])
    (_ : ∀ (H : Heap) (locs : List Loc) (ls : Array Slot), va_S (fun z9 : Nat => s.heap.size ≤ z9) s.heap H locs → W p l e room_1 s m #[Value.ref b] below meth c H locs 601024 7293034 Q (F0 m 1309 ls [])), W p l e room_1 s m #[Value.ref b] below meth c H locs cells slots Q (F0 m 23 ls []) := by
  have hbA : ¬ (fun z9 : Nat => s.heap.size ≤ z9) b := Nat.not_le.mpr hbl
  induction n with
  | zero => intro x y o i hf; cases hf
  | succ n ih =>
    intro x y o i hf h0 cells slots hc H locs ls hP hD hS hl kk
    unfold fLaw at hf
    obtain ⟨ha, hi, ht, hg⟩ := x_ltE hf
    refine lv_iload hx hb dL_law_23 (lv_at hl 4 rfl) ?_
    refine lv_aload_n hx hb dL_law_25 rfl (lv_at hl 0 rfl) ?_
    refine xk_slen hx hb hX hbl hbA hS dL_law_26 ?_
    refine xk_iconst hx hb dL_law_27 ?_
    refine xk_isub hx hb dL_law_28 ?_
    refine xk_icmp_gt (tgt := 1309) hx hb hi ha dL_law_29 (by decide) (fun hq => ?_) (fun hq => ?_)
    · refine W.widen (k := 601024) (n := 7293034) (by omega) (by omega) ?_
      exact kk _ _ _ hS
    · have hf := hg hq
      obtain ⟨⟨x1, y1, o1⟩, e1, hf⟩ := x_bind hf
      refine lv_aload_n hx hb dL_law_32 rfl (lv_at hl 0 rfl) ?_
      refine lv_iload hx hb dL_law_33 (lv_at hl 4 rfl) ?_
      refine xk_sld hx hb hX hbl hbA hS h0 (by omega) hL dL_law_35 ?_
      refine xk_bipush hx hb dL_law_36 rfl ?_
      refine xk_and31 hx hb (x_sc_in xs i) dL_law_38 ?_
      refine kS l hlS dC dI cs a am ao hL hx hb hml hown hts hX hbl hT hN hK x y o i _ e1 h0 (by omega) ⟨by omega, by omega⟩ hP hD hS hl (fun H locs ls hP hS hl => ?_)
      have hD : va_D (fun z9 : Nat => s.heap.size ≤ z9) ([wo cs ao o1] ++ w4 cs a y1 ++ [w5 cs am x1]).flatten := x_addrF hD rfl
      refine xk_iinc (k := 4) (lv' := [(4, .int (iI (i + 4))), (0, .ref b), (1, .ref (a 0)), (2, .ref (am 0)), (3, .ref ao)]) hx hb dL_law_1303 hl rfl (by decide) rfl (fun ls hl => ?_)
      refine lv_goto (tgt := 23) hx hb dL_law_1306 (by decide) ?_
      exact ih x1 y1 o1 (i + 4) hf (by omega) ⟨by omega, by omega⟩ hP hD hS (lv_sub hl [1, 2, 3, 4, 0] rfl) kk

set_option maxHeartbeats 4000000 in
set_option maxRecDepth 100000 in
theorem kL_begin (l : Launch) (hlS : l.stackTraces = false) (dC : Nat → ClassId) (dI : Nat → Nat → Nat) (cs : Nat → ClassId) (a : Nat → Nat) (ao sz : Nat) (y : BrS) (o : Int → Int) (p0 : Int) (res : Int × BrS × (Int → Int)) (hf : fL_begin y o p0 = some res) : Met l yL_begin wsL_begin ({ frames := 7, cells := 1, slots := 6, locals := 104 } : Room) (va_Pc [.ref (a 0), .int (iI p0), .ref ao] (xPL (dC, dI) vwCl (([wo cs ao o] ++ w4 cs a y).flatten) (xT cs) sz)) (xQi (dC, dI) vwCl (([wo cs ao o] ++ w4 cs a y).flatten) (([wo cs ao res.2.2] ++ w4 cs a res.2.1).flatten) sz res.1) 1 6 (va_A (([wo cs ao o] ++ w4 cs a y).flatten) sz) := by
  refine x_ofWH (cc := cL_begin) (maxL := 4) (ret := some .int) (hh := [(0, 9, 12, 13)]) (by decide) rfl ?_
  intro p e s m args below meth c s₁ B hml htab hv
  obtain ⟨rfl, ⟨⟨hsz, hP, hK, hD0⟩, hTh⟩, hN⟩ := hv
  have hx := B.exec
  have hb := B.bytes
  have hr := B.returns
  have hts := atoms_spec (ws := wsL_begin) B.pre
  have hown : s.vm.findClass RL = some m.cls := findClass_of_methodNamed B.named
  have hlocks := B.notSynchronized
  subst hsz
  have hD := hD0.self (sz := s.heap.size)
  have hA : ∀ z9 : Nat, s.heap.size ≤ z9 → va_A (([wo cs ao o] ++ w4 cs a y).flatten) s.heap.size z9 := fun z9 h => Or.inr h
  have hS : va_S (va_A (([wo cs ao o] ++ w4 cs a y).flatten) s.heap.size) s.heap s.heap [] := va_S.rf
  have hl := lv_entry [.ref (a 0), .int (iI p0), .ref ao] (n := 4) (Nat.le_of_ble_eq_true rfl)
  rw [lg_entry_eq]
  generalize (lg_sl [.ref (a 0), .int (iI p0), .ref ao] ++ List.replicate (4 - (lg_sl [.ref (a 0), .int (iI p0), .ref ao]).length) Slot.unset).toArray = ls at hl ⊢
  have hl : lv_has ls 4 [(0, .ref (a 0)), (1, .int (iI p0)), (2, .ref ao)] := hl
  unfold fL_begin at hf
  refine lv_aload_n hx hb dL_begin_0 rfl (lv_at hl 2 rfl) ?_
  refine xk_iconst hx hb dL_begin_1 ?_
  refine lv_aload_n hx hb dL_begin_2 rfl (lv_at hl 0 rfl) ?_
  refine lv_iload_n hx hb dL_begin_3 rfl (lv_at hl 1 rfl) ?_
  obtain ⟨⟨c9, v9, y9⟩, e9, hf⟩ := x_bind hf
  obtain ⟨ca, cb, ct, cf⟩ := x_eqE hf
  refine xf_xi (As := [.int (iI p0)]) (rest := [.int (iI 0), .ref ao]) (wcs := w4 cs a y) (w1s := w4 cs a y9) ⟨hx, hb, hml, hown, hts⟩ (c4_begin l hlS dC dI cs a _ y p0 _ e9) (cwV 1 hts gL_begin_X4_begin rfl rfl rfl cdX4_begin ⟨Nat.le_of_ble_eq_true rfl, Nat.le_of_ble_eq_true rfl⟩) hK hP hD hS hA hTh [1, 2, 3, 4, 5, 6, 7, 8, 9, 10] rfl rfl rfl (by decide) rfl rfl rfl rfl hl.1 rfl (Nat.le_of_ble_eq_true rfl) dL_begin_4 ⟨Nat.le_of_ble_eq_true rfl, Nat.le_of_ble_eq_true rfl⟩ (fun hk H locs hP hS => ?_) (fun hk H locs q9 ce hP hS hce hcv hcl => ?_)
  · have hf := ct hk
    obtain ⟨hc, hf⟩ := x_ckE hf
    refine xk_i2l hx hb hc dL_begin_7 ?_
    have hP : va_P (dC, dI) vwCl (([wo cs ao o] ++ w4 cs a y9).flatten) H := hP
    have hD : va_D (va_A (([wo cs ao o] ++ w4 cs a y).flatten) s.heap.size) (([wo cs ao o] ++ w4 cs a y9).flatten) := x_addrF hD rfl
    refine xk_last hx hb hK hP hD hS 0 3 (by decide) (by decide) (by decide) rfl rfl dL_begin_8 (fun H locs hP hS => ?_)
    have hP : va_P (dC, dI) vwCl (([wo cs ao (x_up o 0 v9)] ++ w4 cs a y9).flatten) H := hP
    refine lv_goto (tgt := 15) hx hb dL_begin_9 (by decide) ?_
    refine xk_iconst hx hb dL_begin_15 ?_
    obtain rfl := Option.some.inj hf
    exact xe_wi hx hb hr hlocks hS hP dL_begin_16
  · have hf := cf hk
    obtain ⟨c0a, c0b, c0t, c0f⟩ := x_eqE hf
    by_cases c0 : c9 = 1
    · have hf := c0t c0
      obtain rfl := Option.some.inj hf
      have hE : x_cl c9 = "java/lang/IllegalArgumentException" := by rw [c0]; rfl
      rw [hE] at hcl
      refine vx_catch (own := RL) (name := "java/lang/IllegalArgumentException") hown [] ⟨0, 9, 12, 13⟩ [] (htab.trans rfl) (fun z hz => by cases hz) (by decide) (by decide) (hts (.classLink RL 13 "java/lang/IllegalArgumentException") (by decide +kernel)) (va_Nw.use (w := .castable "java/lang/IllegalArgumentException" "java/lang/IllegalArgumentException") rfl (hTh.1 _ (by decide))) hce hcv hcl ?_
      refine W.eq (g2 := F0 m 12 ls [.ref q9]) rfl ?_
      refine lv_astore_n (lv' := [(3, .ref q9), (0, .ref (a 0)), (1, .int (iI p0)), (2, .ref ao)]) hx hb dL_begin_12 rfl hl (by decide) rfl (fun ls hl => ?_)
      refine xk_iconst hx hb dL_begin_13 ?_
      exact xe_wi hx hb hr hlocks hS hP dL_begin_14
    · have hf := c0f c0
      cases hf
theorem cdL_begin : yL_begin.cls ≠ "java/lang/invoke/MethodHandle" ∧ yL_begin.cls ≠ "java/lang/invoke/VarHandle" ∧ (parseMethodDescriptor yL_begin.desc).map (fun d => d.parameters.length) = some 3 := by decide +kernel

set_option maxHeartbeats 4000000 in
set_option maxRecDepth 100000 in
theorem kL_load (l : Launch) (hlS : l.stackTraces = false) (dC : Nat → ClassId) (dI : Nat → Nat → Nat) (cs : Nat → ClassId) (a : Nat → Nat) (ao sz : Nat) (y : BrS) (o : Int → Int) (p0 : Int) (p1 : Int) (res : Int × BrS × (Int → Int)) (hf : fL_load y o p0 p1 = some res) : Met l yL_load wsL_load ({ frames := 7, cells := 1, slots := 6, locals := 135 } : Room) (va_Pc [.ref (a 0), .int (iI p0), .int (iI p1), .ref ao] (xPL (dC, dI) vwCl (([wo cs ao o] ++ w4 cs a y).flatten) (xT cs) sz)) (xQi (dC, dI) vwCl (([wo cs ao o] ++ w4 cs a y).flatten) (([wo cs ao res.2.2] ++ w4 cs a res.2.1).flatten) sz res.1) 1 6 (va_A (([wo cs ao o] ++ w4 cs a y).flatten) sz) := by
  refine x_ofWH (cc := cL_load) (maxL := 5) (ret := some .int) (hh := [(0, 10, 13, 13), (0, 10, 17, 19)]) (by decide) rfl ?_
  intro p e s m args below meth c s₁ B hml htab hv
  obtain ⟨rfl, ⟨⟨hsz, hP, hK, hD0⟩, hTh⟩, hN⟩ := hv
  have hx := B.exec
  have hb := B.bytes
  have hr := B.returns
  have hts := atoms_spec (ws := wsL_load) B.pre
  have hown : s.vm.findClass RL = some m.cls := findClass_of_methodNamed B.named
  have hlocks := B.notSynchronized
  subst hsz
  have hD := hD0.self (sz := s.heap.size)
  have hA : ∀ z9 : Nat, s.heap.size ≤ z9 → va_A (([wo cs ao o] ++ w4 cs a y).flatten) s.heap.size z9 := fun z9 h => Or.inr h
  have hS : va_S (va_A (([wo cs ao o] ++ w4 cs a y).flatten) s.heap.size) s.heap s.heap [] := va_S.rf
  have hl := lv_entry [.ref (a 0), .int (iI p0), .int (iI p1), .ref ao] (n := 5) (Nat.le_of_ble_eq_true rfl)
  rw [lg_entry_eq]
  generalize (lg_sl [.ref (a 0), .int (iI p0), .int (iI p1), .ref ao] ++ List.replicate (5 - (lg_sl [.ref (a 0), .int (iI p0), .int (iI p1), .ref ao]).length) Slot.unset).toArray = ls at hl ⊢
  have hl : lv_has ls 5 [(0, .ref (a 0)), (1, .int (iI p0)), (2, .int (iI p1)), (3, .ref ao)] := hl
  unfold fL_load at hf
  refine lv_aload_n hx hb dL_load_0 rfl (lv_at hl 3 rfl) ?_
  refine xk_iconst hx hb dL_load_1 ?_
  refine lv_aload_n hx hb dL_load_2 rfl (lv_at hl 0 rfl) ?_
  refine lv_iload_n hx hb dL_load_3 rfl (lv_at hl 1 rfl) ?_
  refine lv_iload_n hx hb dL_load_4 rfl (lv_at hl 2 rfl) ?_
  obtain ⟨⟨c9, v9, y9⟩, e9, hf⟩ := x_bind hf
  obtain ⟨ca, cb, ct, cf⟩ := x_eqE hf
  refine xf_xi (As := [.int (iI p0), .int (iI p1)]) (rest := [.int (iI 0), .ref ao]) (wcs := w4 cs a y) (w1s := w4 cs a y9) ⟨hx, hb, hml, hown, hts⟩ (c4_load l hlS dC dI cs a _ y p0 p1 _ e9) (cwV 2 hts gL_load_X4_load rfl rfl rfl cdX4_load ⟨Nat.le_of_ble_eq_true rfl, Nat.le_of_ble_eq_true rfl⟩) hK hP hD hS hA hTh [1, 2, 3, 4, 5, 6, 7, 8, 9, 10] rfl rfl rfl (by decide) rfl rfl rfl rfl hl.1 rfl (Nat.le_of_ble_eq_true rfl) dL_load_5 ⟨Nat.le_of_ble_eq_true rfl, Nat.le_of_ble_eq_true rfl⟩ (fun hk H locs hP hS => ?_) (fun hk H locs q9 ce hP hS hce hcv hcl => ?_)
  · have hf := ct hk
    obtain ⟨hc, hf⟩ := x_ckE hf
    refine xk_i2l hx hb hc dL_load_8 ?_
    have hP : va_P (dC, dI) vwCl (([wo cs ao o] ++ w4 cs a y9).flatten) H := hP
    have hD : va_D (va_A (([wo cs ao o] ++ w4 cs a y).flatten) s.heap.size) (([wo cs ao o] ++ w4 cs a y9).flatten) := x_addrF hD rfl
    refine xk_last hx hb hK hP hD hS 0 3 (by decide) (by decide) (by decide) rfl rfl dL_load_9 (fun H locs hP hS => ?_)
    have hP : va_P (dC, dI) vwCl (([wo cs ao (x_up o 0 v9)] ++ w4 cs a y9).flatten) H := hP
    refine lv_goto (tgt := 21) hx hb dL_load_10 (by decide) ?_
    refine xk_iconst hx hb dL_load_21 ?_
    obtain rfl := Option.some.inj hf
    exact xe_wi hx hb hr hlocks hS hP dL_load_22
  · have hf := cf hk
    obtain ⟨c0a, c0b, c0t, c0f⟩ := x_eqE hf
    by_cases c0 : c9 = 1
    · have hf := c0t c0
      obtain rfl := Option.some.inj hf
      have hE : x_cl c9 = "java/lang/IllegalArgumentException" := by rw [c0]; rfl
      rw [hE] at hcl
      refine vx_catch (own := RL) (name := "java/lang/IllegalArgumentException") hown [] ⟨0, 10, 13, 13⟩ [⟨0, 10, 17, 19⟩] (htab.trans rfl) (fun z hz => by cases hz) (by decide) (by decide) (hts (.classLink RL 13 "java/lang/IllegalArgumentException") (by decide +kernel)) (va_Nw.use (w := .castable "java/lang/IllegalArgumentException" "java/lang/IllegalArgumentException") rfl (hTh.1 _ (by decide))) hce hcv hcl ?_
      refine W.eq (g2 := F0 m 13 ls [.ref q9]) rfl ?_
      refine lv_astore (lv' := [(4, .ref q9), (0, .ref (a 0)), (1, .int (iI p0)), (2, .int (iI p1)), (3, .ref ao)]) hx hb dL_load_13 hl (by decide) rfl (fun ls hl => ?_)
      refine xk_iconst hx hb dL_load_15 ?_
      exact xe_wi hx hb hr hlocks hS hP dL_load_16
    · have hf := c0f c0
      obtain ⟨c1a, c1b, c1t, c1f⟩ := x_eqE hf
      by_cases c1 : c9 = 2
      · have hf := c1t c1
        obtain rfl := Option.some.inj hf
        have hE : x_cl c9 = "java/lang/IllegalStateException" := by rw [c1]; rfl
        rw [hE] at hcl
        refine vx_catch (own := RL) (name := "java/lang/IllegalStateException") hown [⟨0, 10, 13, 13⟩] ⟨0, 10, 17, 19⟩ [] (htab.trans rfl) (fun z hz => by rcases List.mem_singleton.mp hz with rfl; exact Or.inr ⟨by decide, "java/lang/IllegalArgumentException", hts (.classLink RL 13 "java/lang/IllegalArgumentException") (by decide +kernel), hN ("java/lang/IllegalStateException", "java/lang/IllegalArgumentException") (by decide)⟩) (by decide) (by decide) (hts (.classLink RL 19 "java/lang/IllegalStateException") (by decide +kernel)) (va_Nw.use (w := .castable "java/lang/IllegalStateException" "java/lang/IllegalStateException") rfl (hTh.1 _ (by decide))) hce hcv hcl ?_
        refine W.eq (g2 := F0 m 17 ls [.ref q9]) rfl ?_
        refine lv_astore (lv' := [(4, .ref q9), (0, .ref (a 0)), (1, .int (iI p0)), (2, .int (iI p1)), (3, .ref ao)]) hx hb dL_load_17 hl (by decide) rfl (fun ls hl => ?_)
        refine xk_iconst hx hb dL_load_19 ?_
        exact xe_wi hx hb hr hlocks hS hP dL_load_20
      · have hf := c1f c1
        cases hf
theorem cdL_load : yL_load.cls ≠ "java/lang/invoke/MethodHandle" ∧ yL_load.cls ≠ "java/lang/invoke/VarHandle" ∧ (parseMethodDescriptor yL_load.desc).map (fun d => d.parameters.length) = some 4 := by decide +kernel

set_option maxHeartbeats 4000000 in
set_option maxRecDepth 100000 in
theorem kL_loadDrawn (l : Launch) (hlS : l.stackTraces = false) (dC : Nat → ClassId) (dI : Nat → Nat → Nat) (cs : Nat → ClassId) (a : Nat → Nat) (ao sz : Nat) (y : BrS) (o : Int → Int) (p0 : Int) (p1 : Int) (p2 : Int) (res : Int × BrS × (Int → Int)) (hf : fL_loadDrawn y o p0 p1 p2 = some res) : Met l yL_loadDrawn wsL_loadDrawn ({ frames := 7, cells := 1, slots := 6, locals := 162 } : Room) (va_Pc [.ref (a 0), .int (iI p0), .int (iI p1), .int (iI p2), .ref ao] (xPL (dC, dI) vwCl (([wo cs ao o] ++ w4 cs a y).flatten) (xT cs) sz)) (xQi (dC, dI) vwCl (([wo cs ao o] ++ w4 cs a y).flatten) (([wo cs ao res.2.2] ++ w4 cs a res.2.1).flatten) sz res.1) 1 6 (va_A (([wo cs ao o] ++ w4 cs a y).flatten) sz) := by
  refine x_ofWH (cc := cL_loadDrawn) (maxL := 6) (ret := some .int) (hh := [(0, 12, 15, 13)]) (by decide) rfl ?_
  intro p e s m args below meth c s₁ B hml htab hv
  obtain ⟨rfl, ⟨⟨hsz, hP, hK, hD0⟩, hTh⟩, hN⟩ := hv
  have hx := B.exec
  have hb := B.bytes
  have hr := B.returns
  have hts := atoms_spec (ws := wsL_loadDrawn) B.pre
  have hown : s.vm.findClass RL = some m.cls := findClass_of_methodNamed B.named
  have hlocks := B.notSynchronized
  subst hsz
  have hD := hD0.self (sz := s.heap.size)
  have hA : ∀ z9 : Nat, s.heap.size ≤ z9 → va_A (([wo cs ao o] ++ w4 cs a y).flatten) s.heap.size z9 := fun z9 h => Or.inr h
  have hS : va_S (va_A (([wo cs ao o] ++ w4 cs a y).flatten) s.heap.size) s.heap s.heap [] := va_S.rf
  have hl := lv_entry [.ref (a 0), .int (iI p0), .int (iI p1), .int (iI p2), .ref ao] (n := 6) (Nat.le_of_ble_eq_true rfl)
  rw [lg_entry_eq]
  generalize (lg_sl [.ref (a 0), .int (iI p0), .int (iI p1), .int (iI p2), .ref ao] ++ List.replicate (6 - (lg_sl [.ref (a 0), .int (iI p0), .int (iI p1), .int (iI p2), .ref ao]).length) Slot.unset).toArray = ls at hl ⊢
  have hl : lv_has ls 6 [(0, .ref (a 0)), (1, .int (iI p0)), (2, .int (iI p1)), (3, .int (iI p2)), (4, .ref ao)] := hl
  unfold fL_loadDrawn at hf
  refine lv_aload hx hb dL_loadDrawn_0 (lv_at hl 4 rfl) ?_
  refine xk_iconst hx hb dL_loadDrawn_2 ?_
  refine lv_aload_n hx hb dL_loadDrawn_3 rfl (lv_at hl 0 rfl) ?_
  refine lv_iload_n hx hb dL_loadDrawn_4 rfl (lv_at hl 1 rfl) ?_
  refine lv_iload_n hx hb dL_loadDrawn_5 rfl (lv_at hl 2 rfl) ?_
  refine lv_iload_n hx hb dL_loadDrawn_6 rfl (lv_at hl 3 rfl) ?_
  obtain ⟨⟨c9, v9, y9⟩, e9, hf⟩ := x_bind hf
  obtain ⟨ca, cb, ct, cf⟩ := x_eqE hf
  refine xf_xi (As := [.int (iI p0), .int (iI p1), .int (iI p2)]) (rest := [.int (iI 0), .ref ao]) (wcs := w4 cs a y) (w1s := w4 cs a y9) ⟨hx, hb, hml, hown, hts⟩ (c4_loadDrawn l hlS dC dI cs a _ y p0 p1 p2 _ e9) (cwV 3 hts gL_loadDrawn_X4_loadDrawn rfl rfl rfl cdX4_loadDrawn ⟨Nat.le_of_ble_eq_true rfl, Nat.le_of_ble_eq_true rfl⟩) hK hP hD hS hA hTh [1, 2, 3, 4, 5, 6, 7, 8, 9, 10] rfl rfl rfl (by decide) rfl rfl rfl rfl hl.1 rfl (Nat.le_of_ble_eq_true rfl) dL_loadDrawn_7 ⟨Nat.le_of_ble_eq_true rfl, Nat.le_of_ble_eq_true rfl⟩ (fun hk H locs hP hS => ?_) (fun hk H locs q9 ce hP hS hce hcv hcl => ?_)
  · have hf := ct hk
    obtain ⟨hc, hf⟩ := x_ckE hf
    refine xk_i2l hx hb hc dL_loadDrawn_10 ?_
    have hP : va_P (dC, dI) vwCl (([wo cs ao o] ++ w4 cs a y9).flatten) H := hP
    have hD : va_D (va_A (([wo cs ao o] ++ w4 cs a y).flatten) s.heap.size) (([wo cs ao o] ++ w4 cs a y9).flatten) := x_addrF hD rfl
    refine xk_last hx hb hK hP hD hS 0 3 (by decide) (by decide) (by decide) rfl rfl dL_loadDrawn_11 (fun H locs hP hS => ?_)
    have hP : va_P (dC, dI) vwCl (([wo cs ao (x_up o 0 v9)] ++ w4 cs a y9).flatten) H := hP
    refine lv_goto (tgt := 19) hx hb dL_loadDrawn_12 (by decide) ?_
    refine xk_iconst hx hb dL_loadDrawn_19 ?_
    obtain rfl := Option.some.inj hf
    exact xe_wi hx hb hr hlocks hS hP dL_loadDrawn_20
  · have hf := cf hk
    obtain ⟨c0a, c0b, c0t, c0f⟩ := x_eqE hf
    by_cases c0 : c9 = 1
    · have hf := c0t c0
      obtain rfl := Option.some.inj hf
      have hE : x_cl c9 = "java/lang/IllegalArgumentException" := by rw [c0]; rfl
      rw [hE] at hcl
      refine vx_catch (own := RL) (name := "java/lang/IllegalArgumentException") hown [] ⟨0, 12, 15, 13⟩ [] (htab.trans rfl) (fun z hz => by cases hz) (by decide) (by decide) (hts (.classLink RL 13 "java/lang/IllegalArgumentException") (by decide +kernel)) (va_Nw.use (w := .castable "java/lang/IllegalArgumentException" "java/lang/IllegalArgumentException") rfl (hTh.1 _ (by decide))) hce hcv hcl ?_
      refine W.eq (g2 := F0 m 15 ls [.ref q9]) rfl ?_
      refine lv_astore (lv' := [(5, .ref q9), (0, .ref (a 0)), (1, .int (iI p0)), (2, .int (iI p1)), (3, .int (iI p2)), (4, .ref ao)]) hx hb dL_loadDrawn_15 hl (by decide) rfl (fun ls hl => ?_)
      refine xk_iconst hx hb dL_loadDrawn_17 ?_
      exact xe_wi hx hb hr hlocks hS hP dL_loadDrawn_18
    · have hf := c0f c0
      cases hf
theorem cdL_loadDrawn : yL_loadDrawn.cls ≠ "java/lang/invoke/MethodHandle" ∧ yL_loadDrawn.cls ≠ "java/lang/invoke/VarHandle" ∧ (parseMethodDescriptor yL_loadDrawn.desc).map (fun d => d.parameters.length) = some 5 := by decide +kernel

set_option maxHeartbeats 4000000 in
set_option maxRecDepth 100000 in
theorem kL_merge (l : Launch) (hlS : l.stackTraces = false) (dC : Nat → ClassId) (dI : Nat → Nat → Nat) (cs : Nat → ClassId) (a : Nat → Nat) (ao sz : Nat) (y : BrS) (o : Int → Int) (p0 : Int) (p1 : Int) (res : Int × BrS × (Int → Int)) (hf : fL_merge y o p0 p1 = some res) : Met l yL_merge wsL_merge ({ frames := 7, cells := 1, slots := 6, locals := 104 } : Room) (va_Pc [.ref (a 0), .int (iI p0), .int (iI p1), .ref ao] (xPL (dC, dI) vwCl (([wo cs ao o] ++ w4 cs a y).flatten) (xT cs) sz)) (xQi (dC, dI) vwCl (([wo cs ao o] ++ w4 cs a y).flatten) (([wo cs ao res.2.2] ++ w4 cs a res.2.1).flatten) sz res.1) 1 6 (va_A (([wo cs ao o] ++ w4 cs a y).flatten) sz) := by
  refine x_ofWH (cc := cL_merge) (maxL := 5) (ret := some .int) (hh := [(0, 10, 13, 28), (0, 10, 17, 13)]) (by decide) rfl ?_
  intro p e s m args below meth c s₁ B hml htab hv
  obtain ⟨rfl, ⟨⟨hsz, hP, hK, hD0⟩, hTh⟩, hN⟩ := hv
  have hx := B.exec
  have hb := B.bytes
  have hr := B.returns
  have hts := atoms_spec (ws := wsL_merge) B.pre
  have hown : s.vm.findClass RL = some m.cls := findClass_of_methodNamed B.named
  have hlocks := B.notSynchronized
  subst hsz
  have hD := hD0.self (sz := s.heap.size)
  have hA : ∀ z9 : Nat, s.heap.size ≤ z9 → va_A (([wo cs ao o] ++ w4 cs a y).flatten) s.heap.size z9 := fun z9 h => Or.inr h
  have hS : va_S (va_A (([wo cs ao o] ++ w4 cs a y).flatten) s.heap.size) s.heap s.heap [] := va_S.rf
  have hl := lv_entry [.ref (a 0), .int (iI p0), .int (iI p1), .ref ao] (n := 5) (Nat.le_of_ble_eq_true rfl)
  rw [lg_entry_eq]
  generalize (lg_sl [.ref (a 0), .int (iI p0), .int (iI p1), .ref ao] ++ List.replicate (5 - (lg_sl [.ref (a 0), .int (iI p0), .int (iI p1), .ref ao]).length) Slot.unset).toArray = ls at hl ⊢
  have hl : lv_has ls 5 [(0, .ref (a 0)), (1, .int (iI p0)), (2, .int (iI p1)), (3, .ref ao)] := hl
  unfold fL_merge at hf
  refine lv_aload_n hx hb dL_merge_0 rfl (lv_at hl 3 rfl) ?_
  refine xk_iconst hx hb dL_merge_1 ?_
  refine lv_aload_n hx hb dL_merge_2 rfl (lv_at hl 0 rfl) ?_
  refine lv_iload_n hx hb dL_merge_3 rfl (lv_at hl 1 rfl) ?_
  refine lv_iload_n hx hb dL_merge_4 rfl (lv_at hl 2 rfl) ?_
  obtain ⟨⟨c9, v9, y9⟩, e9, hf⟩ := x_bind hf
  obtain ⟨ca, cb, ct, cf⟩ := x_eqE hf
  refine xf_xi (As := [.int (iI p0), .int (iI p1)]) (rest := [.int (iI 0), .ref ao]) (wcs := w4 cs a y) (w1s := w4 cs a y9) ⟨hx, hb, hml, hown, hts⟩ (c4_merge l hlS dC dI cs a _ y p0 p1 _ e9) (cwV 2 hts gL_merge_X4_merge rfl rfl rfl cdX4_merge ⟨Nat.le_of_ble_eq_true rfl, Nat.le_of_ble_eq_true rfl⟩) hK hP hD hS hA hTh [1, 2, 3, 4, 5, 6, 7, 8, 9, 10] rfl rfl rfl (by decide) rfl rfl rfl rfl hl.1 rfl (Nat.le_of_ble_eq_true rfl) dL_merge_5 ⟨Nat.le_of_ble_eq_true rfl, Nat.le_of_ble_eq_true rfl⟩ (fun hk H locs hP hS => ?_) (fun hk H locs q9 ce hP hS hce hcv hcl => ?_)
  · have hf := ct hk
    obtain ⟨hc, hf⟩ := x_ckE hf
    refine xk_i2l hx hb hc dL_merge_8 ?_
    have hP : va_P (dC, dI) vwCl (([wo cs ao o] ++ w4 cs a y9).flatten) H := hP
    have hD : va_D (va_A (([wo cs ao o] ++ w4 cs a y).flatten) s.heap.size) (([wo cs ao o] ++ w4 cs a y9).flatten) := x_addrF hD rfl
    refine xk_last hx hb hK hP hD hS 0 3 (by decide) (by decide) (by decide) rfl rfl dL_merge_9 (fun H locs hP hS => ?_)
    have hP : va_P (dC, dI) vwCl (([wo cs ao (x_up o 0 v9)] ++ w4 cs a y9).flatten) H := hP
    refine lv_goto (tgt := 21) hx hb dL_merge_10 (by decide) ?_
    refine xk_iconst hx hb dL_merge_21 ?_
    obtain rfl := Option.some.inj hf
    exact xe_wi hx hb hr hlocks hS hP dL_merge_22
  · have hf := cf hk
    obtain ⟨c0a, c0b, c0t, c0f⟩ := x_eqE hf
    by_cases c0 : c9 = 3
    · have hf := c0t c0
      obtain rfl := Option.some.inj hf
      have hE : x_cl c9 = "java/util/NoSuchElementException" := by rw [c0]; rfl
      rw [hE] at hcl
      refine vx_catch (own := RL) (name := "java/util/NoSuchElementException") hown [] ⟨0, 10, 13, 28⟩ [⟨0, 10, 17, 13⟩] (htab.trans rfl) (fun z hz => by cases hz) (by decide) (by decide) (hts (.classLink RL 28 "java/util/NoSuchElementException") (by decide +kernel)) (va_Nw.use (w := .castable "java/util/NoSuchElementException" "java/util/NoSuchElementException") rfl (hTh.1 _ (by decide))) hce hcv hcl ?_
      refine W.eq (g2 := F0 m 13 ls [.ref q9]) rfl ?_
      refine lv_astore (lv' := [(4, .ref q9), (0, .ref (a 0)), (1, .int (iI p0)), (2, .int (iI p1)), (3, .ref ao)]) hx hb dL_merge_13 hl (by decide) rfl (fun ls hl => ?_)
      refine xk_iconst hx hb dL_merge_15 ?_
      exact xe_wi hx hb hr hlocks hS hP dL_merge_16
    · have hf := c0f c0
      obtain ⟨c1a, c1b, c1t, c1f⟩ := x_eqE hf
      by_cases c1 : c9 = 1
      · have hf := c1t c1
        obtain rfl := Option.some.inj hf
        have hE : x_cl c9 = "java/lang/IllegalArgumentException" := by rw [c1]; rfl
        rw [hE] at hcl
        refine vx_catch (own := RL) (name := "java/lang/IllegalArgumentException") hown [⟨0, 10, 13, 28⟩] ⟨0, 10, 17, 13⟩ [] (htab.trans rfl) (fun z hz => by rcases List.mem_singleton.mp hz with rfl; exact Or.inr ⟨by decide, "java/util/NoSuchElementException", hts (.classLink RL 28 "java/util/NoSuchElementException") (by decide +kernel), hN ("java/lang/IllegalArgumentException", "java/util/NoSuchElementException") (by decide)⟩) (by decide) (by decide) (hts (.classLink RL 13 "java/lang/IllegalArgumentException") (by decide +kernel)) (va_Nw.use (w := .castable "java/lang/IllegalArgumentException" "java/lang/IllegalArgumentException") rfl (hTh.1 _ (by decide))) hce hcv hcl ?_
        refine W.eq (g2 := F0 m 17 ls [.ref q9]) rfl ?_
        refine lv_astore (lv' := [(4, .ref q9), (0, .ref (a 0)), (1, .int (iI p0)), (2, .int (iI p1)), (3, .ref ao)]) hx hb dL_merge_17 hl (by decide) rfl (fun ls hl => ?_)
        refine xk_iconst hx hb dL_merge_19 ?_
        exact xe_wi hx hb hr hlocks hS hP dL_merge_20
      · have hf := c1f c1
        cases hf
theorem cdL_merge : yL_merge.cls ≠ "java/lang/invoke/MethodHandle" ∧ yL_merge.cls ≠ "java/lang/invoke/VarHandle" ∧ (parseMethodDescriptor yL_merge.desc).map (fun d => d.parameters.length) = some 4 := by decide +kernel

set_option maxHeartbeats 4000000 in
set_option maxRecDepth 100000 in
theorem kL_mergeLightest (l : Launch) (hlS : l.stackTraces = false) (dC : Nat → ClassId) (dI : Nat → Nat → Nat) (cs : Nat → ClassId) (a : Nat → Nat) (ao sz : Nat) (y : BrS) (o : Int → Int) (res : Int × BrS × (Int → Int)) (hf : fL_mergeLightest y o = some res) : Met l yL_mergeLightest wsL_mergeLightest ({ frames := 7, cells := 1, slots := 6, locals := 116 } : Room) (va_Pc [.ref (a 0), .ref ao] (xPL (dC, dI) vwCl (([wo cs ao o] ++ w4 cs a y).flatten) (xT cs) sz)) (xQi (dC, dI) vwCl (([wo cs ao o] ++ w4 cs a y).flatten) (([wo cs ao res.2.2] ++ w4 cs a res.2.1).flatten) sz res.1) 1 6 (va_A (([wo cs ao o] ++ w4 cs a y).flatten) sz) := by
  refine x_ofWH (cc := cL_mergeLightest) (maxL := 3) (ret := some .int) (hh := [(0, 8, 11, 19)]) (by decide) rfl ?_
  intro p e s m args below meth c s₁ B hml htab hv
  obtain ⟨rfl, ⟨⟨hsz, hP, hK, hD0⟩, hTh⟩, hN⟩ := hv
  have hx := B.exec
  have hb := B.bytes
  have hr := B.returns
  have hts := atoms_spec (ws := wsL_mergeLightest) B.pre
  have hown : s.vm.findClass RL = some m.cls := findClass_of_methodNamed B.named
  have hlocks := B.notSynchronized
  subst hsz
  have hD := hD0.self (sz := s.heap.size)
  have hA : ∀ z9 : Nat, s.heap.size ≤ z9 → va_A (([wo cs ao o] ++ w4 cs a y).flatten) s.heap.size z9 := fun z9 h => Or.inr h
  have hS : va_S (va_A (([wo cs ao o] ++ w4 cs a y).flatten) s.heap.size) s.heap s.heap [] := va_S.rf
  have hl := lv_entry [.ref (a 0), .ref ao] (n := 3) (Nat.le_of_ble_eq_true rfl)
  rw [lg_entry_eq]
  generalize (lg_sl [.ref (a 0), .ref ao] ++ List.replicate (3 - (lg_sl [.ref (a 0), .ref ao]).length) Slot.unset).toArray = ls at hl ⊢
  have hl : lv_has ls 3 [(0, .ref (a 0)), (1, .ref ao)] := hl
  unfold fL_mergeLightest at hf
  refine lv_aload_n hx hb dL_mergeLightest_0 rfl (lv_at hl 1 rfl) ?_
  refine xk_iconst hx hb dL_mergeLightest_1 ?_
  refine lv_aload_n hx hb dL_mergeLightest_2 rfl (lv_at hl 0 rfl) ?_
  obtain ⟨⟨c9, v9, y9⟩, e9, hf⟩ := x_bind hf
  obtain ⟨ca, cb, ct, cf⟩ := x_eqE hf
  refine xf_xi (As := []) (rest := [.int (iI 0), .ref ao]) (wcs := w4 cs a y) (w1s := w4 cs a y9) ⟨hx, hb, hml, hown, hts⟩ (c4_mergeLightest l hlS dC dI cs a _ y _ e9) (cwV 0 hts gL_mergeLightest_X4_mergeLightest rfl rfl rfl cdX4_mergeLightest ⟨Nat.le_of_ble_eq_true rfl, Nat.le_of_ble_eq_true rfl⟩) hK hP hD hS hA hTh [1, 2, 3, 4, 5, 6, 7, 8, 9, 10] rfl rfl rfl (by decide) rfl rfl rfl rfl hl.1 rfl (Nat.le_of_ble_eq_true rfl) dL_mergeLightest_3 ⟨Nat.le_of_ble_eq_true rfl, Nat.le_of_ble_eq_true rfl⟩ (fun hk H locs hP hS => ?_) (fun hk H locs q9 ce hP hS hce hcv hcl => ?_)
  · have hf := ct hk
    obtain ⟨hc, hf⟩ := x_ckE hf
    refine xk_i2l hx hb hc dL_mergeLightest_6 ?_
    have hP : va_P (dC, dI) vwCl (([wo cs ao o] ++ w4 cs a y9).flatten) H := hP
    have hD : va_D (va_A (([wo cs ao o] ++ w4 cs a y).flatten) s.heap.size) (([wo cs ao o] ++ w4 cs a y9).flatten) := x_addrF hD rfl
    refine xk_last hx hb hK hP hD hS 0 3 (by decide) (by decide) (by decide) rfl rfl dL_mergeLightest_7 (fun H locs hP hS => ?_)
    have hP : va_P (dC, dI) vwCl (([wo cs ao (x_up o 0 v9)] ++ w4 cs a y9).flatten) H := hP
    refine lv_goto (tgt := 14) hx hb dL_mergeLightest_8 (by decide) ?_
    refine xk_iconst hx hb dL_mergeLightest_14 ?_
    obtain rfl := Option.some.inj hf
    exact xe_wi hx hb hr hlocks hS hP dL_mergeLightest_15
  · have hf := cf hk
    obtain ⟨c0a, c0b, c0t, c0f⟩ := x_eqE hf
    by_cases c0 : c9 = 2
    · have hf := c0t c0
      obtain rfl := Option.some.inj hf
      have hE : x_cl c9 = "java/lang/IllegalStateException" := by rw [c0]; rfl
      rw [hE] at hcl
      refine vx_catch (own := RL) (name := "java/lang/IllegalStateException") hown [] ⟨0, 8, 11, 19⟩ [] (htab.trans rfl) (fun z hz => by cases hz) (by decide) (by decide) (hts (.classLink RL 19 "java/lang/IllegalStateException") (by decide +kernel)) (va_Nw.use (w := .castable "java/lang/IllegalStateException" "java/lang/IllegalStateException") rfl (hTh.1 _ (by decide))) hce hcv hcl ?_
      refine W.eq (g2 := F0 m 11 ls [.ref q9]) rfl ?_
      refine lv_astore_n (lv' := [(2, .ref q9), (0, .ref (a 0)), (1, .ref ao)]) hx hb dL_mergeLightest_11 rfl hl (by decide) rfl (fun ls hl => ?_)
      refine xk_iconst hx hb dL_mergeLightest_12 ?_
      exact xe_wi hx hb hr hlocks hS hP dL_mergeLightest_13
    · have hf := c0f c0
      cases hf
theorem cdL_mergeLightest : yL_mergeLightest.cls ≠ "java/lang/invoke/MethodHandle" ∧ yL_mergeLightest.cls ≠ "java/lang/invoke/VarHandle" ∧ (parseMethodDescriptor yL_mergeLightest.desc).map (fun d => d.parameters.length) = some 2 := by decide +kernel

set_option maxHeartbeats 4000000 in
set_option maxRecDepth 100000 in
theorem kL_storm (l : Launch) (hlS : l.stackTraces = false) (dC : Nat → ClassId) (dI : Nat → Nat → Nat) (cs : Nat → ClassId) (a : Nat → Nat) (ao sz : Nat) (y : BrS) (o : Int → Int) (p0 : Int) (res : Int × BrS × (Int → Int)) (hf : fL_storm y o p0 = some res) : Met l yL_storm wsL_storm ({ frames := 7, cells := 1, slots := 6, locals := 137 } : Room) (va_Pc [.ref (a 0), .int (iI p0), .ref ao] (xPL (dC, dI) vwCl (([wo cs ao o] ++ w4 cs a y).flatten) (xT cs) sz)) (xQi (dC, dI) vwCl (([wo cs ao o] ++ w4 cs a y).flatten) (([wo cs ao res.2.2] ++ w4 cs a res.2.1).flatten) sz res.1) 1 6 (va_A (([wo cs ao o] ++ w4 cs a y).flatten) sz) := by
  refine x_ofWH (cc := cL_storm) (maxL := 4) (ret := some .int) (hh := [(0, 9, 12, 13)]) (by decide) rfl ?_
  intro p e s m args below meth c s₁ B hml htab hv
  obtain ⟨rfl, ⟨⟨hsz, hP, hK, hD0⟩, hTh⟩, hN⟩ := hv
  have hx := B.exec
  have hb := B.bytes
  have hr := B.returns
  have hts := atoms_spec (ws := wsL_storm) B.pre
  have hown : s.vm.findClass RL = some m.cls := findClass_of_methodNamed B.named
  have hlocks := B.notSynchronized
  subst hsz
  have hD := hD0.self (sz := s.heap.size)
  have hA : ∀ z9 : Nat, s.heap.size ≤ z9 → va_A (([wo cs ao o] ++ w4 cs a y).flatten) s.heap.size z9 := fun z9 h => Or.inr h
  have hS : va_S (va_A (([wo cs ao o] ++ w4 cs a y).flatten) s.heap.size) s.heap s.heap [] := va_S.rf
  have hl := lv_entry [.ref (a 0), .int (iI p0), .ref ao] (n := 4) (Nat.le_of_ble_eq_true rfl)
  rw [lg_entry_eq]
  generalize (lg_sl [.ref (a 0), .int (iI p0), .ref ao] ++ List.replicate (4 - (lg_sl [.ref (a 0), .int (iI p0), .ref ao]).length) Slot.unset).toArray = ls at hl ⊢
  have hl : lv_has ls 4 [(0, .ref (a 0)), (1, .int (iI p0)), (2, .ref ao)] := hl
  unfold fL_storm at hf
  refine lv_aload_n hx hb dL_storm_0 rfl (lv_at hl 2 rfl) ?_
  refine xk_iconst hx hb dL_storm_1 ?_
  refine lv_aload_n hx hb dL_storm_2 rfl (lv_at hl 0 rfl) ?_
  refine lv_iload_n hx hb dL_storm_3 rfl (lv_at hl 1 rfl) ?_
  obtain ⟨⟨c9, v9, y9⟩, e9, hf⟩ := x_bind hf
  obtain ⟨ca, cb, ct, cf⟩ := x_eqE hf
  refine xf_xi (As := [.int (iI p0)]) (rest := [.int (iI 0), .ref ao]) (wcs := w4 cs a y) (w1s := w4 cs a y9) ⟨hx, hb, hml, hown, hts⟩ (c4_storm l hlS dC dI cs a _ y p0 _ e9) (cwV 1 hts gL_storm_X4_storm rfl rfl rfl cdX4_storm ⟨Nat.le_of_ble_eq_true rfl, Nat.le_of_ble_eq_true rfl⟩) hK hP hD hS hA hTh [1, 2, 3, 4, 5, 6, 7, 8, 9, 10] rfl rfl rfl (by decide) rfl rfl rfl rfl hl.1 rfl (Nat.le_of_ble_eq_true rfl) dL_storm_4 ⟨Nat.le_of_ble_eq_true rfl, Nat.le_of_ble_eq_true rfl⟩ (fun hk H locs hP hS => ?_) (fun hk H locs q9 ce hP hS hce hcv hcl => ?_)
  · have hf := ct hk
    obtain ⟨hc, hf⟩ := x_ckE hf
    refine xk_i2l hx hb hc dL_storm_7 ?_
    have hP : va_P (dC, dI) vwCl (([wo cs ao o] ++ w4 cs a y9).flatten) H := hP
    have hD : va_D (va_A (([wo cs ao o] ++ w4 cs a y).flatten) s.heap.size) (([wo cs ao o] ++ w4 cs a y9).flatten) := x_addrF hD rfl
    refine xk_last hx hb hK hP hD hS 0 3 (by decide) (by decide) (by decide) rfl rfl dL_storm_8 (fun H locs hP hS => ?_)
    have hP : va_P (dC, dI) vwCl (([wo cs ao (x_up o 0 v9)] ++ w4 cs a y9).flatten) H := hP
    refine lv_goto (tgt := 15) hx hb dL_storm_9 (by decide) ?_
    refine xk_iconst hx hb dL_storm_15 ?_
    obtain rfl := Option.some.inj hf
    exact xe_wi hx hb hr hlocks hS hP dL_storm_16
  · have hf := cf hk
    obtain ⟨c0a, c0b, c0t, c0f⟩ := x_eqE hf
    by_cases c0 : c9 = 1
    · have hf := c0t c0
      obtain rfl := Option.some.inj hf
      have hE : x_cl c9 = "java/lang/IllegalArgumentException" := by rw [c0]; rfl
      rw [hE] at hcl
      refine vx_catch (own := RL) (name := "java/lang/IllegalArgumentException") hown [] ⟨0, 9, 12, 13⟩ [] (htab.trans rfl) (fun z hz => by cases hz) (by decide) (by decide) (hts (.classLink RL 13 "java/lang/IllegalArgumentException") (by decide +kernel)) (va_Nw.use (w := .castable "java/lang/IllegalArgumentException" "java/lang/IllegalArgumentException") rfl (hTh.1 _ (by decide))) hce hcv hcl ?_
      refine W.eq (g2 := F0 m 12 ls [.ref q9]) rfl ?_
      refine lv_astore_n (lv' := [(3, .ref q9), (0, .ref (a 0)), (1, .int (iI p0)), (2, .ref ao)]) hx hb dL_storm_12 rfl hl (by decide) rfl (fun ls hl => ?_)
      refine xk_iconst hx hb dL_storm_13 ?_
      exact xe_wi hx hb hr hlocks hS hP dL_storm_14
    · have hf := c0f c0
      cases hf
theorem cdL_storm : yL_storm.cls ≠ "java/lang/invoke/MethodHandle" ∧ yL_storm.cls ≠ "java/lang/invoke/VarHandle" ∧ (parseMethodDescriptor yL_storm.desc).map (fun d => d.parameters.length) = some 3 := by decide +kernel

set_option maxHeartbeats 4000000 in
set_option maxRecDepth 100000 in
theorem kL_tighten (l : Launch) (hlS : l.stackTraces = false) (dC : Nat → ClassId) (dI : Nat → Nat → Nat) (cs : Nat → ClassId) (a : Nat → Nat) (ao sz : Nat) (y : BrS) (o : Int → Int) (p0 : Int) (res : Int × BrS × (Int → Int)) (hf : fL_tighten y o p0 = some res) : Met l yL_tighten wsL_tighten ({ frames := 7, cells := 1, slots := 6, locals := 103 } : Room) (va_Pc [.ref (a 0), .int (iI p0), .ref ao] (xPL (dC, dI) vwCl (([wo cs ao o] ++ w4 cs a y).flatten) (xT cs) sz)) (xQi (dC, dI) vwCl (([wo cs ao o] ++ w4 cs a y).flatten) (([wo cs ao res.2.2] ++ w4 cs a res.2.1).flatten) sz res.1) 1 6 (va_A (([wo cs ao o] ++ w4 cs a y).flatten) sz) := by
  refine x_ofWH (cc := cL_tighten) (maxL := 4) (ret := some .int) (hh := [(0, 9, 12, 28)]) (by decide) rfl ?_
  intro p e s m args below meth c s₁ B hml htab hv
  obtain ⟨rfl, ⟨⟨hsz, hP, hK, hD0⟩, hTh⟩, hN⟩ := hv
  have hx := B.exec
  have hb := B.bytes
  have hr := B.returns
  have hts := atoms_spec (ws := wsL_tighten) B.pre
  have hown : s.vm.findClass RL = some m.cls := findClass_of_methodNamed B.named
  have hlocks := B.notSynchronized
  subst hsz
  have hD := hD0.self (sz := s.heap.size)
  have hA : ∀ z9 : Nat, s.heap.size ≤ z9 → va_A (([wo cs ao o] ++ w4 cs a y).flatten) s.heap.size z9 := fun z9 h => Or.inr h
  have hS : va_S (va_A (([wo cs ao o] ++ w4 cs a y).flatten) s.heap.size) s.heap s.heap [] := va_S.rf
  have hl := lv_entry [.ref (a 0), .int (iI p0), .ref ao] (n := 4) (Nat.le_of_ble_eq_true rfl)
  rw [lg_entry_eq]
  generalize (lg_sl [.ref (a 0), .int (iI p0), .ref ao] ++ List.replicate (4 - (lg_sl [.ref (a 0), .int (iI p0), .ref ao]).length) Slot.unset).toArray = ls at hl ⊢
  have hl : lv_has ls 4 [(0, .ref (a 0)), (1, .int (iI p0)), (2, .ref ao)] := hl
  unfold fL_tighten at hf
  refine lv_aload_n hx hb dL_tighten_0 rfl (lv_at hl 2 rfl) ?_
  refine xk_iconst hx hb dL_tighten_1 ?_
  refine lv_aload_n hx hb dL_tighten_2 rfl (lv_at hl 0 rfl) ?_
  refine lv_iload_n hx hb dL_tighten_3 rfl (lv_at hl 1 rfl) ?_
  obtain ⟨⟨c9, v9, y9⟩, e9, hf⟩ := x_bind hf
  obtain ⟨ca, cb, ct, cf⟩ := x_eqE hf
  refine xf_xi (As := [.int (iI p0)]) (rest := [.int (iI 0), .ref ao]) (wcs := w4 cs a y) (w1s := w4 cs a y9) ⟨hx, hb, hml, hown, hts⟩ (c4_tighten l hlS dC dI cs a _ y p0 _ e9) (cwV 1 hts gL_tighten_X4_tighten rfl rfl rfl cdX4_tighten ⟨Nat.le_of_ble_eq_true rfl, Nat.le_of_ble_eq_true rfl⟩) hK hP hD hS hA hTh [1, 2, 3, 4, 5, 6, 7, 8, 9, 10] rfl rfl rfl (by decide) rfl rfl rfl rfl hl.1 rfl (Nat.le_of_ble_eq_true rfl) dL_tighten_4 ⟨Nat.le_of_ble_eq_true rfl, Nat.le_of_ble_eq_true rfl⟩ (fun hk H locs hP hS => ?_) (fun hk H locs q9 ce hP hS hce hcv hcl => ?_)
  · have hf := ct hk
    obtain ⟨hc, hf⟩ := x_ckE hf
    refine xk_i2l hx hb hc dL_tighten_7 ?_
    have hP : va_P (dC, dI) vwCl (([wo cs ao o] ++ w4 cs a y9).flatten) H := hP
    have hD : va_D (va_A (([wo cs ao o] ++ w4 cs a y).flatten) s.heap.size) (([wo cs ao o] ++ w4 cs a y9).flatten) := x_addrF hD rfl
    refine xk_last hx hb hK hP hD hS 0 3 (by decide) (by decide) (by decide) rfl rfl dL_tighten_8 (fun H locs hP hS => ?_)
    have hP : va_P (dC, dI) vwCl (([wo cs ao (x_up o 0 v9)] ++ w4 cs a y9).flatten) H := hP
    refine lv_goto (tgt := 15) hx hb dL_tighten_9 (by decide) ?_
    refine xk_iconst hx hb dL_tighten_15 ?_
    obtain rfl := Option.some.inj hf
    exact xe_wi hx hb hr hlocks hS hP dL_tighten_16
  · have hf := cf hk
    obtain ⟨c0a, c0b, c0t, c0f⟩ := x_eqE hf
    by_cases c0 : c9 = 3
    · have hf := c0t c0
      obtain rfl := Option.some.inj hf
      have hE : x_cl c9 = "java/util/NoSuchElementException" := by rw [c0]; rfl
      rw [hE] at hcl
      refine vx_catch (own := RL) (name := "java/util/NoSuchElementException") hown [] ⟨0, 9, 12, 28⟩ [] (htab.trans rfl) (fun z hz => by cases hz) (by decide) (by decide) (hts (.classLink RL 28 "java/util/NoSuchElementException") (by decide +kernel)) (va_Nw.use (w := .castable "java/util/NoSuchElementException" "java/util/NoSuchElementException") rfl (hTh.1 _ (by decide))) hce hcv hcl ?_
      refine W.eq (g2 := F0 m 12 ls [.ref q9]) rfl ?_
      refine lv_astore_n (lv' := [(3, .ref q9), (0, .ref (a 0)), (1, .int (iI p0)), (2, .ref ao)]) hx hb dL_tighten_12 rfl hl (by decide) rfl (fun ls hl => ?_)
      refine xk_iconst hx hb dL_tighten_13 ?_
      exact xe_wi hx hb hr hlocks hS hP dL_tighten_14
    · have hf := c0f c0
      cases hf
theorem cdL_tighten : yL_tighten.cls ≠ "java/lang/invoke/MethodHandle" ∧ yL_tighten.cls ≠ "java/lang/invoke/VarHandle" ∧ (parseMethodDescriptor yL_tighten.desc).map (fun d => d.parameters.length) = some 3 := by decide +kernel

set_option maxHeartbeats 4000000 in
set_option maxRecDepth 100000 in
theorem kL_land (l : Launch) (hlS : l.stackTraces = false) (dC : Nat → ClassId) (dI : Nat → Nat → Nat) (cs : Nat → ClassId) (a : Nat → Nat) (ao sz : Nat) (y : BrS) (o : Int → Int) (p0 : Int) (res : Int × BrS × (Int → Int)) (hf : fL_land y o p0 = some res) : Met l yL_land wsL_land ({ frames := 7, cells := 1, slots := 6, locals := 103 } : Room) (va_Pc [.ref (a 0), .int (iI p0), .ref ao] (xPL (dC, dI) vwCl (([wo cs ao o] ++ w4 cs a y).flatten) (xT cs) sz)) (xQi (dC, dI) vwCl (([wo cs ao o] ++ w4 cs a y).flatten) (([wo cs ao res.2.2] ++ w4 cs a res.2.1).flatten) sz res.1) 1 6 (va_A (([wo cs ao o] ++ w4 cs a y).flatten) sz) := by
  refine x_ofWH (cc := cL_land) (maxL := 4) (ret := some .int) (hh := [(0, 9, 12, 28), (0, 9, 15, 19)]) (by decide) rfl ?_
  intro p e s m args below meth c s₁ B hml htab hv
  obtain ⟨rfl, ⟨⟨hsz, hP, hK, hD0⟩, hTh⟩, hN⟩ := hv
  have hx := B.exec
  have hb := B.bytes
  have hr := B.returns
  have hts := atoms_spec (ws := wsL_land) B.pre
  have hown : s.vm.findClass RL = some m.cls := findClass_of_methodNamed B.named
  have hlocks := B.notSynchronized
  subst hsz
  have hD := hD0.self (sz := s.heap.size)
  have hA : ∀ z9 : Nat, s.heap.size ≤ z9 → va_A (([wo cs ao o] ++ w4 cs a y).flatten) s.heap.size z9 := fun z9 h => Or.inr h
  have hS : va_S (va_A (([wo cs ao o] ++ w4 cs a y).flatten) s.heap.size) s.heap s.heap [] := va_S.rf
  have hl := lv_entry [.ref (a 0), .int (iI p0), .ref ao] (n := 4) (Nat.le_of_ble_eq_true rfl)
  rw [lg_entry_eq]
  generalize (lg_sl [.ref (a 0), .int (iI p0), .ref ao] ++ List.replicate (4 - (lg_sl [.ref (a 0), .int (iI p0), .ref ao]).length) Slot.unset).toArray = ls at hl ⊢
  have hl : lv_has ls 4 [(0, .ref (a 0)), (1, .int (iI p0)), (2, .ref ao)] := hl
  unfold fL_land at hf
  refine lv_aload_n hx hb dL_land_0 rfl (lv_at hl 2 rfl) ?_
  refine xk_iconst hx hb dL_land_1 ?_
  refine lv_aload_n hx hb dL_land_2 rfl (lv_at hl 0 rfl) ?_
  refine lv_iload_n hx hb dL_land_3 rfl (lv_at hl 1 rfl) ?_
  obtain ⟨⟨c9, v9, y9⟩, e9, hf⟩ := x_bind hf
  obtain ⟨ca, cb, ct, cf⟩ := x_eqE hf
  refine xf_xi (As := [.int (iI p0)]) (rest := [.int (iI 0), .ref ao]) (wcs := w4 cs a y) (w1s := w4 cs a y9) ⟨hx, hb, hml, hown, hts⟩ (c4_land l hlS dC dI cs a _ y p0 _ e9) (cwV 1 hts gL_land_X4_land rfl rfl rfl cdX4_land ⟨Nat.le_of_ble_eq_true rfl, Nat.le_of_ble_eq_true rfl⟩) hK hP hD hS hA hTh [1, 2, 3, 4, 5, 6, 7, 8, 9, 10] rfl rfl rfl (by decide) rfl rfl rfl rfl hl.1 rfl (Nat.le_of_ble_eq_true rfl) dL_land_4 ⟨Nat.le_of_ble_eq_true rfl, Nat.le_of_ble_eq_true rfl⟩ (fun hk H locs hP hS => ?_) (fun hk H locs q9 ce hP hS hce hcv hcl => ?_)
  · have hf := ct hk
    obtain ⟨hc, hf⟩ := x_ckE hf
    refine xk_i2l hx hb hc dL_land_7 ?_
    have hP : va_P (dC, dI) vwCl (([wo cs ao o] ++ w4 cs a y9).flatten) H := hP
    have hD : va_D (va_A (([wo cs ao o] ++ w4 cs a y).flatten) s.heap.size) (([wo cs ao o] ++ w4 cs a y9).flatten) := x_addrF hD rfl
    refine xk_last hx hb hK hP hD hS 0 3 (by decide) (by decide) (by decide) rfl rfl dL_land_8 (fun H locs hP hS => ?_)
    have hP : va_P (dC, dI) vwCl (([wo cs ao (x_up o 0 v9)] ++ w4 cs a y9).flatten) H := hP
    refine lv_goto (tgt := 18) hx hb dL_land_9 (by decide) ?_
    refine xk_iconst hx hb dL_land_18 ?_
    obtain rfl := Option.some.inj hf
    exact xe_wi hx hb hr hlocks hS hP dL_land_19
  · have hf := cf hk
    obtain ⟨c0a, c0b, c0t, c0f⟩ := x_eqE hf
    by_cases c0 : c9 = 3
    · have hf := c0t c0
      obtain rfl := Option.some.inj hf
      have hE : x_cl c9 = "java/util/NoSuchElementException" := by rw [c0]; rfl
      rw [hE] at hcl
      refine vx_catch (own := RL) (name := "java/util/NoSuchElementException") hown [] ⟨0, 9, 12, 28⟩ [⟨0, 9, 15, 19⟩] (htab.trans rfl) (fun z hz => by cases hz) (by decide) (by decide) (hts (.classLink RL 28 "java/util/NoSuchElementException") (by decide +kernel)) (va_Nw.use (w := .castable "java/util/NoSuchElementException" "java/util/NoSuchElementException") rfl (hTh.1 _ (by decide))) hce hcv hcl ?_
      refine W.eq (g2 := F0 m 12 ls [.ref q9]) rfl ?_
      refine lv_astore_n (lv' := [(3, .ref q9), (0, .ref (a 0)), (1, .int (iI p0)), (2, .ref ao)]) hx hb dL_land_12 rfl hl (by decide) rfl (fun ls hl => ?_)
      refine xk_iconst hx hb dL_land_13 ?_
      exact xe_wi hx hb hr hlocks hS hP dL_land_14
    · have hf := c0f c0
      obtain ⟨c1a, c1b, c1t, c1f⟩ := x_eqE hf
      by_cases c1 : c9 = 2
      · have hf := c1t c1
        obtain rfl := Option.some.inj hf
        have hE : x_cl c9 = "java/lang/IllegalStateException" := by rw [c1]; rfl
        rw [hE] at hcl
        refine vx_catch (own := RL) (name := "java/lang/IllegalStateException") hown [⟨0, 9, 12, 28⟩] ⟨0, 9, 15, 19⟩ [] (htab.trans rfl) (fun z hz => by rcases List.mem_singleton.mp hz with rfl; exact Or.inr ⟨by decide, "java/util/NoSuchElementException", hts (.classLink RL 28 "java/util/NoSuchElementException") (by decide +kernel), hN ("java/lang/IllegalStateException", "java/util/NoSuchElementException") (by decide)⟩) (by decide) (by decide) (hts (.classLink RL 19 "java/lang/IllegalStateException") (by decide +kernel)) (va_Nw.use (w := .castable "java/lang/IllegalStateException" "java/lang/IllegalStateException") rfl (hTh.1 _ (by decide))) hce hcv hcl ?_
        refine W.eq (g2 := F0 m 15 ls [.ref q9]) rfl ?_
        refine lv_astore_n (lv' := [(3, .ref q9), (0, .ref (a 0)), (1, .int (iI p0)), (2, .ref ao)]) hx hb dL_land_15 rfl hl (by decide) rfl (fun ls hl => ?_)
        refine xk_iconst hx hb dL_land_16 ?_
        exact xe_wi hx hb hr hlocks hS hP dL_land_17
      · have hf := c1f c1
        cases hf
theorem cdL_land : yL_land.cls ≠ "java/lang/invoke/MethodHandle" ∧ yL_land.cls ≠ "java/lang/invoke/VarHandle" ∧ (parseMethodDescriptor yL_land.desc).map (fun d => d.parameters.length) = some 3 := by decide +kernel

set_option maxHeartbeats 4000000 in
set_option maxRecDepth 100000 in
theorem kL_parcel (l : Launch) (hlS : l.stackTraces = false) (dC : Nat → ClassId) (dI : Nat → Nat → Nat) (cs : Nat → ClassId) (a : Nat → Nat) (ao sz : Nat) (y : BrS) (o : Int → Int) (p0 : Int) (p1 : Int) (res : Int × BrS × (Int → Int)) (hf : fL_parcel y o p0 p1 = some res) : Met l yL_parcel wsL_parcel ({ frames := 7, cells := 1, slots := 6, locals := 104 } : Room) (va_Pc [.ref (a 0), .int (iI p0), .int (iI p1), .ref ao] (xPL (dC, dI) vwCl (([wo cs ao o] ++ w4 cs a y).flatten) (xT cs) sz)) (xQi (dC, dI) vwCl (([wo cs ao o] ++ w4 cs a y).flatten) (([wo cs ao res.2.2] ++ w4 cs a res.2.1).flatten) sz res.1) 1 6 (va_A (([wo cs ao o] ++ w4 cs a y).flatten) sz) := by
  refine x_ofWH (cc := cL_parcel) (maxL := 5) (ret := some .int) (hh := [(0, 10, 13, 46), (0, 10, 17, 13)]) (by decide) rfl ?_
  intro p e s m args below meth c s₁ B hml htab hv
  obtain ⟨rfl, ⟨⟨hsz, hP, hK, hD0⟩, hTh⟩, hN⟩ := hv
  have hx := B.exec
  have hb := B.bytes
  have hr := B.returns
  have hts := atoms_spec (ws := wsL_parcel) B.pre
  have hown : s.vm.findClass RL = some m.cls := findClass_of_methodNamed B.named
  have hlocks := B.notSynchronized
  subst hsz
  have hD := hD0.self (sz := s.heap.size)
  have hA : ∀ z9 : Nat, s.heap.size ≤ z9 → va_A (([wo cs ao o] ++ w4 cs a y).flatten) s.heap.size z9 := fun z9 h => Or.inr h
  have hS : va_S (va_A (([wo cs ao o] ++ w4 cs a y).flatten) s.heap.size) s.heap s.heap [] := va_S.rf
  have hl := lv_entry [.ref (a 0), .int (iI p0), .int (iI p1), .ref ao] (n := 5) (Nat.le_of_ble_eq_true rfl)
  rw [lg_entry_eq]
  generalize (lg_sl [.ref (a 0), .int (iI p0), .int (iI p1), .ref ao] ++ List.replicate (5 - (lg_sl [.ref (a 0), .int (iI p0), .int (iI p1), .ref ao]).length) Slot.unset).toArray = ls at hl ⊢
  have hl : lv_has ls 5 [(0, .ref (a 0)), (1, .int (iI p0)), (2, .int (iI p1)), (3, .ref ao)] := hl
  unfold fL_parcel at hf
  refine lv_aload_n hx hb dL_parcel_0 rfl (lv_at hl 3 rfl) ?_
  refine xk_iconst hx hb dL_parcel_1 ?_
  refine lv_aload_n hx hb dL_parcel_2 rfl (lv_at hl 0 rfl) ?_
  refine lv_iload_n hx hb dL_parcel_3 rfl (lv_at hl 1 rfl) ?_
  refine lv_iload_n hx hb dL_parcel_4 rfl (lv_at hl 2 rfl) ?_
  obtain ⟨⟨c9, v9, y9⟩, e9, hf⟩ := x_bind hf
  obtain ⟨ca, cb, ct, cf⟩ := x_eqE hf
  refine xf_xi (As := [.int (iI p0), .int (iI p1)]) (rest := [.int (iI 0), .ref ao]) (wcs := w4 cs a y) (w1s := w4 cs a y9) ⟨hx, hb, hml, hown, hts⟩ (c4_parcel l hlS dC dI cs a _ y p0 p1 _ e9) (cwV 2 hts gL_parcel_X4_parcel rfl rfl rfl cdX4_parcel ⟨Nat.le_of_ble_eq_true rfl, Nat.le_of_ble_eq_true rfl⟩) hK hP hD hS hA hTh [1, 2, 3, 4, 5, 6, 7, 8, 9, 10] rfl rfl rfl (by decide) rfl rfl rfl rfl hl.1 rfl (Nat.le_of_ble_eq_true rfl) dL_parcel_5 ⟨Nat.le_of_ble_eq_true rfl, Nat.le_of_ble_eq_true rfl⟩ (fun hk H locs hP hS => ?_) (fun hk H locs q9 ce hP hS hce hcv hcl => ?_)
  · have hf := ct hk
    obtain ⟨hc, hf⟩ := x_ckE hf
    refine xk_i2l hx hb hc dL_parcel_8 ?_
    have hP : va_P (dC, dI) vwCl (([wo cs ao o] ++ w4 cs a y9).flatten) H := hP
    have hD : va_D (va_A (([wo cs ao o] ++ w4 cs a y).flatten) s.heap.size) (([wo cs ao o] ++ w4 cs a y9).flatten) := x_addrF hD rfl
    refine xk_last hx hb hK hP hD hS 0 3 (by decide) (by decide) (by decide) rfl rfl dL_parcel_9 (fun H locs hP hS => ?_)
    have hP : va_P (dC, dI) vwCl (([wo cs ao (x_up o 0 v9)] ++ w4 cs a y9).flatten) H := hP
    refine lv_goto (tgt := 21) hx hb dL_parcel_10 (by decide) ?_
    refine xk_iconst hx hb dL_parcel_21 ?_
    obtain rfl := Option.some.inj hf
    exact xe_wi hx hb hr hlocks hS hP dL_parcel_22
  · have hf := cf hk
    obtain ⟨c0a, c0b, c0t, c0f⟩ := x_eqE hf
    by_cases c0 : c9 = 4
    · have hf := c0t c0
      obtain rfl := Option.some.inj hf
      have hE : x_cl c9 = "java/lang/IndexOutOfBoundsException" := by rw [c0]; rfl
      rw [hE] at hcl
      refine vx_catch (own := RL) (name := "java/lang/IndexOutOfBoundsException") hown [] ⟨0, 10, 13, 46⟩ [⟨0, 10, 17, 13⟩] (htab.trans rfl) (fun z hz => by cases hz) (by decide) (by decide) (hts (.classLink RL 46 "java/lang/IndexOutOfBoundsException") (by decide +kernel)) (va_Nw.use (w := .castable "java/lang/IndexOutOfBoundsException" "java/lang/IndexOutOfBoundsException") rfl (hTh.1 _ (by decide))) hce hcv hcl ?_
      refine W.eq (g2 := F0 m 13 ls [.ref q9]) rfl ?_
      refine lv_astore (lv' := [(4, .ref q9), (0, .ref (a 0)), (1, .int (iI p0)), (2, .int (iI p1)), (3, .ref ao)]) hx hb dL_parcel_13 hl (by decide) rfl (fun ls hl => ?_)
      refine xk_iconst hx hb dL_parcel_15 ?_
      exact xe_wi hx hb hr hlocks hS hP dL_parcel_16
    · have hf := c0f c0
      obtain ⟨c1a, c1b, c1t, c1f⟩ := x_eqE hf
      by_cases c1 : c9 = 1
      · have hf := c1t c1
        obtain rfl := Option.some.inj hf
        have hE : x_cl c9 = "java/lang/IllegalArgumentException" := by rw [c1]; rfl
        rw [hE] at hcl
        refine vx_catch (own := RL) (name := "java/lang/IllegalArgumentException") hown [⟨0, 10, 13, 46⟩] ⟨0, 10, 17, 13⟩ [] (htab.trans rfl) (fun z hz => by rcases List.mem_singleton.mp hz with rfl; exact Or.inr ⟨by decide, "java/lang/IndexOutOfBoundsException", hts (.classLink RL 46 "java/lang/IndexOutOfBoundsException") (by decide +kernel), hN ("java/lang/IllegalArgumentException", "java/lang/IndexOutOfBoundsException") (by decide)⟩) (by decide) (by decide) (hts (.classLink RL 13 "java/lang/IllegalArgumentException") (by decide +kernel)) (va_Nw.use (w := .castable "java/lang/IllegalArgumentException" "java/lang/IllegalArgumentException") rfl (hTh.1 _ (by decide))) hce hcv hcl ?_
        refine W.eq (g2 := F0 m 17 ls [.ref q9]) rfl ?_
        refine lv_astore (lv' := [(4, .ref q9), (0, .ref (a 0)), (1, .int (iI p0)), (2, .int (iI p1)), (3, .ref ao)]) hx hb dL_parcel_17 hl (by decide) rfl (fun ls hl => ?_)
        refine xk_iconst hx hb dL_parcel_19 ?_
        exact xe_wi hx hb hr hlocks hS hP dL_parcel_20
      · have hf := c1f c1
        cases hf
theorem cdL_parcel : yL_parcel.cls ≠ "java/lang/invoke/MethodHandle" ∧ yL_parcel.cls ≠ "java/lang/invoke/VarHandle" ∧ (parseMethodDescriptor yL_parcel.desc).map (fun d => d.parameters.length) = some 4 := by decide +kernel

set_option maxHeartbeats 4000000 in
set_option maxRecDepth 100000 in
theorem kL_run (l : Launch) (hlS : l.stackTraces = false) (dC : Nat → ClassId) (dI : Nat → Nat → Nat) (cs : Nat → ClassId) (a : Nat → Nat) (ao sz : Nat) (y : BrS) (o : Int → Int) (p0 : Int) (p1 : Int) (res : Int × BrS × (Int → Int)) (hf : fL_run y o p0 p1 = some res) : Met l yL_run wsL_run ({ frames := 7, cells := 1, slots := 6, locals := 104 } : Room) (va_Pc [.ref (a 0), .int (iI p0), .int (iI p1), .ref ao] (xPL (dC, dI) vwCl (([wo cs ao o] ++ w4 cs a y).flatten) (xT cs) sz)) (xQi (dC, dI) vwCl (([wo cs ao o] ++ w4 cs a y).flatten) (([wo cs ao res.2.2] ++ w4 cs a res.2.1).flatten) sz res.1) 1 6 (va_A (([wo cs ao o] ++ w4 cs a y).flatten) sz) := by
  refine x_ofWH (cc := cL_run) (maxL := 5) (ret := some .int) (hh := [(0, 10, 13, 28), (0, 10, 17, 13)]) (by decide) rfl ?_
  intro p e s m args below meth c s₁ B hml htab hv
  obtain ⟨rfl, ⟨⟨hsz, hP, hK, hD0⟩, hTh⟩, hN⟩ := hv
  have hx := B.exec
  have hb := B.bytes
  have hr := B.returns
  have hts := atoms_spec (ws := wsL_run) B.pre
  have hown : s.vm.findClass RL = some m.cls := findClass_of_methodNamed B.named
  have hlocks := B.notSynchronized
  subst hsz
  have hD := hD0.self (sz := s.heap.size)
  have hA : ∀ z9 : Nat, s.heap.size ≤ z9 → va_A (([wo cs ao o] ++ w4 cs a y).flatten) s.heap.size z9 := fun z9 h => Or.inr h
  have hS : va_S (va_A (([wo cs ao o] ++ w4 cs a y).flatten) s.heap.size) s.heap s.heap [] := va_S.rf
  have hl := lv_entry [.ref (a 0), .int (iI p0), .int (iI p1), .ref ao] (n := 5) (Nat.le_of_ble_eq_true rfl)
  rw [lg_entry_eq]
  generalize (lg_sl [.ref (a 0), .int (iI p0), .int (iI p1), .ref ao] ++ List.replicate (5 - (lg_sl [.ref (a 0), .int (iI p0), .int (iI p1), .ref ao]).length) Slot.unset).toArray = ls at hl ⊢
  have hl : lv_has ls 5 [(0, .ref (a 0)), (1, .int (iI p0)), (2, .int (iI p1)), (3, .ref ao)] := hl
  unfold fL_run at hf
  refine lv_aload_n hx hb dL_run_0 rfl (lv_at hl 3 rfl) ?_
  refine xk_iconst hx hb dL_run_1 ?_
  refine lv_aload_n hx hb dL_run_2 rfl (lv_at hl 0 rfl) ?_
  refine lv_iload_n hx hb dL_run_3 rfl (lv_at hl 1 rfl) ?_
  refine lv_iload_n hx hb dL_run_4 rfl (lv_at hl 2 rfl) ?_
  obtain ⟨⟨c9, v9, y9⟩, e9, hf⟩ := x_bind hf
  obtain ⟨ca, cb, ct, cf⟩ := x_eqE hf
  refine xf_xi (As := [.int (iI p0), .int (iI p1)]) (rest := [.int (iI 0), .ref ao]) (wcs := w4 cs a y) (w1s := w4 cs a y9) ⟨hx, hb, hml, hown, hts⟩ (c4_run l hlS dC dI cs a _ y p0 p1 _ e9) (cwV 2 hts gL_run_X4_run rfl rfl rfl cdX4_run ⟨Nat.le_of_ble_eq_true rfl, Nat.le_of_ble_eq_true rfl⟩) hK hP hD hS hA hTh [1, 2, 3, 4, 5, 6, 7, 8, 9, 10] rfl rfl rfl (by decide) rfl rfl rfl rfl hl.1 rfl (Nat.le_of_ble_eq_true rfl) dL_run_5 ⟨Nat.le_of_ble_eq_true rfl, Nat.le_of_ble_eq_true rfl⟩ (fun hk H locs hP hS => ?_) (fun hk H locs q9 ce hP hS hce hcv hcl => ?_)
  · have hf := ct hk
    obtain ⟨hc, hf⟩ := x_ckE hf
    refine xk_i2l hx hb hc dL_run_8 ?_
    have hP : va_P (dC, dI) vwCl (([wo cs ao o] ++ w4 cs a y9).flatten) H := hP
    have hD : va_D (va_A (([wo cs ao o] ++ w4 cs a y).flatten) s.heap.size) (([wo cs ao o] ++ w4 cs a y9).flatten) := x_addrF hD rfl
    refine xk_last hx hb hK hP hD hS 0 3 (by decide) (by decide) (by decide) rfl rfl dL_run_9 (fun H locs hP hS => ?_)
    have hP : va_P (dC, dI) vwCl (([wo cs ao (x_up o 0 v9)] ++ w4 cs a y9).flatten) H := hP
    refine lv_goto (tgt := 21) hx hb dL_run_10 (by decide) ?_
    refine xk_iconst hx hb dL_run_21 ?_
    obtain rfl := Option.some.inj hf
    exact xe_wi hx hb hr hlocks hS hP dL_run_22
  · have hf := cf hk
    obtain ⟨c0a, c0b, c0t, c0f⟩ := x_eqE hf
    by_cases c0 : c9 = 3
    · have hf := c0t c0
      obtain rfl := Option.some.inj hf
      have hE : x_cl c9 = "java/util/NoSuchElementException" := by rw [c0]; rfl
      rw [hE] at hcl
      refine vx_catch (own := RL) (name := "java/util/NoSuchElementException") hown [] ⟨0, 10, 13, 28⟩ [⟨0, 10, 17, 13⟩] (htab.trans rfl) (fun z hz => by cases hz) (by decide) (by decide) (hts (.classLink RL 28 "java/util/NoSuchElementException") (by decide +kernel)) (va_Nw.use (w := .castable "java/util/NoSuchElementException" "java/util/NoSuchElementException") rfl (hTh.1 _ (by decide))) hce hcv hcl ?_
      refine W.eq (g2 := F0 m 13 ls [.ref q9]) rfl ?_
      refine lv_astore (lv' := [(4, .ref q9), (0, .ref (a 0)), (1, .int (iI p0)), (2, .int (iI p1)), (3, .ref ao)]) hx hb dL_run_13 hl (by decide) rfl (fun ls hl => ?_)
      refine xk_iconst hx hb dL_run_15 ?_
      exact xe_wi hx hb hr hlocks hS hP dL_run_16
    · have hf := c0f c0
      obtain ⟨c1a, c1b, c1t, c1f⟩ := x_eqE hf
      by_cases c1 : c9 = 1
      · have hf := c1t c1
        obtain rfl := Option.some.inj hf
        have hE : x_cl c9 = "java/lang/IllegalArgumentException" := by rw [c1]; rfl
        rw [hE] at hcl
        refine vx_catch (own := RL) (name := "java/lang/IllegalArgumentException") hown [⟨0, 10, 13, 28⟩] ⟨0, 10, 17, 13⟩ [] (htab.trans rfl) (fun z hz => by rcases List.mem_singleton.mp hz with rfl; exact Or.inr ⟨by decide, "java/util/NoSuchElementException", hts (.classLink RL 28 "java/util/NoSuchElementException") (by decide +kernel), hN ("java/lang/IllegalArgumentException", "java/util/NoSuchElementException") (by decide)⟩) (by decide) (by decide) (hts (.classLink RL 13 "java/lang/IllegalArgumentException") (by decide +kernel)) (va_Nw.use (w := .castable "java/lang/IllegalArgumentException" "java/lang/IllegalArgumentException") rfl (hTh.1 _ (by decide))) hce hcv hcl ?_
        refine W.eq (g2 := F0 m 17 ls [.ref q9]) rfl ?_
        refine lv_astore (lv' := [(4, .ref q9), (0, .ref (a 0)), (1, .int (iI p0)), (2, .int (iI p1)), (3, .ref ao)]) hx hb dL_run_17 hl (by decide) rfl (fun ls hl => ?_)
        refine xk_iconst hx hb dL_run_19 ?_
        exact xe_wi hx hb hr hlocks hS hP dL_run_20
      · have hf := c1f c1
        cases hf
theorem cdL_run : yL_run.cls ≠ "java/lang/invoke/MethodHandle" ∧ yL_run.cls ≠ "java/lang/invoke/VarHandle" ∧ (parseMethodDescriptor yL_run.desc).map (fun d => d.parameters.length) = some 4 := by decide +kernel

set_option maxHeartbeats 4000000 in
set_option maxRecDepth 100000 in
theorem kL_inRun (l : Launch) (hlS : l.stackTraces = false) (dC : Nat → ClassId) (dI : Nat → Nat → Nat) (cs : Nat → ClassId) (a : Nat → Nat) (ao sz : Nat) (y : BrS) (o : Int → Int) (p0 : Int) (p1 : Int) (res : Int × BrS × (Int → Int)) (hf : fL_inRun y o p0 p1 = some res) : Met l yL_inRun wsL_inRun ({ frames := 7, cells := 1, slots := 6, locals := 104 } : Room) (va_Pc [.ref (a 0), .int (iI p0), .int (iI p1), .ref ao] (xPL (dC, dI) vwCl (([wo cs ao o] ++ w4 cs a y).flatten) (xT cs) sz)) (xQi (dC, dI) vwCl (([wo cs ao o] ++ w4 cs a y).flatten) (([wo cs ao res.2.2] ++ w4 cs a res.2.1).flatten) sz res.1) 1 6 (va_A (([wo cs ao o] ++ w4 cs a y).flatten) sz) := by
  refine x_ofWH (cc := cL_inRun) (maxL := 5) (ret := some .int) (hh := [(0, 10, 13, 28), (0, 10, 17, 46)]) (by decide) rfl ?_
  intro p e s m args below meth c s₁ B hml htab hv
  obtain ⟨rfl, ⟨⟨hsz, hP, hK, hD0⟩, hTh⟩, hN⟩ := hv
  have hx := B.exec
  have hb := B.bytes
  have hr := B.returns
  have hts := atoms_spec (ws := wsL_inRun) B.pre
  have hown : s.vm.findClass RL = some m.cls := findClass_of_methodNamed B.named
  have hlocks := B.notSynchronized
  subst hsz
  have hD := hD0.self (sz := s.heap.size)
  have hA : ∀ z9 : Nat, s.heap.size ≤ z9 → va_A (([wo cs ao o] ++ w4 cs a y).flatten) s.heap.size z9 := fun z9 h => Or.inr h
  have hS : va_S (va_A (([wo cs ao o] ++ w4 cs a y).flatten) s.heap.size) s.heap s.heap [] := va_S.rf
  have hl := lv_entry [.ref (a 0), .int (iI p0), .int (iI p1), .ref ao] (n := 5) (Nat.le_of_ble_eq_true rfl)
  rw [lg_entry_eq]
  generalize (lg_sl [.ref (a 0), .int (iI p0), .int (iI p1), .ref ao] ++ List.replicate (5 - (lg_sl [.ref (a 0), .int (iI p0), .int (iI p1), .ref ao]).length) Slot.unset).toArray = ls at hl ⊢
  have hl : lv_has ls 5 [(0, .ref (a 0)), (1, .int (iI p0)), (2, .int (iI p1)), (3, .ref ao)] := hl
  unfold fL_inRun at hf
  refine lv_aload_n hx hb dL_inRun_0 rfl (lv_at hl 3 rfl) ?_
  refine xk_iconst hx hb dL_inRun_1 ?_
  refine lv_aload_n hx hb dL_inRun_2 rfl (lv_at hl 0 rfl) ?_
  refine lv_iload_n hx hb dL_inRun_3 rfl (lv_at hl 1 rfl) ?_
  refine lv_iload_n hx hb dL_inRun_4 rfl (lv_at hl 2 rfl) ?_
  obtain ⟨⟨c9, v9, y9⟩, e9, hf⟩ := x_bind hf
  obtain ⟨ca, cb, ct, cf⟩ := x_eqE hf
  refine xf_xi (As := [.int (iI p0), .int (iI p1)]) (rest := [.int (iI 0), .ref ao]) (wcs := w4 cs a y) (w1s := w4 cs a y9) ⟨hx, hb, hml, hown, hts⟩ (c4_inRun l hlS dC dI cs a _ y p0 p1 _ e9) (cwV 2 hts gL_inRun_X4_inRun rfl rfl rfl cdX4_inRun ⟨Nat.le_of_ble_eq_true rfl, Nat.le_of_ble_eq_true rfl⟩) hK hP hD hS hA hTh [1, 2, 3, 4, 5, 6, 7, 8, 9, 10] rfl rfl rfl (by decide) rfl rfl rfl rfl hl.1 rfl (Nat.le_of_ble_eq_true rfl) dL_inRun_5 ⟨Nat.le_of_ble_eq_true rfl, Nat.le_of_ble_eq_true rfl⟩ (fun hk H locs hP hS => ?_) (fun hk H locs q9 ce hP hS hce hcv hcl => ?_)
  · have hf := ct hk
    obtain ⟨hc, hf⟩ := x_ckE hf
    refine xk_i2l hx hb hc dL_inRun_8 ?_
    have hP : va_P (dC, dI) vwCl (([wo cs ao o] ++ w4 cs a y9).flatten) H := hP
    have hD : va_D (va_A (([wo cs ao o] ++ w4 cs a y).flatten) s.heap.size) (([wo cs ao o] ++ w4 cs a y9).flatten) := x_addrF hD rfl
    refine xk_last hx hb hK hP hD hS 0 3 (by decide) (by decide) (by decide) rfl rfl dL_inRun_9 (fun H locs hP hS => ?_)
    have hP : va_P (dC, dI) vwCl (([wo cs ao (x_up o 0 v9)] ++ w4 cs a y9).flatten) H := hP
    refine lv_goto (tgt := 21) hx hb dL_inRun_10 (by decide) ?_
    refine xk_iconst hx hb dL_inRun_21 ?_
    obtain rfl := Option.some.inj hf
    exact xe_wi hx hb hr hlocks hS hP dL_inRun_22
  · have hf := cf hk
    obtain ⟨c0a, c0b, c0t, c0f⟩ := x_eqE hf
    by_cases c0 : c9 = 3
    · have hf := c0t c0
      obtain rfl := Option.some.inj hf
      have hE : x_cl c9 = "java/util/NoSuchElementException" := by rw [c0]; rfl
      rw [hE] at hcl
      refine vx_catch (own := RL) (name := "java/util/NoSuchElementException") hown [] ⟨0, 10, 13, 28⟩ [⟨0, 10, 17, 46⟩] (htab.trans rfl) (fun z hz => by cases hz) (by decide) (by decide) (hts (.classLink RL 28 "java/util/NoSuchElementException") (by decide +kernel)) (va_Nw.use (w := .castable "java/util/NoSuchElementException" "java/util/NoSuchElementException") rfl (hTh.1 _ (by decide))) hce hcv hcl ?_
      refine W.eq (g2 := F0 m 13 ls [.ref q9]) rfl ?_
      refine lv_astore (lv' := [(4, .ref q9), (0, .ref (a 0)), (1, .int (iI p0)), (2, .int (iI p1)), (3, .ref ao)]) hx hb dL_inRun_13 hl (by decide) rfl (fun ls hl => ?_)
      refine xk_iconst hx hb dL_inRun_15 ?_
      exact xe_wi hx hb hr hlocks hS hP dL_inRun_16
    · have hf := c0f c0
      obtain ⟨c1a, c1b, c1t, c1f⟩ := x_eqE hf
      by_cases c1 : c9 = 4
      · have hf := c1t c1
        obtain rfl := Option.some.inj hf
        have hE : x_cl c9 = "java/lang/IndexOutOfBoundsException" := by rw [c1]; rfl
        rw [hE] at hcl
        refine vx_catch (own := RL) (name := "java/lang/IndexOutOfBoundsException") hown [⟨0, 10, 13, 28⟩] ⟨0, 10, 17, 46⟩ [] (htab.trans rfl) (fun z hz => by rcases List.mem_singleton.mp hz with rfl; exact Or.inr ⟨by decide, "java/util/NoSuchElementException", hts (.classLink RL 28 "java/util/NoSuchElementException") (by decide +kernel), hN ("java/lang/IndexOutOfBoundsException", "java/util/NoSuchElementException") (by decide)⟩) (by decide) (by decide) (hts (.classLink RL 46 "java/lang/IndexOutOfBoundsException") (by decide +kernel)) (va_Nw.use (w := .castable "java/lang/IndexOutOfBoundsException" "java/lang/IndexOutOfBoundsException") rfl (hTh.1 _ (by decide))) hce hcv hcl ?_
        refine W.eq (g2 := F0 m 17 ls [.ref q9]) rfl ?_
        refine lv_astore (lv' := [(4, .ref q9), (0, .ref (a 0)), (1, .int (iI p0)), (2, .int (iI p1)), (3, .ref ao)]) hx hb dL_inRun_17 hl (by decide) rfl (fun ls hl => ?_)
        refine xk_iconst hx hb dL_inRun_19 ?_
        exact xe_wi hx hb hr hlocks hS hP dL_inRun_20
      · have hf := c1f c1
        cases hf
theorem cdL_inRun : yL_inRun.cls ≠ "java/lang/invoke/MethodHandle" ∧ yL_inRun.cls ≠ "java/lang/invoke/VarHandle" ∧ (parseMethodDescriptor yL_inRun.desc).map (fun d => d.parameters.length) = some 4 := by decide +kernel

set_option maxHeartbeats 4000000 in
set_option maxRecDepth 100000 in
theorem kL_ashore (l : Launch) (hlS : l.stackTraces = false) (dC : Nat → ClassId) (dI : Nat → Nat → Nat) (cs : Nat → ClassId) (a : Nat → Nat) (ao sz : Nat) (y : BrS) (o : Int → Int) (p0 : Int) (res : Int × BrS × (Int → Int)) (hf : fL_ashore y o p0 = some res) : Met l yL_ashore wsL_ashore ({ frames := 7, cells := 1, slots := 6, locals := 103 } : Room) (va_Pc [.ref (a 0), .int (iI p0), .ref ao] (xPL (dC, dI) vwCl (([wo cs ao o] ++ w4 cs a y).flatten) (xT cs) sz)) (xQi (dC, dI) vwCl (([wo cs ao o] ++ w4 cs a y).flatten) (([wo cs ao res.2.2] ++ w4 cs a res.2.1).flatten) sz res.1) 1 6 (va_A (([wo cs ao o] ++ w4 cs a y).flatten) sz) := by
  refine x_ofWH (cc := cL_ashore) (maxL := 4) (ret := some .int) (hh := [(0, 9, 12, 46)]) (by decide) rfl ?_
  intro p e s m args below meth c s₁ B hml htab hv
  obtain ⟨rfl, ⟨⟨hsz, hP, hK, hD0⟩, hTh⟩, hN⟩ := hv
  have hx := B.exec
  have hb := B.bytes
  have hr := B.returns
  have hts := atoms_spec (ws := wsL_ashore) B.pre
  have hown : s.vm.findClass RL = some m.cls := findClass_of_methodNamed B.named
  have hlocks := B.notSynchronized
  subst hsz
  have hD := hD0.self (sz := s.heap.size)
  have hA : ∀ z9 : Nat, s.heap.size ≤ z9 → va_A (([wo cs ao o] ++ w4 cs a y).flatten) s.heap.size z9 := fun z9 h => Or.inr h
  have hS : va_S (va_A (([wo cs ao o] ++ w4 cs a y).flatten) s.heap.size) s.heap s.heap [] := va_S.rf
  have hl := lv_entry [.ref (a 0), .int (iI p0), .ref ao] (n := 4) (Nat.le_of_ble_eq_true rfl)
  rw [lg_entry_eq]
  generalize (lg_sl [.ref (a 0), .int (iI p0), .ref ao] ++ List.replicate (4 - (lg_sl [.ref (a 0), .int (iI p0), .ref ao]).length) Slot.unset).toArray = ls at hl ⊢
  have hl : lv_has ls 4 [(0, .ref (a 0)), (1, .int (iI p0)), (2, .ref ao)] := hl
  unfold fL_ashore at hf
  refine lv_aload_n hx hb dL_ashore_0 rfl (lv_at hl 2 rfl) ?_
  refine xk_iconst hx hb dL_ashore_1 ?_
  refine lv_aload_n hx hb dL_ashore_2 rfl (lv_at hl 0 rfl) ?_
  refine lv_iload_n hx hb dL_ashore_3 rfl (lv_at hl 1 rfl) ?_
  obtain ⟨⟨c9, v9, y9⟩, e9, hf⟩ := x_bind hf
  obtain ⟨ca, cb, ct, cf⟩ := x_eqE hf
  refine xf_xi (As := [.int (iI p0)]) (rest := [.int (iI 0), .ref ao]) (wcs := w4 cs a y) (w1s := w4 cs a y9) ⟨hx, hb, hml, hown, hts⟩ (c4_ashore l hlS dC dI cs a _ y p0 _ e9) (cwV 1 hts gL_ashore_X4_ashore rfl rfl rfl cdX4_ashore ⟨Nat.le_of_ble_eq_true rfl, Nat.le_of_ble_eq_true rfl⟩) hK hP hD hS hA hTh [1, 2, 3, 4, 5, 6, 7, 8, 9, 10] rfl rfl rfl (by decide) rfl rfl rfl rfl hl.1 rfl (Nat.le_of_ble_eq_true rfl) dL_ashore_4 ⟨Nat.le_of_ble_eq_true rfl, Nat.le_of_ble_eq_true rfl⟩ (fun hk H locs hP hS => ?_) (fun hk H locs q9 ce hP hS hce hcv hcl => ?_)
  · have hf := ct hk
    obtain ⟨hc, hf⟩ := x_ckE hf
    refine xk_i2l hx hb hc dL_ashore_7 ?_
    have hP : va_P (dC, dI) vwCl (([wo cs ao o] ++ w4 cs a y9).flatten) H := hP
    have hD : va_D (va_A (([wo cs ao o] ++ w4 cs a y).flatten) s.heap.size) (([wo cs ao o] ++ w4 cs a y9).flatten) := x_addrF hD rfl
    refine xk_last hx hb hK hP hD hS 0 3 (by decide) (by decide) (by decide) rfl rfl dL_ashore_8 (fun H locs hP hS => ?_)
    have hP : va_P (dC, dI) vwCl (([wo cs ao (x_up o 0 v9)] ++ w4 cs a y9).flatten) H := hP
    refine lv_goto (tgt := 15) hx hb dL_ashore_9 (by decide) ?_
    refine xk_iconst hx hb dL_ashore_15 ?_
    obtain rfl := Option.some.inj hf
    exact xe_wi hx hb hr hlocks hS hP dL_ashore_16
  · have hf := cf hk
    obtain ⟨c0a, c0b, c0t, c0f⟩ := x_eqE hf
    by_cases c0 : c9 = 4
    · have hf := c0t c0
      obtain rfl := Option.some.inj hf
      have hE : x_cl c9 = "java/lang/IndexOutOfBoundsException" := by rw [c0]; rfl
      rw [hE] at hcl
      refine vx_catch (own := RL) (name := "java/lang/IndexOutOfBoundsException") hown [] ⟨0, 9, 12, 46⟩ [] (htab.trans rfl) (fun z hz => by cases hz) (by decide) (by decide) (hts (.classLink RL 46 "java/lang/IndexOutOfBoundsException") (by decide +kernel)) (va_Nw.use (w := .castable "java/lang/IndexOutOfBoundsException" "java/lang/IndexOutOfBoundsException") rfl (hTh.1 _ (by decide))) hce hcv hcl ?_
      refine W.eq (g2 := F0 m 12 ls [.ref q9]) rfl ?_
      refine lv_astore_n (lv' := [(3, .ref q9), (0, .ref (a 0)), (1, .int (iI p0)), (2, .ref ao)]) hx hb dL_ashore_12 rfl hl (by decide) rfl (fun ls hl => ?_)
      refine xk_iconst hx hb dL_ashore_13 ?_
      exact xe_wi hx hb hr hlocks hS hP dL_ashore_14
    · have hf := c0f c0
      cases hf
theorem cdL_ashore : yL_ashore.cls ≠ "java/lang/invoke/MethodHandle" ∧ yL_ashore.cls ≠ "java/lang/invoke/VarHandle" ∧ (parseMethodDescriptor yL_ashore.desc).map (fun d => d.parameters.length) = some 3 := by decide +kernel

set_option maxHeartbeats 4000000 in
set_option maxRecDepth 100000 in
theorem kL_runAt (l : Launch) (hlS : l.stackTraces = false) (dC : Nat → ClassId) (dI : Nat → Nat → Nat) (cs : Nat → ClassId) (a : Nat → Nat) (ao sz : Nat) (y : BrS) (o : Int → Int) (p0 : Int) (res : Int × BrS × (Int → Int)) (hf : fL_runAt y o p0 = some res) : Met l yL_runAt wsL_runAt ({ frames := 7, cells := 1, slots := 6, locals := 103 } : Room) (va_Pc [.ref (a 0), .int (iI p0), .ref ao] (xPL (dC, dI) vwCl (([wo cs ao o] ++ w4 cs a y).flatten) (xT cs) sz)) (xQi (dC, dI) vwCl (([wo cs ao o] ++ w4 cs a y).flatten) (([wo cs ao res.2.2] ++ w4 cs a res.2.1).flatten) sz res.1) 1 6 (va_A (([wo cs ao o] ++ w4 cs a y).flatten) sz) := by
  refine x_ofWH (cc := cL_runAt) (maxL := 4) (ret := some .int) (hh := [(0, 9, 12, 46)]) (by decide) rfl ?_
  intro p e s m args below meth c s₁ B hml htab hv
  obtain ⟨rfl, ⟨⟨hsz, hP, hK, hD0⟩, hTh⟩, hN⟩ := hv
  have hx := B.exec
  have hb := B.bytes
  have hr := B.returns
  have hts := atoms_spec (ws := wsL_runAt) B.pre
  have hown : s.vm.findClass RL = some m.cls := findClass_of_methodNamed B.named
  have hlocks := B.notSynchronized
  subst hsz
  have hD := hD0.self (sz := s.heap.size)
  have hA : ∀ z9 : Nat, s.heap.size ≤ z9 → va_A (([wo cs ao o] ++ w4 cs a y).flatten) s.heap.size z9 := fun z9 h => Or.inr h
  have hS : va_S (va_A (([wo cs ao o] ++ w4 cs a y).flatten) s.heap.size) s.heap s.heap [] := va_S.rf
  have hl := lv_entry [.ref (a 0), .int (iI p0), .ref ao] (n := 4) (Nat.le_of_ble_eq_true rfl)
  rw [lg_entry_eq]
  generalize (lg_sl [.ref (a 0), .int (iI p0), .ref ao] ++ List.replicate (4 - (lg_sl [.ref (a 0), .int (iI p0), .ref ao]).length) Slot.unset).toArray = ls at hl ⊢
  have hl : lv_has ls 4 [(0, .ref (a 0)), (1, .int (iI p0)), (2, .ref ao)] := hl
  unfold fL_runAt at hf
  refine lv_aload_n hx hb dL_runAt_0 rfl (lv_at hl 2 rfl) ?_
  refine xk_iconst hx hb dL_runAt_1 ?_
  refine lv_aload_n hx hb dL_runAt_2 rfl (lv_at hl 0 rfl) ?_
  refine lv_iload_n hx hb dL_runAt_3 rfl (lv_at hl 1 rfl) ?_
  obtain ⟨⟨c9, v9, y9⟩, e9, hf⟩ := x_bind hf
  obtain ⟨ca, cb, ct, cf⟩ := x_eqE hf
  refine xf_xi (As := [.int (iI p0)]) (rest := [.int (iI 0), .ref ao]) (wcs := w4 cs a y) (w1s := w4 cs a y9) ⟨hx, hb, hml, hown, hts⟩ (c4_runAt l hlS dC dI cs a _ y p0 _ e9) (cwV 1 hts gL_runAt_X4_runAt rfl rfl rfl cdX4_runAt ⟨Nat.le_of_ble_eq_true rfl, Nat.le_of_ble_eq_true rfl⟩) hK hP hD hS hA hTh [1, 2, 3, 4, 5, 6, 7, 8, 9, 10] rfl rfl rfl (by decide) rfl rfl rfl rfl hl.1 rfl (Nat.le_of_ble_eq_true rfl) dL_runAt_4 ⟨Nat.le_of_ble_eq_true rfl, Nat.le_of_ble_eq_true rfl⟩ (fun hk H locs hP hS => ?_) (fun hk H locs q9 ce hP hS hce hcv hcl => ?_)
  · have hf := ct hk
    obtain ⟨hc, hf⟩ := x_ckE hf
    refine xk_i2l hx hb hc dL_runAt_7 ?_
    have hP : va_P (dC, dI) vwCl (([wo cs ao o] ++ w4 cs a y9).flatten) H := hP
    have hD : va_D (va_A (([wo cs ao o] ++ w4 cs a y).flatten) s.heap.size) (([wo cs ao o] ++ w4 cs a y9).flatten) := x_addrF hD rfl
    refine xk_last hx hb hK hP hD hS 0 3 (by decide) (by decide) (by decide) rfl rfl dL_runAt_8 (fun H locs hP hS => ?_)
    have hP : va_P (dC, dI) vwCl (([wo cs ao (x_up o 0 v9)] ++ w4 cs a y9).flatten) H := hP
    refine lv_goto (tgt := 15) hx hb dL_runAt_9 (by decide) ?_
    refine xk_iconst hx hb dL_runAt_15 ?_
    obtain rfl := Option.some.inj hf
    exact xe_wi hx hb hr hlocks hS hP dL_runAt_16
  · have hf := cf hk
    obtain ⟨c0a, c0b, c0t, c0f⟩ := x_eqE hf
    by_cases c0 : c9 = 4
    · have hf := c0t c0
      obtain rfl := Option.some.inj hf
      have hE : x_cl c9 = "java/lang/IndexOutOfBoundsException" := by rw [c0]; rfl
      rw [hE] at hcl
      refine vx_catch (own := RL) (name := "java/lang/IndexOutOfBoundsException") hown [] ⟨0, 9, 12, 46⟩ [] (htab.trans rfl) (fun z hz => by cases hz) (by decide) (by decide) (hts (.classLink RL 46 "java/lang/IndexOutOfBoundsException") (by decide +kernel)) (va_Nw.use (w := .castable "java/lang/IndexOutOfBoundsException" "java/lang/IndexOutOfBoundsException") rfl (hTh.1 _ (by decide))) hce hcv hcl ?_
      refine W.eq (g2 := F0 m 12 ls [.ref q9]) rfl ?_
      refine lv_astore_n (lv' := [(3, .ref q9), (0, .ref (a 0)), (1, .int (iI p0)), (2, .ref ao)]) hx hb dL_runAt_12 rfl hl (by decide) rfl (fun ls hl => ?_)
      refine xk_iconst hx hb dL_runAt_13 ?_
      exact xe_wi hx hb hr hlocks hS hP dL_runAt_14
    · have hf := c0f c0
      cases hf
theorem cdL_runAt : yL_runAt.cls ≠ "java/lang/invoke/MethodHandle" ∧ yL_runAt.cls ≠ "java/lang/invoke/VarHandle" ∧ (parseMethodDescriptor yL_runAt.desc).map (fun d => d.parameters.length) = some 3 := by decide +kernel

set_option maxHeartbeats 4000000 in
set_option maxRecDepth 100000 in
theorem kL_value (l : Launch) (hlS : l.stackTraces = false) (dC : Nat → ClassId) (dI : Nat → Nat → Nat) (cs : Nat → ClassId) (a : Nat → Nat) (ao sz : Nat) (y : BrS) (o : Int → Int) (p0 : Int) (res : Int × BrS × (Int → Int)) (hf : fL_value y o p0 = some res) : Met l yL_value wsL_value ({ frames := 7, cells := 1, slots := 6, locals := 103 } : Room) (va_Pc [.ref (a 0), .int (iI p0), .ref ao] (xPL (dC, dI) vwCl (([wo cs ao o] ++ w4 cs a y).flatten) (xT cs) sz)) (xQi (dC, dI) vwCl (([wo cs ao o] ++ w4 cs a y).flatten) (([wo cs ao res.2.2] ++ w4 cs a res.2.1).flatten) sz res.1) 1 6 (va_A (([wo cs ao o] ++ w4 cs a y).flatten) sz) := by
  refine x_ofWH (cc := cL_value) (maxL := 4) (ret := some .int) (hh := [(0, 9, 12, 13)]) (by decide) rfl ?_
  intro p e s m args below meth c s₁ B hml htab hv
  obtain ⟨rfl, ⟨⟨hsz, hP, hK, hD0⟩, hTh⟩, hN⟩ := hv
  have hx := B.exec
  have hb := B.bytes
  have hr := B.returns
  have hts := atoms_spec (ws := wsL_value) B.pre
  have hown : s.vm.findClass RL = some m.cls := findClass_of_methodNamed B.named
  have hlocks := B.notSynchronized
  subst hsz
  have hD := hD0.self (sz := s.heap.size)
  have hA : ∀ z9 : Nat, s.heap.size ≤ z9 → va_A (([wo cs ao o] ++ w4 cs a y).flatten) s.heap.size z9 := fun z9 h => Or.inr h
  have hS : va_S (va_A (([wo cs ao o] ++ w4 cs a y).flatten) s.heap.size) s.heap s.heap [] := va_S.rf
  have hl := lv_entry [.ref (a 0), .int (iI p0), .ref ao] (n := 4) (Nat.le_of_ble_eq_true rfl)
  rw [lg_entry_eq]
  generalize (lg_sl [.ref (a 0), .int (iI p0), .ref ao] ++ List.replicate (4 - (lg_sl [.ref (a 0), .int (iI p0), .ref ao]).length) Slot.unset).toArray = ls at hl ⊢
  have hl : lv_has ls 4 [(0, .ref (a 0)), (1, .int (iI p0)), (2, .ref ao)] := hl
  unfold fL_value at hf
  refine lv_aload_n hx hb dL_value_0 rfl (lv_at hl 2 rfl) ?_
  refine xk_iconst hx hb dL_value_1 ?_
  refine lv_aload_n hx hb dL_value_2 rfl (lv_at hl 0 rfl) ?_
  refine lv_iload_n hx hb dL_value_3 rfl (lv_at hl 1 rfl) ?_
  obtain ⟨⟨c9, v9, y9⟩, e9, hf⟩ := x_bind hf
  obtain ⟨ca, cb, ct, cf⟩ := x_eqE hf
  refine xf_xi (As := [.int (iI p0)]) (rest := [.int (iI 0), .ref ao]) (wcs := w4 cs a y) (w1s := w4 cs a y9) ⟨hx, hb, hml, hown, hts⟩ (c4_value l hlS dC dI cs a _ y p0 _ e9) (cwV 1 hts gL_value_X4_value rfl rfl rfl cdX4_value ⟨Nat.le_of_ble_eq_true rfl, Nat.le_of_ble_eq_true rfl⟩) hK hP hD hS hA hTh [1, 2, 3, 4, 5, 6, 7, 8, 9, 10] rfl rfl rfl (by decide) rfl rfl rfl rfl hl.1 rfl (Nat.le_of_ble_eq_true rfl) dL_value_4 ⟨Nat.le_of_ble_eq_true rfl, Nat.le_of_ble_eq_true rfl⟩ (fun hk H locs hP hS => ?_) (fun hk H locs q9 ce hP hS hce hcv hcl => ?_)
  · have hf := ct hk
    obtain ⟨hc, hf⟩ := x_ckE hf
    refine xk_i2l hx hb hc dL_value_7 ?_
    have hP : va_P (dC, dI) vwCl (([wo cs ao o] ++ w4 cs a y9).flatten) H := hP
    have hD : va_D (va_A (([wo cs ao o] ++ w4 cs a y).flatten) s.heap.size) (([wo cs ao o] ++ w4 cs a y9).flatten) := x_addrF hD rfl
    refine xk_last hx hb hK hP hD hS 0 3 (by decide) (by decide) (by decide) rfl rfl dL_value_8 (fun H locs hP hS => ?_)
    have hP : va_P (dC, dI) vwCl (([wo cs ao (x_up o 0 v9)] ++ w4 cs a y9).flatten) H := hP
    refine lv_goto (tgt := 15) hx hb dL_value_9 (by decide) ?_
    refine xk_iconst hx hb dL_value_15 ?_
    obtain rfl := Option.some.inj hf
    exact xe_wi hx hb hr hlocks hS hP dL_value_16
  · have hf := cf hk
    obtain ⟨c0a, c0b, c0t, c0f⟩ := x_eqE hf
    by_cases c0 : c9 = 1
    · have hf := c0t c0
      obtain rfl := Option.some.inj hf
      have hE : x_cl c9 = "java/lang/IllegalArgumentException" := by rw [c0]; rfl
      rw [hE] at hcl
      refine vx_catch (own := RL) (name := "java/lang/IllegalArgumentException") hown [] ⟨0, 9, 12, 13⟩ [] (htab.trans rfl) (fun z hz => by cases hz) (by decide) (by decide) (hts (.classLink RL 13 "java/lang/IllegalArgumentException") (by decide +kernel)) (va_Nw.use (w := .castable "java/lang/IllegalArgumentException" "java/lang/IllegalArgumentException") rfl (hTh.1 _ (by decide))) hce hcv hcl ?_
      refine W.eq (g2 := F0 m 12 ls [.ref q9]) rfl ?_
      refine lv_astore_n (lv' := [(3, .ref q9), (0, .ref (a 0)), (1, .int (iI p0)), (2, .ref ao)]) hx hb dL_value_12 rfl hl (by decide) rfl (fun ls hl => ?_)
      refine xk_iconst hx hb dL_value_13 ?_
      exact xe_wi hx hb hr hlocks hS hP dL_value_14
    · have hf := c0f c0
      cases hf
theorem cdL_value : yL_value.cls ≠ "java/lang/invoke/MethodHandle" ∧ yL_value.cls ≠ "java/lang/invoke/VarHandle" ∧ (parseMethodDescriptor yL_value.desc).map (fun d => d.parameters.length) = some 3 := by decide +kernel

set_option maxHeartbeats 4000000 in
set_option maxRecDepth 100000 in
theorem kL_runsWith (l : Launch) (hlS : l.stackTraces = false) (dC : Nat → ClassId) (dI : Nat → Nat → Nat) (cs : Nat → ClassId) (a : Nat → Nat) (ao sz : Nat) (y : BrS) (o : Int → Int) (p0 : Int) (res : Int × BrS × (Int → Int)) (hf : fL_runsWith y o p0 = some res) : Met l yL_runsWith wsL_runsWith ({ frames := 7, cells := 1, slots := 6, locals := 135 } : Room) (va_Pc [.ref (a 0), .int (iI p0), .ref ao] (xPL (dC, dI) vwCl (([wo cs ao o] ++ w4 cs a y).flatten) (xT cs) sz)) (xQi (dC, dI) vwCl (([wo cs ao o] ++ w4 cs a y).flatten) (([wo cs ao res.2.2] ++ w4 cs a res.2.1).flatten) sz res.1) 1 6 (va_A (([wo cs ao o] ++ w4 cs a y).flatten) sz) := by
  refine x_ofWH (cc := cL_runsWith) (maxL := 4) (ret := some .int) (hh := [(0, 9, 12, 13)]) (by decide) rfl ?_
  intro p e s m args below meth c s₁ B hml htab hv
  obtain ⟨rfl, ⟨⟨hsz, hP, hK, hD0⟩, hTh⟩, hN⟩ := hv
  have hx := B.exec
  have hb := B.bytes
  have hr := B.returns
  have hts := atoms_spec (ws := wsL_runsWith) B.pre
  have hown : s.vm.findClass RL = some m.cls := findClass_of_methodNamed B.named
  have hlocks := B.notSynchronized
  subst hsz
  have hD := hD0.self (sz := s.heap.size)
  have hA : ∀ z9 : Nat, s.heap.size ≤ z9 → va_A (([wo cs ao o] ++ w4 cs a y).flatten) s.heap.size z9 := fun z9 h => Or.inr h
  have hS : va_S (va_A (([wo cs ao o] ++ w4 cs a y).flatten) s.heap.size) s.heap s.heap [] := va_S.rf
  have hl := lv_entry [.ref (a 0), .int (iI p0), .ref ao] (n := 4) (Nat.le_of_ble_eq_true rfl)
  rw [lg_entry_eq]
  generalize (lg_sl [.ref (a 0), .int (iI p0), .ref ao] ++ List.replicate (4 - (lg_sl [.ref (a 0), .int (iI p0), .ref ao]).length) Slot.unset).toArray = ls at hl ⊢
  have hl : lv_has ls 4 [(0, .ref (a 0)), (1, .int (iI p0)), (2, .ref ao)] := hl
  unfold fL_runsWith at hf
  refine lv_aload_n hx hb dL_runsWith_0 rfl (lv_at hl 2 rfl) ?_
  refine xk_iconst hx hb dL_runsWith_1 ?_
  refine lv_aload_n hx hb dL_runsWith_2 rfl (lv_at hl 0 rfl) ?_
  refine lv_iload_n hx hb dL_runsWith_3 rfl (lv_at hl 1 rfl) ?_
  obtain ⟨⟨c9, v9, y9⟩, e9, hf⟩ := x_bind hf
  obtain ⟨ca, cb, ct, cf⟩ := x_eqE hf
  refine xf_xi (As := [.int (iI p0)]) (rest := [.int (iI 0), .ref ao]) (wcs := w4 cs a y) (w1s := w4 cs a y9) ⟨hx, hb, hml, hown, hts⟩ (c4_runsWith l hlS dC dI cs a _ y p0 _ e9) (cwV 1 hts gL_runsWith_X4_runsWith rfl rfl rfl cdX4_runsWith ⟨Nat.le_of_ble_eq_true rfl, Nat.le_of_ble_eq_true rfl⟩) hK hP hD hS hA hTh [1, 2, 3, 4, 5, 6, 7, 8, 9, 10] rfl rfl rfl (by decide) rfl rfl rfl rfl hl.1 rfl (Nat.le_of_ble_eq_true rfl) dL_runsWith_4 ⟨Nat.le_of_ble_eq_true rfl, Nat.le_of_ble_eq_true rfl⟩ (fun hk H locs hP hS => ?_) (fun hk H locs q9 ce hP hS hce hcv hcl => ?_)
  · have hf := ct hk
    obtain ⟨hc, hf⟩ := x_ckE hf
    refine xk_i2l hx hb hc dL_runsWith_7 ?_
    have hP : va_P (dC, dI) vwCl (([wo cs ao o] ++ w4 cs a y9).flatten) H := hP
    have hD : va_D (va_A (([wo cs ao o] ++ w4 cs a y).flatten) s.heap.size) (([wo cs ao o] ++ w4 cs a y9).flatten) := x_addrF hD rfl
    refine xk_last hx hb hK hP hD hS 0 3 (by decide) (by decide) (by decide) rfl rfl dL_runsWith_8 (fun H locs hP hS => ?_)
    have hP : va_P (dC, dI) vwCl (([wo cs ao (x_up o 0 v9)] ++ w4 cs a y9).flatten) H := hP
    refine lv_goto (tgt := 15) hx hb dL_runsWith_9 (by decide) ?_
    refine xk_iconst hx hb dL_runsWith_15 ?_
    obtain rfl := Option.some.inj hf
    exact xe_wi hx hb hr hlocks hS hP dL_runsWith_16
  · have hf := cf hk
    obtain ⟨c0a, c0b, c0t, c0f⟩ := x_eqE hf
    by_cases c0 : c9 = 1
    · have hf := c0t c0
      obtain rfl := Option.some.inj hf
      have hE : x_cl c9 = "java/lang/IllegalArgumentException" := by rw [c0]; rfl
      rw [hE] at hcl
      refine vx_catch (own := RL) (name := "java/lang/IllegalArgumentException") hown [] ⟨0, 9, 12, 13⟩ [] (htab.trans rfl) (fun z hz => by cases hz) (by decide) (by decide) (hts (.classLink RL 13 "java/lang/IllegalArgumentException") (by decide +kernel)) (va_Nw.use (w := .castable "java/lang/IllegalArgumentException" "java/lang/IllegalArgumentException") rfl (hTh.1 _ (by decide))) hce hcv hcl ?_
      refine W.eq (g2 := F0 m 12 ls [.ref q9]) rfl ?_
      refine lv_astore_n (lv' := [(3, .ref q9), (0, .ref (a 0)), (1, .int (iI p0)), (2, .ref ao)]) hx hb dL_runsWith_12 rfl hl (by decide) rfl (fun ls hl => ?_)
      refine xk_iconst hx hb dL_runsWith_13 ?_
      exact xe_wi hx hb hr hlocks hS hP dL_runsWith_14
    · have hf := c0f c0
      cases hf
theorem cdL_runsWith : yL_runsWith.cls ≠ "java/lang/invoke/MethodHandle" ∧ yL_runsWith.cls ≠ "java/lang/invoke/VarHandle" ∧ (parseMethodDescriptor yL_runsWith.desc).map (fun d => d.parameters.length) = some 3 := by decide +kernel

set_option maxHeartbeats 4000000 in
set_option maxRecDepth 100000 in
theorem kL_append (l : Launch) (hlS : l.stackTraces = false) (dC : Nat → ClassId) (dI : Nat → Nat → Nat) (cs : Nat → ClassId) (a : Nat → Nat) (ao sz : Nat) (y : BrS) (o : Int → Int) (p0 : Int) (res : Int × BrS × (Int → Int)) (hf : fL_append y o p0 = some res) : Met l yL_append wsL_append ({ frames := 7, cells := 1, slots := 6, locals := 103 } : Room) (va_Pc [.ref (a 0), .int (iI p0), .ref ao] (xPL (dC, dI) vwCl (([wo cs ao o] ++ w4 cs a y).flatten) (xT cs) sz)) (xQi (dC, dI) vwCl (([wo cs ao o] ++ w4 cs a y).flatten) (([wo cs ao res.2.2] ++ w4 cs a res.2.1).flatten) sz res.1) 1 6 (va_A (([wo cs ao o] ++ w4 cs a y).flatten) sz) := by
  refine x_ofWH (cc := cL_append) (maxL := 4) (ret := some .int) (hh := [(0, 9, 12, 13), (0, 9, 15, 19)]) (by decide) rfl ?_
  intro p e s m args below meth c s₁ B hml htab hv
  obtain ⟨rfl, ⟨⟨hsz, hP, hK, hD0⟩, hTh⟩, hN⟩ := hv
  have hx := B.exec
  have hb := B.bytes
  have hr := B.returns
  have hts := atoms_spec (ws := wsL_append) B.pre
  have hown : s.vm.findClass RL = some m.cls := findClass_of_methodNamed B.named
  have hlocks := B.notSynchronized
  subst hsz
  have hD := hD0.self (sz := s.heap.size)
  have hA : ∀ z9 : Nat, s.heap.size ≤ z9 → va_A (([wo cs ao o] ++ w4 cs a y).flatten) s.heap.size z9 := fun z9 h => Or.inr h
  have hS : va_S (va_A (([wo cs ao o] ++ w4 cs a y).flatten) s.heap.size) s.heap s.heap [] := va_S.rf
  have hl := lv_entry [.ref (a 0), .int (iI p0), .ref ao] (n := 4) (Nat.le_of_ble_eq_true rfl)
  rw [lg_entry_eq]
  generalize (lg_sl [.ref (a 0), .int (iI p0), .ref ao] ++ List.replicate (4 - (lg_sl [.ref (a 0), .int (iI p0), .ref ao]).length) Slot.unset).toArray = ls at hl ⊢
  have hl : lv_has ls 4 [(0, .ref (a 0)), (1, .int (iI p0)), (2, .ref ao)] := hl
  unfold fL_append at hf
  refine lv_aload_n hx hb dL_append_0 rfl (lv_at hl 2 rfl) ?_
  refine xk_iconst hx hb dL_append_1 ?_
  refine lv_aload_n hx hb dL_append_2 rfl (lv_at hl 0 rfl) ?_
  refine lv_iload_n hx hb dL_append_3 rfl (lv_at hl 1 rfl) ?_
  obtain ⟨⟨c9, v9, y9⟩, e9, hf⟩ := x_bind hf
  obtain ⟨ca, cb, ct, cf⟩ := x_eqE hf
  refine xf_xi (As := [.int (iI p0)]) (rest := [.int (iI 0), .ref ao]) (wcs := w4 cs a y) (w1s := w4 cs a y9) ⟨hx, hb, hml, hown, hts⟩ (c4_append l hlS dC dI cs a _ y p0 _ e9) (cwV 1 hts gL_append_X4_append rfl rfl rfl cdX4_append ⟨Nat.le_of_ble_eq_true rfl, Nat.le_of_ble_eq_true rfl⟩) hK hP hD hS hA hTh [1, 2, 3, 4, 5, 6, 7, 8, 9, 10] rfl rfl rfl (by decide) rfl rfl rfl rfl hl.1 rfl (Nat.le_of_ble_eq_true rfl) dL_append_4 ⟨Nat.le_of_ble_eq_true rfl, Nat.le_of_ble_eq_true rfl⟩ (fun hk H locs hP hS => ?_) (fun hk H locs q9 ce hP hS hce hcv hcl => ?_)
  · have hf := ct hk
    obtain ⟨hc, hf⟩ := x_ckE hf
    refine xk_i2l hx hb hc dL_append_7 ?_
    have hP : va_P (dC, dI) vwCl (([wo cs ao o] ++ w4 cs a y9).flatten) H := hP
    have hD : va_D (va_A (([wo cs ao o] ++ w4 cs a y).flatten) s.heap.size) (([wo cs ao o] ++ w4 cs a y9).flatten) := x_addrF hD rfl
    refine xk_last hx hb hK hP hD hS 0 3 (by decide) (by decide) (by decide) rfl rfl dL_append_8 (fun H locs hP hS => ?_)
    have hP : va_P (dC, dI) vwCl (([wo cs ao (x_up o 0 v9)] ++ w4 cs a y9).flatten) H := hP
    refine lv_goto (tgt := 18) hx hb dL_append_9 (by decide) ?_
    refine xk_iconst hx hb dL_append_18 ?_
    obtain rfl := Option.some.inj hf
    exact xe_wi hx hb hr hlocks hS hP dL_append_19
  · have hf := cf hk
    obtain ⟨c0a, c0b, c0t, c0f⟩ := x_eqE hf
    by_cases c0 : c9 = 1
    · have hf := c0t c0
      obtain rfl := Option.some.inj hf
      have hE : x_cl c9 = "java/lang/IllegalArgumentException" := by rw [c0]; rfl
      rw [hE] at hcl
      refine vx_catch (own := RL) (name := "java/lang/IllegalArgumentException") hown [] ⟨0, 9, 12, 13⟩ [⟨0, 9, 15, 19⟩] (htab.trans rfl) (fun z hz => by cases hz) (by decide) (by decide) (hts (.classLink RL 13 "java/lang/IllegalArgumentException") (by decide +kernel)) (va_Nw.use (w := .castable "java/lang/IllegalArgumentException" "java/lang/IllegalArgumentException") rfl (hTh.1 _ (by decide))) hce hcv hcl ?_
      refine W.eq (g2 := F0 m 12 ls [.ref q9]) rfl ?_
      refine lv_astore_n (lv' := [(3, .ref q9), (0, .ref (a 0)), (1, .int (iI p0)), (2, .ref ao)]) hx hb dL_append_12 rfl hl (by decide) rfl (fun ls hl => ?_)
      refine xk_iconst hx hb dL_append_13 ?_
      exact xe_wi hx hb hr hlocks hS hP dL_append_14
    · have hf := c0f c0
      obtain ⟨c1a, c1b, c1t, c1f⟩ := x_eqE hf
      by_cases c1 : c9 = 2
      · have hf := c1t c1
        obtain rfl := Option.some.inj hf
        have hE : x_cl c9 = "java/lang/IllegalStateException" := by rw [c1]; rfl
        rw [hE] at hcl
        refine vx_catch (own := RL) (name := "java/lang/IllegalStateException") hown [⟨0, 9, 12, 13⟩] ⟨0, 9, 15, 19⟩ [] (htab.trans rfl) (fun z hz => by rcases List.mem_singleton.mp hz with rfl; exact Or.inr ⟨by decide, "java/lang/IllegalArgumentException", hts (.classLink RL 13 "java/lang/IllegalArgumentException") (by decide +kernel), hN ("java/lang/IllegalStateException", "java/lang/IllegalArgumentException") (by decide)⟩) (by decide) (by decide) (hts (.classLink RL 19 "java/lang/IllegalStateException") (by decide +kernel)) (va_Nw.use (w := .castable "java/lang/IllegalStateException" "java/lang/IllegalStateException") rfl (hTh.1 _ (by decide))) hce hcv hcl ?_
        refine W.eq (g2 := F0 m 15 ls [.ref q9]) rfl ?_
        refine lv_astore_n (lv' := [(3, .ref q9), (0, .ref (a 0)), (1, .int (iI p0)), (2, .ref ao)]) hx hb dL_append_15 rfl hl (by decide) rfl (fun ls hl => ?_)
        refine xk_iconst hx hb dL_append_16 ?_
        exact xe_wi hx hb hr hlocks hS hP dL_append_17
      · have hf := c1f c1
        cases hf
theorem cdL_append : yL_append.cls ≠ "java/lang/invoke/MethodHandle" ∧ yL_append.cls ≠ "java/lang/invoke/VarHandle" ∧ (parseMethodDescriptor yL_append.desc).map (fun d => d.parameters.length) = some 3 := by decide +kernel

set_option maxHeartbeats 4000000 in
set_option maxRecDepth 100000 in
theorem kL_undo (l : Launch) (hlS : l.stackTraces = false) (dC : Nat → ClassId) (dI : Nat → Nat → Nat) (cs : Nat → ClassId) (a : Nat → Nat) (ao sz : Nat) (y : BrS) (o : Int → Int) (res : Int × BrS × (Int → Int)) (hf : fL_undo y o = some res) : Met l yL_undo wsL_undo ({ frames := 7, cells := 1, slots := 6, locals := 102 } : Room) (va_Pc [.ref (a 0), .ref ao] (xPL (dC, dI) vwCl (([wo cs ao o] ++ w4 cs a y).flatten) (xT cs) sz)) (xQi (dC, dI) vwCl (([wo cs ao o] ++ w4 cs a y).flatten) (([wo cs ao res.2.2] ++ w4 cs a res.2.1).flatten) sz res.1) 1 6 (va_A (([wo cs ao o] ++ w4 cs a y).flatten) sz) := by
  refine x_ofWH (cc := cL_undo) (maxL := 3) (ret := some .int) (hh := [(0, 8, 11, 19)]) (by decide) rfl ?_
  intro p e s m args below meth c s₁ B hml htab hv
  obtain ⟨rfl, ⟨⟨hsz, hP, hK, hD0⟩, hTh⟩, hN⟩ := hv
  have hx := B.exec
  have hb := B.bytes
  have hr := B.returns
  have hts := atoms_spec (ws := wsL_undo) B.pre
  have hown : s.vm.findClass RL = some m.cls := findClass_of_methodNamed B.named
  have hlocks := B.notSynchronized
  subst hsz
  have hD := hD0.self (sz := s.heap.size)
  have hA : ∀ z9 : Nat, s.heap.size ≤ z9 → va_A (([wo cs ao o] ++ w4 cs a y).flatten) s.heap.size z9 := fun z9 h => Or.inr h
  have hS : va_S (va_A (([wo cs ao o] ++ w4 cs a y).flatten) s.heap.size) s.heap s.heap [] := va_S.rf
  have hl := lv_entry [.ref (a 0), .ref ao] (n := 3) (Nat.le_of_ble_eq_true rfl)
  rw [lg_entry_eq]
  generalize (lg_sl [.ref (a 0), .ref ao] ++ List.replicate (3 - (lg_sl [.ref (a 0), .ref ao]).length) Slot.unset).toArray = ls at hl ⊢
  have hl : lv_has ls 3 [(0, .ref (a 0)), (1, .ref ao)] := hl
  unfold fL_undo at hf
  refine lv_aload_n hx hb dL_undo_0 rfl (lv_at hl 1 rfl) ?_
  refine xk_iconst hx hb dL_undo_1 ?_
  refine lv_aload_n hx hb dL_undo_2 rfl (lv_at hl 0 rfl) ?_
  obtain ⟨⟨c9, v9, y9⟩, e9, hf⟩ := x_bind hf
  obtain ⟨ca, cb, ct, cf⟩ := x_eqE hf
  refine xf_xi (As := []) (rest := [.int (iI 0), .ref ao]) (wcs := w4 cs a y) (w1s := w4 cs a y9) ⟨hx, hb, hml, hown, hts⟩ (c4_undo l hlS dC dI cs a _ y _ e9) (cwV 0 hts gL_undo_X4_undo rfl rfl rfl cdX4_undo ⟨Nat.le_of_ble_eq_true rfl, Nat.le_of_ble_eq_true rfl⟩) hK hP hD hS hA hTh [1, 2, 3, 4, 5, 6, 7, 8, 9, 10] rfl rfl rfl (by decide) rfl rfl rfl rfl hl.1 rfl (Nat.le_of_ble_eq_true rfl) dL_undo_3 ⟨Nat.le_of_ble_eq_true rfl, Nat.le_of_ble_eq_true rfl⟩ (fun hk H locs hP hS => ?_) (fun hk H locs q9 ce hP hS hce hcv hcl => ?_)
  · have hf := ct hk
    obtain ⟨hc, hf⟩ := x_ckE hf
    refine xk_i2l hx hb hc dL_undo_6 ?_
    have hP : va_P (dC, dI) vwCl (([wo cs ao o] ++ w4 cs a y9).flatten) H := hP
    have hD : va_D (va_A (([wo cs ao o] ++ w4 cs a y).flatten) s.heap.size) (([wo cs ao o] ++ w4 cs a y9).flatten) := x_addrF hD rfl
    refine xk_last hx hb hK hP hD hS 0 3 (by decide) (by decide) (by decide) rfl rfl dL_undo_7 (fun H locs hP hS => ?_)
    have hP : va_P (dC, dI) vwCl (([wo cs ao (x_up o 0 v9)] ++ w4 cs a y9).flatten) H := hP
    refine lv_goto (tgt := 14) hx hb dL_undo_8 (by decide) ?_
    refine xk_iconst hx hb dL_undo_14 ?_
    obtain rfl := Option.some.inj hf
    exact xe_wi hx hb hr hlocks hS hP dL_undo_15
  · have hf := cf hk
    obtain ⟨c0a, c0b, c0t, c0f⟩ := x_eqE hf
    by_cases c0 : c9 = 2
    · have hf := c0t c0
      obtain rfl := Option.some.inj hf
      have hE : x_cl c9 = "java/lang/IllegalStateException" := by rw [c0]; rfl
      rw [hE] at hcl
      refine vx_catch (own := RL) (name := "java/lang/IllegalStateException") hown [] ⟨0, 8, 11, 19⟩ [] (htab.trans rfl) (fun z hz => by cases hz) (by decide) (by decide) (hts (.classLink RL 19 "java/lang/IllegalStateException") (by decide +kernel)) (va_Nw.use (w := .castable "java/lang/IllegalStateException" "java/lang/IllegalStateException") rfl (hTh.1 _ (by decide))) hce hcv hcl ?_
      refine W.eq (g2 := F0 m 11 ls [.ref q9]) rfl ?_
      refine lv_astore_n (lv' := [(2, .ref q9), (0, .ref (a 0)), (1, .ref ao)]) hx hb dL_undo_11 rfl hl (by decide) rfl (fun ls hl => ?_)
      refine xk_iconst hx hb dL_undo_12 ?_
      exact xe_wi hx hb hr hlocks hS hP dL_undo_13
    · have hf := c0f c0
      cases hf
theorem cdL_undo : yL_undo.cls ≠ "java/lang/invoke/MethodHandle" ∧ yL_undo.cls ≠ "java/lang/invoke/VarHandle" ∧ (parseMethodDescriptor yL_undo.desc).map (fun d => d.parameters.length) = some 2 := by decide +kernel


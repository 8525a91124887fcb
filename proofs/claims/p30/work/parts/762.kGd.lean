set_option maxHeartbeats 8000000 in
set_option maxRecDepth 100000 in
theorem kG_d {p : Program} {e : Env} {s : State} {m : MethodId} {below : List Frame} {meth : Method} {c : Code} {b L : Nat} {xs : Nat → Int32} (l : Launch) (hlS : l.stackTraces = false) (dC : Nat → ClassId) (dI : Nat → Nat → Nat) (cs : Nat → ClassId) (aa ah af ao : Nat) (a : Nat → Nat) (hLb : L ≤ 260) (hx : p.tables.exec = Jvm.exec) (hb : c.code = cL_law) (hml : c.maxLocals = 11) (hown : s.vm.findClass RL = some m.cls) (hts : ∀ w ∈ wsL_law, w.before #[Value.ref b] s = true) (hX : va_X b L xs s s.heap) (hbl : b < s.heap.size) (hTh : xTh (fun z9 : Nat => s.heap.size ≤ z9) s) (hN : ∀ q ∈ x_ncs, va_Nc q.1 q.2 s) (hK : va_K (dC, dI) vwCl (xT cs) s) {Q : State → Prop} (va : Int → Int) (vh : Int → Int) (vf : Int → Int) (vo : Int → Int) (y : BrS) (p7 : Int) (p9 : Int) (res : Int × (Int → Int) × (Int → Int) × (Int → Int) × (Int → Int) × BrS) (hf : fG_d (x_sc xs) (L : Int) va vh vf vo y p7 p9 = some res) {cells0 slots0 : Nat} (hc : cells0 + 5979 ≤ 791945 ∧ slots0 + 35859 ≤ 6725633) {H : Heap} {locs : List Loc} {ls : Array Slot} (hP : va_P (dC, dI) vwCl (([[qcC cs aa 64 va], [qcC cs ah 8 vh], [qcC cs af 64 vf], [qcC cs ao 1 vo]] ++ w4 cs a y).flatten) H) (hD : va_D (fun z9 : Nat => s.heap.size ≤ z9) (([[qcC cs aa 64 va], [qcC cs ah 8 vh], [qcC cs af 64 vf], [qcC cs ao 1 vo]] ++ w4 cs a y).flatten)) (hS : va_S (fun z9 : Nat => s.heap.size ≤ z9) s.heap H locs) (hl : lv_has ls 11 [(0, .ref b), (1, .ref (a 0)), (2, .ref aa), (3, .ref ah), (4, .ref af), (7, .int (iI p7)), (9, .int (iI p9))])
    (hkk : ∀ (H : Heap) (locs : List Loc) (ls : Array Slot), va_P (dC, dI) vwCl (([[qcC cs aa 64 res.2.1], [qcC cs ah 8 res.2.2.1], [qcC cs af 64 res.2.2.2.1], [qcC cs ao 1 res.2.2.2.2.1]] ++ w4 cs a res.2.2.2.2.2).flatten) H → va_S (fun z9 : Nat => s.heap.size ≤ z9) s.heap H locs → lv_has ls 11 [(0, .ref b), (1, .ref (a 0)), (2, .ref aa), (3, .ref ah), (4, .ref af), (7, .int (iI res.1))] → W p l e room_1 s m #[Value.ref b] below meth c H locs (cells0 + 5979) (slots0 + 35859) Q (F0 m 369 ls [])) : W p l e room_1 s m #[Value.ref b] below meth c H locs cells0 slots0 Q (F0 m 315 ls []) := by
  have hA : ∀ z9 : Nat, s.heap.size ≤ z9 → (fun z9 : Nat => s.heap.size ≤ z9) z9 := fun z9 h => h
  have hbA : ¬ (fun z9 : Nat => s.heap.size ≤ z9) b := Nat.not_le.mpr hbl
  obtain ⟨hc1, hc2⟩ := hc
  unfold fG_d at hf
  refine lv_iload hx hb dL_law_315 (lv_at hl 6 rfl) ?_
  obtain ⟨c1a, c1b, c1t, c1f⟩ := x_eqE hf
  refine xk_if_eq (tgt := 367) hx hb c1a dL_law_317 (by decide) (fun c1 => ?_) (fun c1 => ?_)
  · have hf := c1t c1
    refine xk_iconst hx hb dL_law_367 ?_
    cases hf
  · have hf := c1f c1
    refine lv_iload hx hb dL_law_320 (lv_at hl 5 rfl) ?_
    refine xk_iconst hx hb dL_law_322 ?_
    obtain ⟨v2, ev2, hf⟩ := x_bind hf
    refine xk_irem hx hb ev2 dL_law_323 ?_
    refine xk_iconst hx hb dL_law_324 ?_
    obtain ⟨c3a, c3b, c3t, c3f⟩ := x_eqE hf
    refine xk_icmp_ne (tgt := 337) hx hb c3a c3b dL_law_325 (by decide) (fun c3 => ?_) (fun c3 => ?_)
    · have hf := c3t c3
      refine lv_aload_n hx hb dL_law_328 rfl (lv_at hl 1 rfl) ?_
      refine lv_aload_n hx hb dL_law_329 rfl (lv_at hl 2 rfl) ?_
      refine lv_aload_n hx hb dL_law_330 rfl (lv_at hl 3 rfl) ?_
      obtain ⟨⟨v5, y4⟩, ev5, hf⟩ := x_bind hf
      refine xf_sp (As := [.ref (a 0), .ref aa, .ref ah]) (rest := []) (wcs := [[qcC cs aa 64 va], [qcC cs ah 8 vh]] ++ w4 cs a y) (w1s := [[qcC cs aa 64 va], [qcC cs ah 8 vh]] ++ w4 cs a y4) ⟨hx, hb, hml, hown, hts⟩ (kL_areParcels l hlS dC dI cs aa ah a H.size va vh y _ ev5) (va_cwS 3 hts gL_law_L_areParcels rfl rfl rfl cdL_areParcels ⟨Nat.le_of_ble_eq_true rfl, Nat.le_of_ble_eq_true rfl⟩) hK hP (x_addrF hD rfl) hS hA hTh hN [0, 1, 4, 5, 6, 7, 8, 9, 10, 11, 12, 13] rfl rfl rfl (by decide) rfl rfl hl.1 rfl (Nat.le_of_ble_eq_true rfl) dL_law_331 ⟨by show _ ≤ 791945; omega, by show _ ≤ 6725633; omega⟩ (fun H locs hP hS => ?_)
      have hP : va_P (dC, dI) vwCl (([[qcC cs aa 64 va], [qcC cs ah 8 vh], [qcC cs af 64 vf], [qcC cs ao 1 vo]] ++ w4 cs a y4).flatten) H := hP
      obtain ⟨c6a, c6b, c6t, c6f⟩ := x_eqE hf
      refine xk_if_eq (tgt := 367) hx hb c6a dL_law_334 (by decide) (fun c6 => ?_) (fun c6 => ?_)
      · have hf := c6t c6
        refine xk_iconst hx hb dL_law_367 ?_
        cases hf
      · have hf := c6f c6
        refine lv_iload hx hb dL_law_337 (lv_at hl 5 rfl) ?_
        refine xk_iconst hx hb dL_law_339 ?_
        obtain ⟨v7, ev7, hf⟩ := x_bind hf
        refine xk_irem hx hb ev7 dL_law_340 ?_
        refine xk_iconst hx hb dL_law_341 ?_
        obtain ⟨c8a, c8b, c8t, c8f⟩ := x_eqE hf
        refine xk_icmp_ne (tgt := 356) hx hb c8a c8b dL_law_342 (by decide) (fun c8 => ?_) (fun c8 => ?_)
        · have hf := c8t c8
          refine lv_aload_n hx hb dL_law_345 rfl (lv_at hl 1 rfl) ?_
          refine lv_aload_n hx hb dL_law_346 rfl (lv_at hl 2 rfl) ?_
          refine lv_aload_n hx hb dL_law_347 rfl (lv_at hl 3 rfl) ?_
          refine lv_aload hx hb dL_law_348 (lv_at hl 4 rfl) ?_
          obtain ⟨⟨v10, y9⟩, ev10, hf⟩ := x_bind hf
          refine xf_sp (As := [.ref (a 0), .ref aa, .ref ah, .ref af]) (rest := []) (wcs := [[qcC cs aa 64 va], [qcC cs ah 8 vh], [qcC cs af 64 vf]] ++ w4 cs a y4) (w1s := [[qcC cs aa 64 va], [qcC cs ah 8 vh], [qcC cs af 64 vf]] ++ w4 cs a y9) ⟨hx, hb, hml, hown, hts⟩ (kL_areRuns l hlS dC dI cs aa ah af a H.size va vh vf y4 _ ev10) (va_cwS 4 hts gL_law_L_areRuns rfl rfl rfl cdL_areRuns ⟨Nat.le_of_ble_eq_true rfl, Nat.le_of_ble_eq_true rfl⟩) hK hP (x_addrF hD rfl) hS hA hTh hN [0, 1, 2, 4, 5, 6, 7, 8, 9, 10, 11, 12, 13] rfl rfl rfl (by decide) rfl rfl hl.1 rfl (Nat.le_of_ble_eq_true rfl) dL_law_350 ⟨by show _ ≤ 791945; omega, by show _ ≤ 6725633; omega⟩ (fun H locs hP hS => ?_)
          have hP : va_P (dC, dI) vwCl (([[qcC cs aa 64 va], [qcC cs ah 8 vh], [qcC cs af 64 vf], [qcC cs ao 1 vo]] ++ w4 cs a y9).flatten) H := hP
          obtain ⟨c11a, c11b, c11t, c11f⟩ := x_eqE hf
          refine xk_if_eq (tgt := 367) hx hb c11a dL_law_353 (by decide) (fun c11 => ?_) (fun c11 => ?_)
          · have hf := c11t c11
            refine xk_iconst hx hb dL_law_367 ?_
            cases hf
          · have hf := c11f c11
            refine lv_aload_n hx hb dL_law_356 rfl (lv_at hl 1 rfl) ?_
            refine lv_aload_n hx hb dL_law_357 rfl (lv_at hl 2 rfl) ?_
            refine lv_aload_n hx hb dL_law_358 rfl (lv_at hl 3 rfl) ?_
            refine lv_aload hx hb dL_law_359 (lv_at hl 4 rfl) ?_
            obtain ⟨⟨v13, y12⟩, ev13, hf⟩ := x_bind hf
            refine xf_sp (As := [.ref (a 0), .ref aa, .ref ah, .ref af]) (rest := []) (wcs := [[qcC cs aa 64 va], [qcC cs ah 8 vh], [qcC cs af 64 vf]] ++ w4 cs a y9) (w1s := [[qcC cs aa 64 va], [qcC cs ah 8 vh], [qcC cs af 64 vf]] ++ w4 cs a y12) ⟨hx, hb, hml, hown, hts⟩ (kL_areValues l hlS dC dI cs aa ah af a H.size va vh vf y9 _ ev13) (va_cwS 4 hts gL_law_L_areValues rfl rfl rfl cdL_areValues ⟨Nat.le_of_ble_eq_true rfl, Nat.le_of_ble_eq_true rfl⟩) hK hP (x_addrF hD rfl) hS hA hTh hN [0, 1, 2, 4, 5, 6, 7, 8, 9, 10, 11, 12, 13] rfl rfl rfl (by decide) rfl rfl hl.1 rfl (Nat.le_of_ble_eq_true rfl) dL_law_361 ⟨by show _ ≤ 791945; omega, by show _ ≤ 6725633; omega⟩ (fun H locs hP hS => ?_)
            have hP : va_P (dC, dI) vwCl (([[qcC cs aa 64 va], [qcC cs ah 8 vh], [qcC cs af 64 vf], [qcC cs ao 1 vo]] ++ w4 cs a y12).flatten) H := hP
            obtain ⟨c14a, c14b, c14t, c14f⟩ := x_eqE hf
            refine xk_if_ne (tgt := 369) hx hb c14a dL_law_364 (by decide) (fun c14 => ?_) (fun c14 => ?_)
            · have hf := c14t c14
              refine xk_iconst hx hb dL_law_367 ?_
              cases hf
            · have hf := c14f c14
              obtain rfl := Option.some.inj hf
              refine W.widen (k := cells0 + 5979) (n := slots0 + 35859) (by omega) (by omega) ?_
              exact hkk _ _ _ hP hS (lv_sub hl [0, 1, 2, 3, 4, 5] rfl)
        · have hf := c8f c8
          refine lv_aload_n hx hb dL_law_356 rfl (lv_at hl 1 rfl) ?_
          refine lv_aload_n hx hb dL_law_357 rfl (lv_at hl 2 rfl) ?_
          refine lv_aload_n hx hb dL_law_358 rfl (lv_at hl 3 rfl) ?_
          refine lv_aload hx hb dL_law_359 (lv_at hl 4 rfl) ?_
          obtain ⟨⟨v16, y15⟩, ev16, hf⟩ := x_bind hf
          refine xf_sp (As := [.ref (a 0), .ref aa, .ref ah, .ref af]) (rest := []) (wcs := [[qcC cs aa 64 va], [qcC cs ah 8 vh], [qcC cs af 64 vf]] ++ w4 cs a y4) (w1s := [[qcC cs aa 64 va], [qcC cs ah 8 vh], [qcC cs af 64 vf]] ++ w4 cs a y15) ⟨hx, hb, hml, hown, hts⟩ (kL_areValues l hlS dC dI cs aa ah af a H.size va vh vf y4 _ ev16) (va_cwS 4 hts gL_law_L_areValues rfl rfl rfl cdL_areValues ⟨Nat.le_of_ble_eq_true rfl, Nat.le_of_ble_eq_true rfl⟩) hK hP (x_addrF hD rfl) hS hA hTh hN [0, 1, 2, 4, 5, 6, 7, 8, 9, 10, 11, 12, 13] rfl rfl rfl (by decide) rfl rfl hl.1 rfl (Nat.le_of_ble_eq_true rfl) dL_law_361 ⟨by show _ ≤ 791945; omega, by show _ ≤ 6725633; omega⟩ (fun H locs hP hS => ?_)
          have hP : va_P (dC, dI) vwCl (([[qcC cs aa 64 va], [qcC cs ah 8 vh], [qcC cs af 64 vf], [qcC cs ao 1 vo]] ++ w4 cs a y15).flatten) H := hP
          obtain ⟨c17a, c17b, c17t, c17f⟩ := x_eqE hf
          refine xk_if_ne (tgt := 369) hx hb c17a dL_law_364 (by decide) (fun c17 => ?_) (fun c17 => ?_)
          · have hf := c17t c17
            refine xk_iconst hx hb dL_law_367 ?_
            cases hf
          · have hf := c17f c17
            obtain rfl := Option.some.inj hf
            refine W.widen (k := cells0 + 5979) (n := slots0 + 35859) (by omega) (by omega) ?_
            exact hkk _ _ _ hP hS (lv_sub hl [0, 1, 2, 3, 4, 5] rfl)
    · have hf := c3f c3
      refine lv_iload hx hb dL_law_337 (lv_at hl 5 rfl) ?_
      refine xk_iconst hx hb dL_law_339 ?_
      obtain ⟨v18, ev18, hf⟩ := x_bind hf
      refine xk_irem hx hb ev18 dL_law_340 ?_
      refine xk_iconst hx hb dL_law_341 ?_
      obtain ⟨c19a, c19b, c19t, c19f⟩ := x_eqE hf
      refine xk_icmp_ne (tgt := 356) hx hb c19a c19b dL_law_342 (by decide) (fun c19 => ?_) (fun c19 => ?_)
      · have hf := c19t c19
        refine lv_aload_n hx hb dL_law_345 rfl (lv_at hl 1 rfl) ?_
        refine lv_aload_n hx hb dL_law_346 rfl (lv_at hl 2 rfl) ?_
        refine lv_aload_n hx hb dL_law_347 rfl (lv_at hl 3 rfl) ?_
        refine lv_aload hx hb dL_law_348 (lv_at hl 4 rfl) ?_
        obtain ⟨⟨v21, y20⟩, ev21, hf⟩ := x_bind hf
        refine xf_sp (As := [.ref (a 0), .ref aa, .ref ah, .ref af]) (rest := []) (wcs := [[qcC cs aa 64 va], [qcC cs ah 8 vh], [qcC cs af 64 vf]] ++ w4 cs a y) (w1s := [[qcC cs aa 64 va], [qcC cs ah 8 vh], [qcC cs af 64 vf]] ++ w4 cs a y20) ⟨hx, hb, hml, hown, hts⟩ (kL_areRuns l hlS dC dI cs aa ah af a H.size va vh vf y _ ev21) (va_cwS 4 hts gL_law_L_areRuns rfl rfl rfl cdL_areRuns ⟨Nat.le_of_ble_eq_true rfl, Nat.le_of_ble_eq_true rfl⟩) hK hP (x_addrF hD rfl) hS hA hTh hN [0, 1, 2, 4, 5, 6, 7, 8, 9, 10, 11, 12, 13] rfl rfl rfl (by decide) rfl rfl hl.1 rfl (Nat.le_of_ble_eq_true rfl) dL_law_350 ⟨by show _ ≤ 791945; omega, by show _ ≤ 6725633; omega⟩ (fun H locs hP hS => ?_)
        have hP : va_P (dC, dI) vwCl (([[qcC cs aa 64 va], [qcC cs ah 8 vh], [qcC cs af 64 vf], [qcC cs ao 1 vo]] ++ w4 cs a y20).flatten) H := hP
        obtain ⟨c22a, c22b, c22t, c22f⟩ := x_eqE hf
        refine xk_if_eq (tgt := 367) hx hb c22a dL_law_353 (by decide) (fun c22 => ?_) (fun c22 => ?_)
        · have hf := c22t c22
          refine xk_iconst hx hb dL_law_367 ?_
          cases hf
        · have hf := c22f c22
          refine lv_aload_n hx hb dL_law_356 rfl (lv_at hl 1 rfl) ?_
          refine lv_aload_n hx hb dL_law_357 rfl (lv_at hl 2 rfl) ?_
          refine lv_aload_n hx hb dL_law_358 rfl (lv_at hl 3 rfl) ?_
          refine lv_aload hx hb dL_law_359 (lv_at hl 4 rfl) ?_
          obtain ⟨⟨v24, y23⟩, ev24, hf⟩ := x_bind hf
          refine xf_sp (As := [.ref (a 0), .ref aa, .ref ah, .ref af]) (rest := []) (wcs := [[qcC cs aa 64 va], [qcC cs ah 8 vh], [qcC cs af 64 vf]] ++ w4 cs a y20) (w1s := [[qcC cs aa 64 va], [qcC cs ah 8 vh], [qcC cs af 64 vf]] ++ w4 cs a y23) ⟨hx, hb, hml, hown, hts⟩ (kL_areValues l hlS dC dI cs aa ah af a H.size va vh vf y20 _ ev24) (va_cwS 4 hts gL_law_L_areValues rfl rfl rfl cdL_areValues ⟨Nat.le_of_ble_eq_true rfl, Nat.le_of_ble_eq_true rfl⟩) hK hP (x_addrF hD rfl) hS hA hTh hN [0, 1, 2, 4, 5, 6, 7, 8, 9, 10, 11, 12, 13] rfl rfl rfl (by decide) rfl rfl hl.1 rfl (Nat.le_of_ble_eq_true rfl) dL_law_361 ⟨by show _ ≤ 791945; omega, by show _ ≤ 6725633; omega⟩ (fun H locs hP hS => ?_)
          have hP : va_P (dC, dI) vwCl (([[qcC cs aa 64 va], [qcC cs ah 8 vh], [qcC cs af 64 vf], [qcC cs ao 1 vo]] ++ w4 cs a y23).flatten) H := hP
          obtain ⟨c25a, c25b, c25t, c25f⟩ := x_eqE hf
          refine xk_if_ne (tgt := 369) hx hb c25a dL_law_364 (by decide) (fun c25 => ?_) (fun c25 => ?_)
          · have hf := c25t c25
            refine xk_iconst hx hb dL_law_367 ?_
            cases hf
          · have hf := c25f c25
            obtain rfl := Option.some.inj hf
            refine W.widen (k := cells0 + 5979) (n := slots0 + 35859) (by omega) (by omega) ?_
            exact hkk _ _ _ hP hS (lv_sub hl [0, 1, 2, 3, 4, 5] rfl)
      · have hf := c19f c19
        refine lv_aload_n hx hb dL_law_356 rfl (lv_at hl 1 rfl) ?_
        refine lv_aload_n hx hb dL_law_357 rfl (lv_at hl 2 rfl) ?_
        refine lv_aload_n hx hb dL_law_358 rfl (lv_at hl 3 rfl) ?_
        refine lv_aload hx hb dL_law_359 (lv_at hl 4 rfl) ?_
        obtain ⟨⟨v27, y26⟩, ev27, hf⟩ := x_bind hf
        refine xf_sp (As := [.ref (a 0), .ref aa, .ref ah, .ref af]) (rest := []) (wcs := [[qcC cs aa 64 va], [qcC cs ah 8 vh], [qcC cs af 64 vf]] ++ w4 cs a y) (w1s := [[qcC cs aa 64 va], [qcC cs ah 8 vh], [qcC cs af 64 vf]] ++ w4 cs a y26) ⟨hx, hb, hml, hown, hts⟩ (kL_areValues l hlS dC dI cs aa ah af a H.size va vh vf y _ ev27) (va_cwS 4 hts gL_law_L_areValues rfl rfl rfl cdL_areValues ⟨Nat.le_of_ble_eq_true rfl, Nat.le_of_ble_eq_true rfl⟩) hK hP (x_addrF hD rfl) hS hA hTh hN [0, 1, 2, 4, 5, 6, 7, 8, 9, 10, 11, 12, 13] rfl rfl rfl (by decide) rfl rfl hl.1 rfl (Nat.le_of_ble_eq_true rfl) dL_law_361 ⟨by show _ ≤ 791945; omega, by show _ ≤ 6725633; omega⟩ (fun H locs hP hS => ?_)
        have hP : va_P (dC, dI) vwCl (([[qcC cs aa 64 va], [qcC cs ah 8 vh], [qcC cs af 64 vf], [qcC cs ao 1 vo]] ++ w4 cs a y26).flatten) H := hP
        obtain ⟨c28a, c28b, c28t, c28f⟩ := x_eqE hf
        refine xk_if_ne (tgt := 369) hx hb c28a dL_law_364 (by decide) (fun c28 => ?_) (fun c28 => ?_)
        · have hf := c28t c28
          refine xk_iconst hx hb dL_law_367 ?_
          cases hf
        · have hf := c28f c28
          obtain rfl := Option.some.inj hf
          refine W.widen (k := cells0 + 5979) (n := slots0 + 35859) (by omega) (by omega) ?_
          exact hkk _ _ _ hP hS (lv_sub hl [0, 1, 2, 3, 4, 5] rfl)

set_option maxHeartbeats 8000000 in
set_option maxRecDepth 100000 in
theorem kG_c {p : Program} {e : Env} {s : State} {m : MethodId} {below : List Frame} {meth : Method} {c : Code} {b L : Nat} {xs : Nat → Int32} (l : Launch) (hlS : l.stackTraces = false) (dC : Nat → ClassId) (dI : Nat → Nat → Nat) (cs : Nat → ClassId) (aa ah af ao : Nat) (a : Nat → Nat) (hLb : L ≤ 260) (hx : p.tables.exec = Jvm.exec) (hb : c.code = cL_law) (hml : c.maxLocals = 11) (hown : s.vm.findClass RL = some m.cls) (hts : ∀ w ∈ wsL_law, w.before #[Value.ref b] s = true) (hX : va_X b L xs s s.heap) (hbl : b < s.heap.size) (hTh : xTh (fun z9 : Nat => s.heap.size ≤ z9) s) (hN : ∀ q ∈ x_ncs, va_Nc q.1 q.2 s) (hK : va_K (dC, dI) vwCl (xT cs) s) {Q : State → Prop} (va : Int → Int) (vh : Int → Int) (vf : Int → Int) (vo : Int → Int) (y : BrS) (p7 : Int) (res : Int × Int × (Int → Int) × (Int → Int) × (Int → Int) × (Int → Int) × BrS) (hf : fG_c (x_sc xs) (L : Int) va vh vf vo y p7 = some res) {cells0 slots0 : Nat} (hc : cells0 + 24 ≤ 791945 ∧ slots0 + 114 ≤ 6725633) {H : Heap} {locs : List Loc} {ls : Array Slot} (hP : va_P (dC, dI) vwCl (([[qcC cs aa 64 va], [qcC cs ah 8 vh], [qcC cs af 64 vf], [qcC cs ao 1 vo]] ++ w4 cs a y).flatten) H) (hD : va_D (fun z9 : Nat => s.heap.size ≤ z9) (([[qcC cs aa 64 va], [qcC cs ah 8 vh], [qcC cs af 64 vf], [qcC cs ao 1 vo]] ++ w4 cs a y).flatten)) (hS : va_S (fun z9 : Nat => s.heap.size ≤ z9) s.heap H locs) (hl : lv_has ls 11 [(0, .ref b), (1, .ref (a 0)), (2, .ref aa), (3, .ref ah), (4, .ref af), (7, .int (iI p7))])
    (hkk : ∀ (H : Heap) (locs : List Loc) (ls : Array Slot), va_P (dC, dI) vwCl (([[qcC cs aa 64 res.2.2.1], [qcC cs ah 8 res.2.2.2.1], [qcC cs af 64 res.2.2.2.2.1], [qcC cs ao 1 res.2.2.2.2.2.1]] ++ w4 cs a res.2.2.2.2.2.2).flatten) H → va_S (fun z9 : Nat => s.heap.size ≤ z9) s.heap H locs → lv_has ls 11 [(0, .ref b), (1, .ref (a 0)), (2, .ref aa), (3, .ref ah), (4, .ref af), (7, .int (iI res.1)), (9, .int (iI res.2.1))] → W p l e room_1 s m #[Value.ref b] below meth c H locs (cells0 + 24) (slots0 + 114) Q (F0 m 315 ls [])) : W p l e room_1 s m #[Value.ref b] below meth c H locs cells0 slots0 Q (F0 m 119 ls []) := by
  have hA : ∀ z9 : Nat, s.heap.size ≤ z9 → (fun z9 : Nat => s.heap.size ≤ z9) z9 := fun z9 h => h
  have hbA : ¬ (fun z9 : Nat => s.heap.size ≤ z9) b := Nat.not_le.mpr hbl
  obtain ⟨hc1, hc2⟩ := hc
  unfold fG_c at hf
  refine lv_aload_n hx hb dL_law_119 rfl (lv_at hl 0 rfl) ?_
  refine lv_iload hx hb dL_law_120 (lv_at hl 5 rfl) ?_
  obtain ⟨v1, ev1, hf⟩ := x_bind hf
  refine xc_cell (rest := []) ⟨hx, hb, hml, hown, hts⟩ hLb hX hbl hbA hS ev1 (va_cwS 2 hts gL_law_L_cell rfl rfl rfl cdL_cell ⟨Nat.le_of_ble_eq_true rfl, Nat.le_of_ble_eq_true rfl⟩) hl.1 rfl (Nat.le_of_ble_eq_true rfl) dL_law_122 ⟨by show _ ≤ 791945; omega, by show _ ≤ 6725633; omega⟩ ?_
  refine lv_istore (lv' := [(8, .int (iI v1)), (0, .ref b), (1, .ref (a 0)), (2, .ref aa), (3, .ref ah), (4, .ref af), (7, .int (iI p7))]) hx hb dL_law_125 hl (by decide) rfl (fun ls hl => ?_)
  refine xk_iconst hx hb dL_law_127 ?_
  refine lv_istore (lv' := [(9, .int (iI 1)), (8, .int (iI v1)), (0, .ref b), (1, .ref (a 0)), (2, .ref aa), (3, .ref ah), (4, .ref af), (7, .int (iI p7))]) hx hb dL_law_128 hl (by decide) rfl (fun ls hl => ?_)
  refine lv_iload hx hb dL_law_130 (lv_at hl 1 rfl) ?_
  refine xk_bipush hx hb dL_law_132 (by decide) ?_
  refine xk_ishr hx hb dL_law_134 ?_
  refine xk_bipush hx hb dL_law_135 (by decide) ?_
  obtain ⟨v2, ev2, hf⟩ := x_bind hf
  refine xc_si (As := [.int (iI (x_shr v1 27)), .int (iI 8)]) (rest := []) ⟨hx, hb, hml, hown, hts⟩ (kL_low l (x_shr v1 27) 8 _ ev2) (va_cwS 2 hts gL_law_L_low rfl rfl rfl cdL_low ⟨Nat.le_of_ble_eq_true rfl, Nat.le_of_ble_eq_true rfl⟩) rfl hl.1 rfl (Nat.le_of_ble_eq_true rfl) dL_law_137 ⟨by show _ ≤ 791945; omega, by show _ ≤ 6725633; omega⟩ ?_
  obtain ⟨c3a, c3b, c3t, c3f⟩ := x_eqE hf
  by_cases c3 : v2 = 0
  · have hf := c3t c3
    refine xk_tabIn (tgt := 172) hx hb c3a c3 dL_law_140 (by decide) rfl (by decide) ?_
    refine lv_aload_n hx hb dL_law_172 rfl (lv_at hl 3 rfl) ?_
    refine lv_aload_n hx hb dL_law_173 rfl (lv_at hl 4 rfl) ?_
    refine lv_aload_n hx hb dL_law_174 rfl (lv_at hl 5 rfl) ?_
    refine lv_aload hx hb dL_law_175 (lv_at hl 6 rfl) ?_
    refine lv_iload hx hb dL_law_177 (lv_at hl 1 rfl) ?_
    refine xk_bipush hx hb dL_law_179 (by decide) ?_
    obtain ⟨v4, ev4, hf⟩ := x_bind hf
    refine xc_si (As := [.int (iI v1), .int (iI 11)]) (rest := [.ref af, .ref ah, .ref aa, .ref (a 0)]) ⟨hx, hb, hml, hown, hts⟩ (kL_low l v1 11 _ ev4) (va_cwS 2 hts gL_law_L_low rfl rfl rfl cdL_low ⟨Nat.le_of_ble_eq_true rfl, Nat.le_of_ble_eq_true rfl⟩) rfl hl.1 rfl (Nat.le_of_ble_eq_true rfl) dL_law_181 ⟨by show _ ≤ 791945; omega, by show _ ≤ 6725633; omega⟩ ?_
    obtain ⟨⟨v9, g5, g6, g7, y8⟩, ev9, hf⟩ := x_bind hf
    refine xf_sp (As := [.ref (a 0), .ref aa, .ref ah, .ref af, .int (iI v4)]) (rest := []) (wcs := [[qcC cs aa 64 va], [qcC cs ah 8 vh], [qcC cs af 64 vf]] ++ w4 cs a y) (w1s := [[qcC cs aa 64 g5], [qcC cs ah 8 g6], [qcC cs af 64 g7]] ++ w4 cs a y8) ⟨hx, hb, hml, hown, hts⟩ (kL_isStormy l hlS dC dI cs aa ah af a H.size va vh vf y v4 _ ev9) (va_cwS 5 hts gL_law_L_isStormy rfl rfl rfl cdL_isStormy ⟨Nat.le_of_ble_eq_true rfl, Nat.le_of_ble_eq_true rfl⟩) hK hP (x_addrF hD rfl) hS hA hTh hN [0, 1, 2, 4, 5, 6, 7, 8, 9, 10, 11, 12, 13] rfl rfl rfl (by decide) rfl rfl hl.1 rfl (Nat.le_of_ble_eq_true rfl) dL_law_184 ⟨by show _ ≤ 791945; omega, by show _ ≤ 6725633; omega⟩ (fun H locs hP hS => ?_)
    have hP : va_P (dC, dI) vwCl (([[qcC cs aa 64 g5], [qcC cs ah 8 g6], [qcC cs af 64 g7], [qcC cs ao 1 vo]] ++ w4 cs a y8).flatten) H := hP
    refine lv_istore (lv' := [(9, .int (iI v9)), (8, .int (iI v1)), (0, .ref b), (1, .ref (a 0)), (2, .ref aa), (3, .ref ah), (4, .ref af), (7, .int (iI p7))]) hx hb dL_law_187 hl (by decide) rfl (fun ls hl => ?_)
    refine lv_goto (tgt := 315) hx hb dL_law_189 (by decide) ?_
    obtain rfl := Option.some.inj hf
    refine W.widen (k := cells0 + 24) (n := slots0 + 114) (by omega) (by omega) ?_
    exact hkk _ _ _ hP hS (lv_sub hl [2, 3, 4, 5, 6, 7, 0] rfl)
  · have hf := c3f c3
    obtain ⟨c10a, c10b, c10t, c10f⟩ := x_eqE hf
    by_cases c10 : v2 = 1
    · have hf := c10t c10
      refine xk_tabIn (tgt := 192) hx hb c10a c10 dL_law_140 (by decide) rfl (by decide) ?_
      refine lv_aload_n hx hb dL_law_192 rfl (lv_at hl 3 rfl) ?_
      refine lv_aload_n hx hb dL_law_193 rfl (lv_at hl 4 rfl) ?_
      refine lv_aload_n hx hb dL_law_194 rfl (lv_at hl 5 rfl) ?_
      refine lv_aload hx hb dL_law_195 (lv_at hl 6 rfl) ?_
      refine lv_iload hx hb dL_law_197 (lv_at hl 1 rfl) ?_
      obtain ⟨⟨v15, g11, g12, g13, y14⟩, ev15, hf⟩ := x_bind hf
      refine xf_sp (As := [.ref (a 0), .ref aa, .ref ah, .ref af, .int (iI v1)]) (rest := []) (wcs := [[qcC cs aa 64 va], [qcC cs ah 8 vh], [qcC cs af 64 vf]] ++ w4 cs a y) (w1s := [[qcC cs aa 64 g11], [qcC cs ah 8 g12], [qcC cs af 64 g13]] ++ w4 cs a y14) ⟨hx, hb, hml, hown, hts⟩ (kL_isMerged l hlS dC dI cs aa ah af a H.size va vh vf y v1 _ ev15) (va_cwS 5 hts gL_law_L_isMerged rfl rfl rfl cdL_isMerged ⟨Nat.le_of_ble_eq_true rfl, Nat.le_of_ble_eq_true rfl⟩) hK hP (x_addrF hD rfl) hS hA hTh hN [0, 1, 2, 4, 5, 6, 7, 8, 9, 10, 11, 12, 13] rfl rfl rfl (by decide) rfl rfl hl.1 rfl (Nat.le_of_ble_eq_true rfl) dL_law_199 ⟨by show _ ≤ 791945; omega, by show _ ≤ 6725633; omega⟩ (fun H locs hP hS => ?_)
      have hP : va_P (dC, dI) vwCl (([[qcC cs aa 64 g11], [qcC cs ah 8 g12], [qcC cs af 64 g13], [qcC cs ao 1 vo]] ++ w4 cs a y14).flatten) H := hP
      refine lv_istore (lv' := [(9, .int (iI v15)), (8, .int (iI v1)), (0, .ref b), (1, .ref (a 0)), (2, .ref aa), (3, .ref ah), (4, .ref af), (7, .int (iI p7))]) hx hb dL_law_202 hl (by decide) rfl (fun ls hl => ?_)
      refine lv_goto (tgt := 315) hx hb dL_law_204 (by decide) ?_
      obtain rfl := Option.some.inj hf
      refine W.widen (k := cells0 + 24) (n := slots0 + 114) (by omega) (by omega) ?_
      exact hkk _ _ _ hP hS (lv_sub hl [2, 3, 4, 5, 6, 7, 0] rfl)
    · have hf := c10f c10
      obtain ⟨c16a, c16b, c16t, c16f⟩ := x_eqE hf
      by_cases c16 : v2 = 2
      · have hf := c16t c16
        refine xk_tabIn (tgt := 207) hx hb c16a c16 dL_law_140 (by decide) rfl (by decide) ?_
        refine lv_aload_n hx hb dL_law_207 rfl (lv_at hl 3 rfl) ?_
        refine lv_aload_n hx hb dL_law_208 rfl (lv_at hl 4 rfl) ?_
        refine lv_aload_n hx hb dL_law_209 rfl (lv_at hl 5 rfl) ?_
        refine lv_aload hx hb dL_law_210 (lv_at hl 6 rfl) ?_
        refine lv_iload hx hb dL_law_212 (lv_at hl 1 rfl) ?_
        obtain ⟨⟨v21, g17, g18, g19, y20⟩, ev21, hf⟩ := x_bind hf
        refine xf_sp (As := [.ref (a 0), .ref aa, .ref ah, .ref af, .int (iI v1)]) (rest := []) (wcs := [[qcC cs aa 64 va], [qcC cs ah 8 vh], [qcC cs af 64 vf]] ++ w4 cs a y) (w1s := [[qcC cs aa 64 g17], [qcC cs ah 8 g18], [qcC cs af 64 g19]] ++ w4 cs a y20) ⟨hx, hb, hml, hown, hts⟩ (kL_isLanded l hlS dC dI cs aa ah af a H.size va vh vf y v1 _ ev21) (va_cwS 5 hts gL_law_L_isLanded rfl rfl rfl cdL_isLanded ⟨Nat.le_of_ble_eq_true rfl, Nat.le_of_ble_eq_true rfl⟩) hK hP (x_addrF hD rfl) hS hA hTh hN [0, 1, 2, 4, 5, 6, 7, 8, 9, 10, 11, 12, 13] rfl rfl rfl (by decide) rfl rfl hl.1 rfl (Nat.le_of_ble_eq_true rfl) dL_law_214 ⟨by show _ ≤ 791945; omega, by show _ ≤ 6725633; omega⟩ (fun H locs hP hS => ?_)
        have hP : va_P (dC, dI) vwCl (([[qcC cs aa 64 g17], [qcC cs ah 8 g18], [qcC cs af 64 g19], [qcC cs ao 1 vo]] ++ w4 cs a y20).flatten) H := hP
        refine lv_istore (lv' := [(9, .int (iI v21)), (8, .int (iI v1)), (0, .ref b), (1, .ref (a 0)), (2, .ref aa), (3, .ref ah), (4, .ref af), (7, .int (iI p7))]) hx hb dL_law_217 hl (by decide) rfl (fun ls hl => ?_)
        refine lv_goto (tgt := 315) hx hb dL_law_219 (by decide) ?_
        obtain rfl := Option.some.inj hf
        refine W.widen (k := cells0 + 24) (n := slots0 + 114) (by omega) (by omega) ?_
        exact hkk _ _ _ hP hS (lv_sub hl [2, 3, 4, 5, 6, 7, 0] rfl)
      · have hf := c16f c16
        obtain ⟨c22a, c22b, c22t, c22f⟩ := x_eqE hf
        by_cases c22 : v2 = 3
        · have hf := c22t c22
          refine xk_tabIn (tgt := 222) hx hb c22a c22 dL_law_140 (by decide) rfl (by decide) ?_
          refine lv_iload hx hb dL_law_222 (lv_at hl 1 rfl) ?_
          refine xk_iconst hx hb dL_law_224 ?_
          obtain ⟨v23, ev23, hf⟩ := x_bind hf
          refine xc_si (As := [.int (iI v1), .int (iI 3)]) (rest := []) ⟨hx, hb, hml, hown, hts⟩ (kL_low l v1 3 _ ev23) (va_cwS 2 hts gL_law_L_low rfl rfl rfl cdL_low ⟨Nat.le_of_ble_eq_true rfl, Nat.le_of_ble_eq_true rfl⟩) rfl hl.1 rfl (Nat.le_of_ble_eq_true rfl) dL_law_225 ⟨by show _ ≤ 791945; omega, by show _ ≤ 6725633; omega⟩ ?_
          obtain ⟨c24a, c24b, c24t, c24f⟩ := x_ltE hf
          refine xk_if_gt (tgt := 242) hx hb c24b dL_law_228 (by decide) (fun c24 => ?_) (fun c24 => ?_)
          · have hf := c24t c24
            refine xk_iconst hx hb dL_law_242 ?_
            refine lv_goto (tgt := 247) hx hb dL_law_243 (by decide) ?_
            refine lv_istore (lv' := [(9, .int (iI 1)), (8, .int (iI v1)), (0, .ref b), (1, .ref (a 0)), (2, .ref aa), (3, .ref ah), (4, .ref af), (7, .int (iI p7))]) hx hb dL_law_247 hl (by decide) rfl (fun ls hl => ?_)
            refine lv_goto (tgt := 315) hx hb dL_law_249 (by decide) ?_
            obtain rfl := Option.some.inj hf
            refine W.widen (k := cells0 + 24) (n := slots0 + 114) (by omega) (by omega) ?_
            exact hkk _ _ _ hP hS (lv_sub hl [2, 3, 4, 5, 6, 7, 0] rfl)
          · have hf := c24f c24
            refine lv_aload_n hx hb dL_law_231 rfl (lv_at hl 3 rfl) ?_
            refine lv_aload_n hx hb dL_law_232 rfl (lv_at hl 4 rfl) ?_
            refine lv_aload_n hx hb dL_law_233 rfl (lv_at hl 5 rfl) ?_
            refine lv_aload hx hb dL_law_234 (lv_at hl 6 rfl) ?_
            obtain ⟨⟨v29, g25, g26, g27, y28⟩, ev29, hf⟩ := x_bind hf
            refine xf_sp (As := [.ref (a 0), .ref aa, .ref ah, .ref af]) (rest := []) (wcs := [[qcC cs aa 64 va], [qcC cs ah 8 vh], [qcC cs af 64 vf]] ++ w4 cs a y) (w1s := [[qcC cs aa 64 g25], [qcC cs ah 8 g26], [qcC cs af 64 g27]] ++ w4 cs a y28) ⟨hx, hb, hml, hown, hts⟩ (kL_isEmptied l hlS dC dI cs aa ah af a H.size va vh vf y _ ev29) (va_cwS 4 hts gL_law_L_isEmptied rfl rfl rfl cdL_isEmptied ⟨Nat.le_of_ble_eq_true rfl, Nat.le_of_ble_eq_true rfl⟩) hK hP (x_addrF hD rfl) hS hA hTh hN [0, 1, 2, 4, 5, 6, 7, 8, 9, 10, 11, 12, 13] rfl rfl rfl (by decide) rfl rfl hl.1 rfl (Nat.le_of_ble_eq_true rfl) dL_law_236 ⟨by show _ ≤ 791945; omega, by show _ ≤ 6725633; omega⟩ (fun H locs hP hS => ?_)
            have hP : va_P (dC, dI) vwCl (([[qcC cs aa 64 g25], [qcC cs ah 8 g26], [qcC cs af 64 g27], [qcC cs ao 1 vo]] ++ w4 cs a y28).flatten) H := hP
            obtain ⟨c30a, c30b, c30t, c30f⟩ := x_eqE hf
            refine xk_if_eq (tgt := 246) hx hb c30a dL_law_239 (by decide) (fun c30 => ?_) (fun c30 => ?_)
            · have hf := c30t c30
              refine xk_iconst hx hb dL_law_246 ?_
              refine lv_istore (lv' := [(9, .int (iI 0)), (8, .int (iI v1)), (0, .ref b), (1, .ref (a 0)), (2, .ref aa), (3, .ref ah), (4, .ref af), (7, .int (iI p7))]) hx hb dL_law_247 hl (by decide) rfl (fun ls hl => ?_)
              refine lv_goto (tgt := 315) hx hb dL_law_249 (by decide) ?_
              obtain rfl := Option.some.inj hf
              refine W.widen (k := cells0 + 24) (n := slots0 + 114) (by omega) (by omega) ?_
              exact hkk _ _ _ hP hS (lv_sub hl [2, 3, 4, 5, 6, 7, 0] rfl)
            · have hf := c30f c30
              refine xk_iconst hx hb dL_law_242 ?_
              refine lv_goto (tgt := 247) hx hb dL_law_243 (by decide) ?_
              refine lv_istore (lv' := [(9, .int (iI 1)), (8, .int (iI v1)), (0, .ref b), (1, .ref (a 0)), (2, .ref aa), (3, .ref ah), (4, .ref af), (7, .int (iI p7))]) hx hb dL_law_247 hl (by decide) rfl (fun ls hl => ?_)
              refine lv_goto (tgt := 315) hx hb dL_law_249 (by decide) ?_
              obtain rfl := Option.some.inj hf
              refine W.widen (k := cells0 + 24) (n := slots0 + 114) (by omega) (by omega) ?_
              exact hkk _ _ _ hP hS (lv_sub hl [2, 3, 4, 5, 6, 7, 0] rfl)
        · have hf := c22f c22
          refine xk_tabOut (tgt := 252) hx hb c22a dL_law_140 (by omega) (by decide) ?_
          refine xk_iconst hx hb dL_law_252 ?_
          refine lv_istore (lv' := [(10, .int (iI 0)), (9, .int (iI 1)), (8, .int (iI v1)), (0, .ref b), (1, .ref (a 0)), (2, .ref aa), (3, .ref ah), (4, .ref af), (7, .int (iI p7))]) hx hb dL_law_253 hl (by decide) rfl (fun ls hl => ?_)
          have hL255 : ∀ (n36 : Nat) (l9 : Int) (l10 : Int) (g31 : Int → Int) (g32 : Int → Int) (g33 : Int → Int) (g34 : Int → Int) (y35 : BrS), fG_c_L255 p7 v1 n36 l9 l10 g31 g32 g33 g34 y35 = some res → ∀ (cells slots : Nat), cells + n36 * 4 + 0 ≤ cells0 + 24 ∧ slots + n36 * 19 + 0 ≤ slots0 + 114 → ∀ (H : Heap) (locs : List Loc), va_P (dC, dI) vwCl (([[qcC cs aa 64 g31], [qcC cs ah 8 g32], [qcC cs af 64 g33], [qcC cs ao 1 g34]] ++ w4 cs a y35).flatten) H → va_S (fun z9 : Nat => s.heap.size ≤ z9) s.heap H locs → ∀ (ls : Array Slot), lv_has ls 11 [(0, .ref b), (1, .ref (a 0)), (2, .ref aa), (3, .ref ah), (4, .ref af), (7, .int (iI p7)), (8, .int (iI v1)), (9, .int (iI l9)), (10, .int (iI l10))] → W p l e room_1 s m #[Value.ref b] below meth c H locs cells slots Q (F0 m 255 ls []) := by
            intro  n36
            induction n36 with
            | zero => intro l9 l10 g31 g32 g33 g34 y35 hf; have hf : (none : Option (Int × Int × (Int → Int) × (Int → Int) × (Int → Int) × (Int → Int) × BrS)) = some res := hf; cases hf
            | succ n36 ih255 =>
              intro l9 l10 g31 g32 g33 g34 y35 hf cells slots hcb H locs hP hS ls hl
              rw [fG_c_L255] at hf
              refine lv_iload hx hb dL_law_255 (lv_at hl 8 rfl) ?_
              refine xk_iconst hx hb dL_law_257 ?_
              refine lv_iload hx hb dL_law_258 (lv_at hl 6 rfl) ?_
              refine xk_bipush hx hb dL_law_260 (by decide) ?_
              refine xk_ishr hx hb dL_law_262 ?_
              refine xk_iconst hx hb dL_law_263 ?_
              obtain ⟨v37, ev37, hf⟩ := x_bind hf
              refine xc_si (As := [.int (iI (x_shr v1 24)), .int (iI 4)]) (rest := [.int (iI 1), .int (iI l10)]) ⟨hx, hb, hml, hown, hts⟩ (kL_low l (x_shr v1 24) 4 _ ev37) (va_cwS 2 hts gL_law_L_low rfl rfl rfl cdL_low ⟨Nat.le_of_ble_eq_true rfl, Nat.le_of_ble_eq_true rfl⟩) rfl hl.1 rfl (Nat.le_of_ble_eq_true rfl) dL_law_264 ⟨by show _ ≤ 791945; omega, by show _ ≤ 6725633; omega⟩ ?_
              refine xk_iadd hx hb dL_law_267 ?_
              obtain ⟨c38a, c38b, c38t, c38f⟩ := x_ltE hf
              refine xk_icmp_ge (tgt := 315) hx hb c38a c38b dL_law_268 (by decide) (fun c38 => ?_) (fun c38 => ?_)
              · have hf := c38t c38
                refine lv_iload hx hb dL_law_271 (lv_at hl 7 rfl) ?_
                obtain ⟨c39a, c39b, c39t, c39f⟩ := x_eqE hf
                refine xk_if_eq (tgt := 306) hx hb c39a dL_law_273 (by decide) (fun c39 => ?_) (fun c39 => ?_)
                · have hf := c39t c39
                  refine xk_iconst hx hb dL_law_306 ?_
                  refine lv_istore (lv' := [(9, .int (iI 0)), (0, .ref b), (1, .ref (a 0)), (2, .ref aa), (3, .ref ah), (4, .ref af), (7, .int (iI p7)), (8, .int (iI v1)), (10, .int (iI l10))]) hx hb dL_law_307 hl (by decide) rfl (fun ls hl => ?_)
                  refine xk_iinc (lv' := [(10, .int (iI (l10 + 1))), (9, .int (iI 0)), (0, .ref b), (1, .ref (a 0)), (2, .ref aa), (3, .ref ah), (4, .ref af), (7, .int (iI p7)), (8, .int (iI v1))]) hx hb dL_law_309 hl (k := 8) rfl (by decide) rfl (fun ls hl => ?_)
                  refine lv_goto (tgt := 255) hx hb dL_law_312 (by decide) ?_
                  exact ih255 0 (l10 + 1) g31 g32 g33 g34 y35 hf _ _ ⟨by omega, by omega⟩ _ _ hP hS ls (lv_sub hl [2, 3, 4, 5, 6, 7, 8, 1, 0] rfl)
                · have hf := c39f c39
                  refine lv_aload_n hx hb dL_law_276 rfl (lv_at hl 1 rfl) ?_
                  refine lv_aload_n hx hb dL_law_277 rfl (lv_at hl 2 rfl) ?_
                  refine lv_aload_n hx hb dL_law_278 rfl (lv_at hl 3 rfl) ?_
                  refine lv_aload hx hb dL_law_279 (lv_at hl 4 rfl) ?_
                  refine lv_iload hx hb dL_law_281 (lv_at hl 6 rfl) ?_
                  refine xk_iconst hx hb dL_law_283 ?_
                  refine lv_iload hx hb dL_law_284 (lv_at hl 8 rfl) ?_
                  refine xk_imul hx hb dL_law_286 ?_
                  refine xk_ishr hx hb dL_law_287 ?_
                  refine lv_iload hx hb dL_law_288 (lv_at hl 6 rfl) ?_
                  refine xk_iconst hx hb dL_law_290 ?_
                  refine lv_iload hx hb dL_law_291 (lv_at hl 8 rfl) ?_
                  refine xk_imul hx hb dL_law_293 ?_
                  refine xk_ishl hx hb dL_law_294 ?_
                  refine xk_ixor hx hb dL_law_295 ?_
                  obtain ⟨⟨v44, g40, g41, g42, y43⟩, ev44, hf⟩ := x_bind hf
                  refine xf_sp (As := [.ref (a 0), .ref aa, .ref ah, .ref af, .int (iI (x_xor (x_shr v1 (3 * l10)) (x_shl v1 (5 * l10))))]) (rest := []) (wcs := [[qcC cs aa 64 g31], [qcC cs ah 8 g32], [qcC cs af 64 g33]] ++ w4 cs a y35) (w1s := [[qcC cs aa 64 g40], [qcC cs ah 8 g41], [qcC cs af 64 g42]] ++ w4 cs a y43) ⟨hx, hb, hml, hown, hts⟩ (kL_isLoaded l hlS dC dI cs aa ah af a H.size g31 g32 g33 y35 (x_xor (x_shr v1 (3 * l10)) (x_shl v1 (5 * l10))) _ ev44) (va_cwS 5 hts gL_law_L_isLoaded rfl rfl rfl cdL_isLoaded ⟨Nat.le_of_ble_eq_true rfl, Nat.le_of_ble_eq_true rfl⟩) hK hP (x_addrF hD rfl) hS hA hTh hN [0, 1, 2, 4, 5, 6, 7, 8, 9, 10, 11, 12, 13] rfl rfl rfl (by decide) rfl rfl hl.1 rfl (Nat.le_of_ble_eq_true rfl) dL_law_296 ⟨by show _ ≤ 791945; omega, by show _ ≤ 6725633; omega⟩ (fun H locs hP hS => ?_)
                  have hP : va_P (dC, dI) vwCl (([[qcC cs aa 64 g40], [qcC cs ah 8 g41], [qcC cs af 64 g42], [qcC cs ao 1 g34]] ++ w4 cs a y43).flatten) H := hP
                  obtain ⟨c45a, c45b, c45t, c45f⟩ := x_eqE hf
                  refine xk_if_eq (tgt := 306) hx hb c45a dL_law_299 (by decide) (fun c45 => ?_) (fun c45 => ?_)
                  · have hf := c45t c45
                    refine xk_iconst hx hb dL_law_306 ?_
                    refine lv_istore (lv' := [(9, .int (iI 0)), (0, .ref b), (1, .ref (a 0)), (2, .ref aa), (3, .ref ah), (4, .ref af), (7, .int (iI p7)), (8, .int (iI v1)), (10, .int (iI l10))]) hx hb dL_law_307 hl (by decide) rfl (fun ls hl => ?_)
                    refine xk_iinc (lv' := [(10, .int (iI (l10 + 1))), (9, .int (iI 0)), (0, .ref b), (1, .ref (a 0)), (2, .ref aa), (3, .ref ah), (4, .ref af), (7, .int (iI p7)), (8, .int (iI v1))]) hx hb dL_law_309 hl (k := 8) rfl (by decide) rfl (fun ls hl => ?_)
                    refine lv_goto (tgt := 255) hx hb dL_law_312 (by decide) ?_
                    exact ih255 0 (l10 + 1) g40 g41 g42 g34 y43 hf _ _ ⟨by omega, by omega⟩ _ _ hP hS ls (lv_sub hl [2, 3, 4, 5, 6, 7, 8, 1, 0] rfl)
                  · have hf := c45f c45
                    refine xk_iconst hx hb dL_law_302 ?_
                    refine lv_goto (tgt := 307) hx hb dL_law_303 (by decide) ?_
                    refine lv_istore (lv' := [(9, .int (iI 1)), (0, .ref b), (1, .ref (a 0)), (2, .ref aa), (3, .ref ah), (4, .ref af), (7, .int (iI p7)), (8, .int (iI v1)), (10, .int (iI l10))]) hx hb dL_law_307 hl (by decide) rfl (fun ls hl => ?_)
                    refine xk_iinc (lv' := [(10, .int (iI (l10 + 1))), (9, .int (iI 1)), (0, .ref b), (1, .ref (a 0)), (2, .ref aa), (3, .ref ah), (4, .ref af), (7, .int (iI p7)), (8, .int (iI v1))]) hx hb dL_law_309 hl (k := 8) rfl (by decide) rfl (fun ls hl => ?_)
                    refine lv_goto (tgt := 255) hx hb dL_law_312 (by decide) ?_
                    exact ih255 1 (l10 + 1) g40 g41 g42 g34 y43 hf _ _ ⟨by omega, by omega⟩ _ _ hP hS ls (lv_sub hl [2, 3, 4, 5, 6, 7, 8, 1, 0] rfl)
              · have hf := c38f c38
                obtain rfl := Option.some.inj hf
                refine W.widen (k := cells0 + 24) (n := slots0 + 114) (by omega) (by omega) ?_
                exact hkk _ _ _ hP hS (lv_sub hl [0, 1, 2, 3, 4, 5, 7] rfl)
          exact hL255  6 1 0 va vh vf vo y hf _ _ ⟨by omega, by omega⟩ _ _ hP hS ls (lv_sub hl [3, 4, 5, 6, 7, 8, 2, 1, 0] rfl)

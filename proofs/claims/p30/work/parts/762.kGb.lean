set_option maxHeartbeats 8000000 in
set_option maxRecDepth 100000 in
theorem kG_b {p : Program} {e : Env} {s : State} {m : MethodId} {below : List Frame} {meth : Method} {c : Code} {b L : Nat} {xs : Nat → Int32} (l : Launch) (hlS : l.stackTraces = false) (dC : Nat → ClassId) (dI : Nat → Nat → Nat) (cs : Nat → ClassId) (aa ah af ao : Nat) (a : Nat → Nat) (hLb : L ≤ 260) (hx : p.tables.exec = Jvm.exec) (hb : c.code = cL_law) (hml : c.maxLocals = 11) (hown : s.vm.findClass RL = some m.cls) (hts : ∀ w ∈ wsL_law, w.before #[Value.ref b] s = true) (hX : va_X b L xs s s.heap) (hbl : b < s.heap.size) (hTh : xTh (fun z9 : Nat => s.heap.size ≤ z9) s) (hN : ∀ q ∈ x_ncs, va_Nc q.1 q.2 s) (hK : va_K (dC, dI) vwCl (xT cs) s) {Q : State → Prop} (va : Int → Int) (vh : Int → Int) (vf : Int → Int) (vo : Int → Int) (y : BrS) (res : Int × (Int → Int) × (Int → Int) × (Int → Int) × (Int → Int) × BrS) (hf : fG_b (x_sc xs) (L : Int) va vh vf vo y = some res) {cells0 slots0 : Nat} (hc : cells0 + 85 ≤ 791945 ∧ slots0 + 505 ≤ 6725633) {H : Heap} {locs : List Loc} {ls : Array Slot} (hP : va_P (dC, dI) vwCl (([[qcC cs aa 64 va], [qcC cs ah 8 vh], [qcC cs af 64 vf], [qcC cs ao 1 vo]] ++ w4 cs a y).flatten) H) (hD : va_D (fun z9 : Nat => s.heap.size ≤ z9) (([[qcC cs aa 64 va], [qcC cs ah 8 vh], [qcC cs af 64 vf], [qcC cs ao 1 vo]] ++ w4 cs a y).flatten)) (hS : va_S (fun z9 : Nat => s.heap.size ≤ z9) s.heap H locs) (hl : lv_has ls 11 [(0, .ref b), (1, .ref (a 0)), (2, .ref aa), (3, .ref ah), (4, .ref af), (5, .ref ao)])
    (hkk : ∀ (H : Heap) (locs : List Loc) (ls : Array Slot), va_P (dC, dI) vwCl (([[qcC cs aa 64 res.2.1], [qcC cs ah 8 res.2.2.1], [qcC cs af 64 res.2.2.2.1], [qcC cs ao 1 res.2.2.2.2.1]] ++ w4 cs a res.2.2.2.2.2).flatten) H → va_S (fun z9 : Nat => s.heap.size ≤ z9) s.heap H locs → lv_has ls 11 [(0, .ref b), (1, .ref (a 0)), (2, .ref aa), (3, .ref ah), (4, .ref af), (7, .int (iI res.1))] → W p l e room_1 s m #[Value.ref b] below meth c H locs (cells0 + 85) (slots0 + 505) Q (F0 m 112 ls [])) : W p l e room_1 s m #[Value.ref b] below meth c H locs cells0 slots0 Q (F0 m 79 ls []) := by
  have hA : ∀ z9 : Nat, s.heap.size ≤ z9 → (fun z9 : Nat => s.heap.size ≤ z9) z9 := fun z9 h => h
  have hbA : ¬ (fun z9 : Nat => s.heap.size ≤ z9) b := Nat.not_le.mpr hbl
  obtain ⟨hc1, hc2⟩ := hc
  unfold fG_b at hf
  refine lv_aload_n hx hb dL_law_79 rfl (lv_at hl 1 rfl) ?_
  refine lv_aload_n hx hb dL_law_80 rfl (lv_at hl 2 rfl) ?_
  refine lv_aload_n hx hb dL_law_81 rfl (lv_at hl 3 rfl) ?_
  refine lv_aload hx hb dL_law_82 (lv_at hl 4 rfl) ?_
  obtain ⟨⟨v2, y1⟩, ev2, hf⟩ := x_bind hf
  refine xf_sp (As := [.ref (a 0), .ref aa, .ref ah, .ref af]) (rest := []) (wcs := [[qcC cs aa 64 va], [qcC cs ah 8 vh], [qcC cs af 64 vf]] ++ w4 cs a y) (w1s := [[qcC cs aa 64 va], [qcC cs ah 8 vh], [qcC cs af 64 vf]] ++ w4 cs a y1) ⟨hx, hb, hml, hown, hts⟩ (kL_areValues l hlS dC dI cs aa ah af a H.size va vh vf y _ ev2) (va_cwS 4 hts gL_law_L_areValues rfl rfl rfl cdL_areValues ⟨Nat.le_of_ble_eq_true rfl, Nat.le_of_ble_eq_true rfl⟩) hK hP (x_addrF hD rfl) hS hA hTh hN [0, 1, 2, 4, 5, 6, 7, 8, 9, 10, 11, 12, 13] rfl rfl rfl (by decide) rfl rfl hl.1 rfl (Nat.le_of_ble_eq_true rfl) dL_law_84 ⟨by show _ ≤ 791945; omega, by show _ ≤ 6725633; omega⟩ (fun H locs hP hS => ?_)
  have hP : va_P (dC, dI) vwCl (([[qcC cs aa 64 va], [qcC cs ah 8 vh], [qcC cs af 64 vf], [qcC cs ao 1 vo]] ++ w4 cs a y1).flatten) H := hP
  obtain ⟨c3a, c3b, c3t, c3f⟩ := x_eqE hf
  refine xk_if_eq (tgt := 107) hx hb c3a dL_law_87 (by decide) (fun c3 => ?_) (fun c3 => ?_)
  · have hf := c3t c3
    refine xk_iconst hx hb dL_law_107 ?_
    cases hf
  · have hf := c3f c3
    refine lv_aload_n hx hb dL_law_90 rfl (lv_at hl 1 rfl) ?_
    obtain ⟨⟨v4, y5⟩, ev4, hf⟩ := x_bind hf
    refine xf_wi (As := []) (rest := []) (wcs := w4 cs a y1) (w1s := w4 cs a y5) ⟨hx, hb, hml, hown, hts⟩ (c4_empty l dC dI cs a _ y1 _ ev4) (cwV 0 hts gL_law_X4_empty rfl rfl rfl cdX4_empty ⟨Nat.le_of_ble_eq_true rfl, Nat.le_of_ble_eq_true rfl⟩) hK hP (x_addrF hD rfl) hS hA [4, 5, 6, 7, 8, 9, 10, 11, 12, 13] rfl rfl rfl (by decide) rfl rfl rfl rfl hl.1 rfl (Nat.le_of_ble_eq_true rfl) dL_law_91 ⟨by show _ ≤ 791945; omega, by show _ ≤ 6725633; omega⟩ (fun H locs hP hS => ?_)
    have hP : va_P (dC, dI) vwCl (([[qcC cs aa 64 va], [qcC cs ah 8 vh], [qcC cs af 64 vf], [qcC cs ao 1 vo]] ++ w4 cs a y5).flatten) H := hP
    obtain ⟨c6a, c6b, c6t, c6f⟩ := x_eqE hf
    refine xk_if_ne (tgt := 107) hx hb c6a dL_law_94 (by decide) (fun c6 => ?_) (fun c6 => ?_)
    · have hf := c6t c6
      refine lv_aload_n hx hb dL_law_97 rfl (lv_at hl 1 rfl) ?_
      refine lv_aload hx hb dL_law_98 (lv_at hl 5 rfl) ?_
      obtain ⟨⟨v9, g7, y8⟩, ev9, hf⟩ := x_bind hf
      refine xf_sw (As := [.ref (a 0), .ref ao]) (rest := []) (wcs := [[qcC cs ao 1 vo]] ++ w4 cs a y5) (w1s := [[qcC cs ao 1 g7]] ++ w4 cs a y8) ⟨hx, hb, hml, hown, hts⟩ (kL_mergeLightest l hlS dC dI cs ao a H.size vo y5 _ ev9) (vx_cwSW 2 hts gL_law_L_mergeLightest rfl rfl rfl cdL_mergeLightest ⟨Nat.le_of_ble_eq_true rfl, Nat.le_of_ble_eq_true rfl⟩) hK hP (x_addrF hD rfl) hS hA hTh hN [3, 4, 5, 6, 7, 8, 9, 10, 11, 12, 13] rfl rfl rfl (by decide) rfl rfl hl.1 rfl (Nat.le_of_ble_eq_true rfl) dL_law_100 ⟨by show _ ≤ 791945; omega, by show _ ≤ 6725633; omega⟩ (fun H locs hP hS => ?_)
      have hP : va_P (dC, dI) vwCl (([[qcC cs aa 64 va], [qcC cs ah 8 vh], [qcC cs af 64 vf], [qcC cs ao 1 g7]] ++ w4 cs a y8).flatten) H := hP
      refine xk_iconst hx hb dL_law_103 ?_
      obtain ⟨c10a, c10b, c10t, c10f⟩ := x_eqE hf
      refine xk_icmp_eq (tgt := 109) hx hb c10a c10b dL_law_104 (by decide) (fun c10 => ?_) (fun c10 => ?_)
      · have hf := c10t c10
        refine xk_iconst hx hb dL_law_109 ?_
        refine lv_istore (lv' := [(7, .int (iI 1)), (0, .ref b), (1, .ref (a 0)), (2, .ref aa), (3, .ref ah), (4, .ref af), (5, .ref ao)]) hx hb dL_law_110 hl (by decide) rfl (fun ls hl => ?_)
        obtain rfl := Option.some.inj hf
        refine W.widen (k := cells0 + 85) (n := slots0 + 505) (by omega) (by omega) ?_
        exact hkk _ _ _ hP hS (lv_sub hl [1, 2, 3, 4, 5, 0] rfl)
      · have hf := c10f c10
        refine xk_iconst hx hb dL_law_107 ?_
        cases hf
    · have hf := c6f c6
      refine xk_iconst hx hb dL_law_107 ?_
      cases hf

set_option maxHeartbeats 8000000 in
set_option maxRecDepth 100000 in
theorem kG_a {p : Program} {e : Env} {s : State} {m : MethodId} {below : List Frame} {meth : Method} {c : Code} {b L : Nat} {xs : Nat → Int32} (l : Launch) (hlS : l.stackTraces = false) (dC : Nat → ClassId) (dI : Nat → Nat → Nat) (cs : Nat → ClassId) (aa ah af ao : Nat) (a : Nat → Nat) (hLb : L ≤ 260) (hx : p.tables.exec = Jvm.exec) (hb : c.code = cL_law) (hml : c.maxLocals = 11) (hown : s.vm.findClass RL = some m.cls) (hts : ∀ w ∈ wsL_law, w.before #[Value.ref b] s = true) (hX : va_X b L xs s s.heap) (hbl : b < s.heap.size) (hTh : xTh (fun z9 : Nat => s.heap.size ≤ z9) s) (hN : ∀ q ∈ x_ncs, va_Nc q.1 q.2 s) (hK : va_K (dC, dI) vwCl (xT cs) s) {Q : State → Prop} (va : Int → Int) (vh : Int → Int) (vf : Int → Int) (vo : Int → Int) (y : BrS) (res : (Int → Int) × (Int → Int) × (Int → Int) × (Int → Int) × BrS) (hf : fG_a (x_sc xs) (L : Int) va vh vf vo y = some res) {cells0 slots0 : Nat} (hc : cells0 + 1 ≤ 791945 ∧ slots0 + 6 ≤ 6725633) {H : Heap} {locs : List Loc} {ls : Array Slot} (hP : va_P (dC, dI) vwCl (([[qcC cs aa 64 va], [qcC cs ah 8 vh], [qcC cs af 64 vf], [qcC cs ao 1 vo]] ++ w4 cs a y).flatten) H) (hD : va_D (fun z9 : Nat => s.heap.size ≤ z9) (([[qcC cs aa 64 va], [qcC cs ah 8 vh], [qcC cs af 64 vf], [qcC cs ao 1 vo]] ++ w4 cs a y).flatten)) (hS : va_S (fun z9 : Nat => s.heap.size ≤ z9) s.heap H locs) (hl : lv_has ls 11 [(0, .ref b), (1, .ref (a 0)), (2, .ref aa), (3, .ref ah), (4, .ref af), (5, .ref ao)])
    (hkk : ∀ (H : Heap) (locs : List Loc) (ls : Array Slot), va_P (dC, dI) vwCl (([[qcC cs aa 64 res.1], [qcC cs ah 8 res.2.1], [qcC cs af 64 res.2.2.1], [qcC cs ao 1 res.2.2.2.1]] ++ w4 cs a res.2.2.2.2).flatten) H → va_S (fun z9 : Nat => s.heap.size ≤ z9) s.heap H locs → lv_has ls 11 [(0, .ref b), (1, .ref (a 0)), (2, .ref aa), (3, .ref ah), (4, .ref af), (5, .ref ao)] → W p l e room_1 s m #[Value.ref b] below meth c H locs (cells0 + 1) (slots0 + 6) Q (F0 m 79 ls [])) : W p l e room_1 s m #[Value.ref b] below meth c H locs cells0 slots0 Q (F0 m 29 ls []) := by
  have hA : ∀ z9 : Nat, s.heap.size ≤ z9 → (fun z9 : Nat => s.heap.size ≤ z9) z9 := fun z9 h => h
  have hbA : ¬ (fun z9 : Nat => s.heap.size ≤ z9) b := Nat.not_le.mpr hbl
  obtain ⟨hc1, hc2⟩ := hc
  unfold fG_a at hf
  refine lv_aload_n hx hb dL_law_29 rfl (lv_at hl 0 rfl) ?_
  refine xk_iconst hx hb dL_law_30 ?_
  obtain ⟨v1, ev1, hf⟩ := x_bind hf
  refine xc_cell (rest := []) ⟨hx, hb, hml, hown, hts⟩ hLb hX hbl hbA hS ev1 (va_cwS 2 hts gL_law_L_cell rfl rfl rfl cdL_cell ⟨Nat.le_of_ble_eq_true rfl, Nat.le_of_ble_eq_true rfl⟩) hl.1 rfl (Nat.le_of_ble_eq_true rfl) dL_law_31 ⟨by show _ ≤ 791945; omega, by show _ ≤ 6725633; omega⟩ ?_
  refine lv_istore (lv' := [(6, .int (iI v1)), (0, .ref b), (1, .ref (a 0)), (2, .ref aa), (3, .ref ah), (4, .ref af), (5, .ref ao)]) hx hb dL_law_34 hl (by decide) rfl (fun ls hl => ?_)
  refine lv_aload_n hx hb dL_law_36 rfl (lv_at hl 4 rfl) ?_
  refine xk_iconst hx hb dL_law_37 ?_
  refine xk_iconst hx hb dL_law_38 ?_
  obtain ⟨g2, eg2, hf⟩ := x_bind hf
  refine xk_iast (f := vh) hx hb hK hP (x_addrF hD rfl) hS 1 0 eg2 (by decide) rfl rfl dL_law_39 (fun H locs hP hS => ?_)
  have hP : va_P (dC, dI) vwCl (([[qcC cs aa 64 va], [qcC cs ah 8 g2], [qcC cs af 64 vf], [qcC cs ao 1 vo]] ++ w4 cs a y).flatten) H := hP
  refine lv_aload_n hx hb dL_law_40 rfl (lv_at hl 4 rfl) ?_
  refine xk_iconst hx hb dL_law_41 ?_
  refine xk_iconst hx hb dL_law_42 ?_
  obtain ⟨g3, eg3, hf⟩ := x_bind hf
  refine xk_iast (f := g2) hx hb hK hP (x_addrF hD rfl) hS 1 0 eg3 (by decide) rfl rfl dL_law_43 (fun H locs hP hS => ?_)
  have hP : va_P (dC, dI) vwCl (([[qcC cs aa 64 va], [qcC cs ah 8 g3], [qcC cs af 64 vf], [qcC cs ao 1 vo]] ++ w4 cs a y).flatten) H := hP
  refine lv_iload hx hb dL_law_44 (lv_at hl 0 rfl) ?_
  refine xk_iconst hx hb dL_law_46 ?_
  obtain ⟨v4, ev4, hf⟩ := x_bind hf
  refine xc_si (As := [.int (iI v1), .int (iI 3)]) (rest := []) ⟨hx, hb, hml, hown, hts⟩ (kL_low l v1 3 _ ev4) (va_cwS 2 hts gL_law_L_low rfl rfl rfl cdL_low ⟨Nat.le_of_ble_eq_true rfl, Nat.le_of_ble_eq_true rfl⟩) rfl hl.1 rfl (Nat.le_of_ble_eq_true rfl) dL_law_47 ⟨by show _ ≤ 791945; omega, by show _ ≤ 6725633; omega⟩ ?_
  obtain ⟨c5a, c5b, c5t, c5f⟩ := x_ltE hf
  refine xk_if_le (tgt := 79) hx hb c5b dL_law_50 (by decide) (fun c5 => ?_) (fun c5 => ?_)
  · have hf := c5t c5
    refine lv_aload_n hx hb dL_law_53 rfl (lv_at hl 4 rfl) ?_
    refine xk_iconst hx hb dL_law_54 ?_
    refine xk_iconst hx hb dL_law_55 ?_
    refine lv_iload hx hb dL_law_56 (lv_at hl 0 rfl) ?_
    refine xk_iconst hx hb dL_law_58 ?_
    refine xk_ishr hx hb dL_law_59 ?_
    refine xk_bipush hx hb dL_law_60 (by decide) ?_
    obtain ⟨v6, ev6, hf⟩ := x_bind hf
    refine xc_si (As := [.int (iI (x_shr v1 4)), .int (iI 12)]) (rest := [.int (iI 1), .int (iI 1), .ref ah]) ⟨hx, hb, hml, hown, hts⟩ (kL_low l (x_shr v1 4) 12 _ ev6) (va_cwS 2 hts gL_law_L_low rfl rfl rfl cdL_low ⟨Nat.le_of_ble_eq_true rfl, Nat.le_of_ble_eq_true rfl⟩) rfl hl.1 rfl (Nat.le_of_ble_eq_true rfl) dL_law_62 ⟨by show _ ≤ 791945; omega, by show _ ≤ 6725633; omega⟩ ?_
    refine xk_iadd hx hb dL_law_65 ?_
    obtain ⟨g7, eg7, hf⟩ := x_bind hf
    refine xk_iast (f := g3) hx hb hK hP (x_addrF hD rfl) hS 1 0 eg7 (by decide) rfl rfl dL_law_66 (fun H locs hP hS => ?_)
    have hP : va_P (dC, dI) vwCl (([[qcC cs aa 64 va], [qcC cs ah 8 g7], [qcC cs af 64 vf], [qcC cs ao 1 vo]] ++ w4 cs a y).flatten) H := hP
    refine lv_aload_n hx hb dL_law_67 rfl (lv_at hl 2 rfl) ?_
    refine lv_aload_n hx hb dL_law_68 rfl (lv_at hl 4 rfl) ?_
    refine xk_iconst hx hb dL_law_69 ?_
    obtain ⟨v8, ev8, hf⟩ := x_bind hf
    refine xk_iald (f := g7) hx hb hK hP 1 0 ev8 (by decide) rfl rfl dL_law_70 ?_
    obtain ⟨⟨c11, v9, y10⟩, ev9, hf⟩ := x_bind hf
    obtain ⟨zc11, hf⟩ := x_zrE hf
    refine xf_xi (As := [.int (iI v8)]) (rest := []) (wcs := w4 cs a y) (w1s := w4 cs a y10) ⟨hx, hb, hml, hown, hts⟩ (c4_begin l hlS dC dI cs a _ y v8 _ ev9) (cwV 1 hts gL_law_X4_begin rfl rfl rfl cdX4_begin ⟨Nat.le_of_ble_eq_true rfl, Nat.le_of_ble_eq_true rfl⟩) hK hP (x_addrF hD rfl) hS hA hTh [4, 5, 6, 7, 8, 9, 10, 11, 12, 13] rfl rfl rfl (by decide) rfl rfl rfl rfl hl.1 rfl (Nat.le_of_ble_eq_true rfl) dL_law_71 ⟨by show _ ≤ 791945; omega, by show _ ≤ 6725633; omega⟩ (fun _ H locs hP hS => ?_) (fun hk => absurd zc11 hk)
    have hP : va_P (dC, dI) vwCl (([[qcC cs aa 64 va], [qcC cs ah 8 g7], [qcC cs af 64 vf], [qcC cs ao 1 vo]] ++ w4 cs a y10).flatten) H := hP
    obtain ⟨c12a, c12b, c12t, c12f⟩ := x_eqE hf
    refine xk_if_eq (tgt := 79) hx hb c12a dL_law_74 (by decide) (fun c12 => ?_) (fun c12 => ?_)
    · have hf := c12t c12
      obtain rfl := Option.some.inj hf
      refine W.widen (k := cells0 + 1) (n := slots0 + 6) (by omega) (by omega) ?_
      exact hkk _ _ _ hP hS (lv_sub hl [1, 2, 3, 4, 5, 6] rfl)
    · have hf := c12f c12
      refine xk_iconst hx hb dL_law_77 ?_
      cases hf
  · have hf := c5f c5
    obtain rfl := Option.some.inj hf
    refine W.widen (k := cells0 + 1) (n := slots0 + 6) (by omega) (by omega) ?_
    exact hkk _ _ _ hP hS (lv_sub hl [1, 2, 3, 4, 5, 6] rfl)

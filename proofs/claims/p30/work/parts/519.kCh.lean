set_option maxHeartbeats 8000000 in
set_option maxRecDepth 100000 in
theorem kL_isEmptied (l : Launch) (hlS : l.stackTraces = false) (dC : Nat → ClassId) (dI : Nat → Nat → Nat) (cs : Nat → ClassId) (aa : Nat) (ah : Nat) (af : Nat) (a : Nat → Nat) (sz : Nat) (va : Int → Int) (vh : Int → Int) (vf : Int → Int) (y : BrS) (res : Int × (Int → Int) × (Int → Int) × (Int → Int) × BrS) (hf : fL_isEmptied va vh vf y = some res) : Met l yL_isEmptied wsL_isEmptied ({ frames := 7, cells := 0, slots := 0, locals := 164 } : Room) (va_Pc [.ref (a 0), .ref aa, .ref ah, .ref af] (xPL (dC, dI) vwCl (([[qcC cs aa 64 va], [qcC cs ah 8 vh], [qcC cs af 64 vf]] ++ w4 cs a y).flatten) (xT cs) sz)) (xQi (dC, dI) vwCl (([[qcC cs aa 64 va], [qcC cs ah 8 vh], [qcC cs af 64 vf]] ++ w4 cs a y).flatten) (([[qcC cs aa 64 res.2.1], [qcC cs ah 8 res.2.2.1], [qcC cs af 64 res.2.2.2.1]] ++ w4 cs a res.2.2.2.2).flatten) sz res.1) 0 0 (va_A (([[qcC cs aa 64 va], [qcC cs ah 8 vh], [qcC cs af 64 vf]] ++ w4 cs a y).flatten) sz) := by
  refine Met.ofW (cc := cL_isEmptied) (maxL := 4) (ret := (some .boolean)) (by decide) rfl ?_
  intro p e s m args below meth c s₁ B hml hv
  obtain ⟨rfl, ⟨⟨hsz, hP, hK, hD0⟩, hTh⟩, hN⟩ := hv
  have hx := B.exec
  have hb := B.bytes
  have hr := B.returns
  have hts := atoms_spec (ws := wsL_isEmptied) B.pre
  have hown : s.vm.findClass RL = some m.cls := findClass_of_methodNamed B.named
  have hlocks := B.notSynchronized
  subst hsz
  have hD := hD0.self (sz := s.heap.size)
  have hA : ∀ z9 : Nat, s.heap.size ≤ z9 → va_A (([[qcC cs aa 64 va], [qcC cs ah 8 vh], [qcC cs af 64 vf]] ++ w4 cs a y).flatten) s.heap.size z9 := fun z9 h => Or.inr h
  have hS : va_S (va_A (([[qcC cs aa 64 va], [qcC cs ah 8 vh], [qcC cs af 64 vf]] ++ w4 cs a y).flatten) s.heap.size) s.heap s.heap [] := va_S.rf
  have hl := lv_entry [.ref (a 0), .ref aa, .ref ah, .ref af] (n := 4) (Nat.le_of_ble_eq_true rfl)
  rw [lg_entry_eq]
  generalize (lg_sl [.ref (a 0), .ref aa, .ref ah, .ref af] ++ List.replicate (4 - (lg_sl [.ref (a 0), .ref aa, .ref ah, .ref af]).length) Slot.unset).toArray = ls at hl ⊢
  have hl : lv_has ls 4 [(0, .ref (a 0)), (1, .ref aa), (2, .ref ah), (3, .ref af)] := hl
  unfold fL_isEmptied at hf
  refine lv_aload_n hx hb dL_isEmptied_0 rfl (lv_at hl 2 rfl) ?_
  refine xk_iconst hx hb dL_isEmptied_1 ?_
  obtain ⟨v1, ev1, hf⟩ := x_bind hf
  refine xk_iald (f := vh) hx hb hK hP 1 0 ev1 (by decide) rfl rfl dL_isEmptied_2 ?_
  refine lv_aload_n hx hb dL_isEmptied_3 rfl (lv_at hl 1 rfl) ?_
  refine lv_aload_n hx hb dL_isEmptied_4 rfl (lv_at hl 2 rfl) ?_
  refine xk_iconst hx hb dL_isEmptied_5 ?_
  refine xk_iconst hx hb dL_isEmptied_6 ?_
  obtain ⟨v2, ev2, hf⟩ := x_bind hf
  refine xf_sri (As := [.ref aa, .ref ah, .int (iI 0), .int (iI (-1))]) (rest := [.int (iI v1)]) (wcs := ([[qcC cs aa 64 va], [qcC cs ah 8 vh]] : List va_W)) ⟨hx, hb, hml, hown, hts⟩ (kL_many l dC dI cs aa ah va vh 0 (-1) _ ev2) (va_cwS 4 hts gL_isEmptied_L_many rfl rfl rfl cdL_many ⟨Nat.le_of_ble_eq_true rfl, Nat.le_of_ble_eq_true rfl⟩) hK hP [0, 1] rfl rfl rfl hl.1 rfl (Nat.le_of_ble_eq_true rfl) dL_isEmptied_7 ⟨by show _ ≤ 0; omega, by show _ ≤ 0; omega⟩ ?_
  refine xk_iadd hx hb dL_isEmptied_10 ?_
  refine xk_bipush hx hb dL_isEmptied_11 (by decide) ?_
  obtain ⟨c3a, c3b, c3t, c3f⟩ := x_ltE hf
  refine xk_icmp_le (tgt := 18) hx hb c3b c3a dL_isEmptied_13 (by decide) (fun c3 => ?_) (fun c3 => ?_)
  · have hf := c3t c3
    refine xk_iconst hx hb dL_isEmptied_16 ?_
    obtain rfl := Option.some.inj hf
    refine W.widen (k := 0) (n := 0) (by omega) (by omega) ?_
    exact xe_wz hx hb hr (Or.inr rfl) hlocks hS hP dL_isEmptied_17
  · have hf := c3f c3
    refine lv_aload_n hx hb dL_isEmptied_18 rfl (lv_at hl 1 rfl) ?_
    refine lv_aload_n hx hb dL_isEmptied_19 rfl (lv_at hl 2 rfl) ?_
    refine lv_aload_n hx hb dL_isEmptied_20 rfl (lv_at hl 3 rfl) ?_
    obtain ⟨⟨g4, g5, g6⟩, eg4, hf⟩ := x_bind hf
    refine xf_swv (As := [.ref aa, .ref ah, .ref af]) (rest := []) (wcs := ([[qcC cs aa 64 va], [qcC cs ah 8 vh], [qcC cs af 64 vf]] : List va_W)) (w1s := ([[qcC cs aa 64 g4], [qcC cs ah 8 g5], [qcC cs af 64 g6]] : List va_W)) ⟨hx, hb, hml, hown, hts⟩ (kL_empties l dC dI cs aa ah af _ va vh vf _ eg4) (va_cwS 3 hts gL_isEmptied_L_empties rfl rfl rfl cdL_empties ⟨Nat.le_of_ble_eq_true rfl, Nat.le_of_ble_eq_true rfl⟩) hK hP (x_addrF hD rfl) hS hA [0, 1, 2] rfl rfl rfl (by decide) rfl rfl hl.1 rfl (Nat.le_of_ble_eq_true rfl) dL_isEmptied_21 ⟨by show _ ≤ 0; omega, by show _ ≤ 0; omega⟩ (fun H locs hP hS => ?_)
    have hP : va_P (dC, dI) vwCl (([[qcC cs aa 64 g4], [qcC cs ah 8 g5], [qcC cs af 64 g6]] ++ w4 cs a y).flatten) H := hP
    refine lv_aload_n hx hb dL_isEmptied_24 rfl (lv_at hl 0 rfl) ?_
    obtain ⟨⟨v7, y8⟩, ev7, hf⟩ := x_bind hf
    refine xf_wi (As := []) (rest := []) (wcs := w4 cs a y) (w1s := w4 cs a y8) ⟨hx, hb, hml, hown, hts⟩ (c4_empty l dC dI cs a _ y _ ev7) (cwV 0 hts gL_isEmptied_X4_empty rfl rfl rfl cdX4_empty ⟨Nat.le_of_ble_eq_true rfl, Nat.le_of_ble_eq_true rfl⟩) hK hP (x_addrF hD rfl) hS hA [3, 4, 5, 6, 7, 8, 9, 10, 11, 12] rfl rfl rfl (by decide) rfl rfl rfl rfl hl.1 rfl (Nat.le_of_ble_eq_true rfl) dL_isEmptied_25 ⟨by show _ ≤ 0; omega, by show _ ≤ 0; omega⟩ (fun H locs hP hS => ?_)
    have hP : va_P (dC, dI) vwCl (([[qcC cs aa 64 g4], [qcC cs ah 8 g5], [qcC cs af 64 g6]] ++ w4 cs a y8).flatten) H := hP
    refine lv_aload_n hx hb dL_isEmptied_28 rfl (lv_at hl 2 rfl) ?_
    refine lv_aload_n hx hb dL_isEmptied_29 rfl (lv_at hl 3 rfl) ?_
    obtain ⟨v9, ev9, hf⟩ := x_bind hf
    refine xf_sri (As := [.ref ah, .ref af]) (rest := [.int (iI v7)]) (wcs := ([[qcC cs ah 8 g5], [qcC cs af 64 g6]] : List va_W)) ⟨hx, hb, hml, hown, hts⟩ (kL_runs l dC dI cs ah af g5 g6 _ ev9) (va_cwS 2 hts gL_isEmptied_L_runs rfl rfl rfl cdL_runs ⟨Nat.le_of_ble_eq_true rfl, Nat.le_of_ble_eq_true rfl⟩) hK hP [1, 2] rfl rfl rfl hl.1 rfl (Nat.le_of_ble_eq_true rfl) dL_isEmptied_30 ⟨by show _ ≤ 0; omega, by show _ ≤ 0; omega⟩ ?_
    obtain ⟨c10a, c10b, c10t, c10f⟩ := x_eqE hf
    refine xk_icmp_ne (tgt := 40) hx hb c10a c10b dL_isEmptied_33 (by decide) (fun c10 => ?_) (fun c10 => ?_)
    · have hf := c10t c10
      refine xk_iconst hx hb dL_isEmptied_36 ?_
      refine lv_goto (tgt := 41) hx hb dL_isEmptied_37 (by decide) ?_
      obtain rfl := Option.some.inj hf
      refine W.widen (k := 0) (n := 0) (by omega) (by omega) ?_
      exact xe_wz hx hb hr (Or.inr rfl) hlocks hS hP dL_isEmptied_41
    · have hf := c10f c10
      refine xk_iconst hx hb dL_isEmptied_40 ?_
      obtain rfl := Option.some.inj hf
      refine W.widen (k := 0) (n := 0) (by omega) (by omega) ?_
      exact xe_wz hx hb hr (Or.inl rfl) hlocks hS hP dL_isEmptied_41
theorem cdL_isEmptied : yL_isEmptied.cls ≠ "java/lang/invoke/MethodHandle" ∧ yL_isEmptied.cls ≠ "java/lang/invoke/VarHandle" ∧ (parseMethodDescriptor yL_isEmptied.desc).map (fun d => d.parameters.length) = some 4 := by decide +kernel

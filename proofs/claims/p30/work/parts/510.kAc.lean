set_option maxHeartbeats 8000000 in
set_option maxRecDepth 100000 in
theorem kL_empties (l : Launch) (dC : Nat → ClassId) (dI : Nat → Nat → Nat) (cs : Nat → ClassId) (aa : Nat) (ah : Nat) (af : Nat) (sz : Nat) (va : Int → Int) (vh : Int → Int) (vf : Int → Int) (res : (Int → Int) × (Int → Int) × (Int → Int)) (hf : fL_empties va vh vf = some res) : Met l yL_empties wsL_empties ({ frames := 6, cells := 0, slots := 0, locals := 141 } : Room) (va_Pc [.ref aa, .ref ah, .ref af] (xPW (dC, dI) vwCl ((([[qcC cs aa 64 va], [qcC cs ah 8 vh], [qcC cs af 64 vf]] : List va_W)).flatten) (xT cs) sz)) (xQv (dC, dI) vwCl ((([[qcC cs aa 64 va], [qcC cs ah 8 vh], [qcC cs af 64 vf]] : List va_W)).flatten) ((([[qcC cs aa 64 res.1], [qcC cs ah 8 res.2.1], [qcC cs af 64 res.2.2]] : List va_W)).flatten) sz) 0 0 (va_A ((([[qcC cs aa 64 va], [qcC cs ah 8 vh], [qcC cs af 64 vf]] : List va_W)).flatten) sz) := by
  refine Met.ofW (cc := cL_empties) (maxL := 4) (ret := none) (by decide) rfl ?_
  intro p e s m args below meth c s₁ B hml hv
  obtain ⟨rfl, hsz, hP, hK, hD0⟩ := hv
  have hx := B.exec
  have hb := B.bytes
  have hr := B.returns
  have hts := atoms_spec (ws := wsL_empties) B.pre
  have hown : s.vm.findClass RL = some m.cls := findClass_of_methodNamed B.named
  have hlocks := B.notSynchronized
  subst hsz
  have hD := hD0.self (sz := s.heap.size)
  have hA : ∀ z9 : Nat, s.heap.size ≤ z9 → va_A ((([[qcC cs aa 64 va], [qcC cs ah 8 vh], [qcC cs af 64 vf]] : List va_W)).flatten) s.heap.size z9 := fun z9 h => Or.inr h
  have hS : va_S (va_A ((([[qcC cs aa 64 va], [qcC cs ah 8 vh], [qcC cs af 64 vf]] : List va_W)).flatten) s.heap.size) s.heap s.heap [] := va_S.rf
  have hl := lv_entry [.ref aa, .ref ah, .ref af] (n := 4) (Nat.le_of_ble_eq_true rfl)
  rw [lg_entry_eq]
  generalize (lg_sl [.ref aa, .ref ah, .ref af] ++ List.replicate (4 - (lg_sl [.ref aa, .ref ah, .ref af]).length) Slot.unset).toArray = ls at hl ⊢
  have hl : lv_has ls 4 [(0, .ref aa), (1, .ref ah), (2, .ref af)] := hl
  unfold fL_empties at hf
  refine lv_aload_n hx hb dL_empties_0 rfl (lv_at hl 0 rfl) ?_
  refine lv_aload_n hx hb dL_empties_1 rfl (lv_at hl 1 rfl) ?_
  refine xk_iconst hx hb dL_empties_2 ?_
  refine xk_iconst hx hb dL_empties_3 ?_
  obtain ⟨v1, ev1, hf⟩ := x_bind hf
  refine xf_sri (As := [.ref aa, .ref ah, .int (iI 0), .int (iI (-1))]) (rest := []) (wcs := ([[qcC cs aa 64 va], [qcC cs ah 8 vh]] : List va_W)) ⟨hx, hb, hml, hown, hts⟩ (kL_many l dC dI cs aa ah va vh 0 (-1) _ ev1) (va_cwS 4 hts gL_empties_L_many rfl rfl rfl cdL_many ⟨Nat.le_of_ble_eq_true rfl, Nat.le_of_ble_eq_true rfl⟩) hK hP [0, 1] rfl rfl rfl hl.1 rfl (Nat.le_of_ble_eq_true rfl) dL_empties_4 ⟨Nat.zero_le _, Nat.zero_le _⟩ ?_
  refine lv_istore_n (lv' := [(3, .int (iI v1)), (0, .ref aa), (1, .ref ah), (2, .ref af)]) hx hb dL_empties_7 rfl hl (by decide) rfl (fun ls hl => ?_)
  have hL8 : ∀ (n5 : Nat) (l3 : Int) (g2 : Int → Int) (g3 : Int → Int) (g4 : Int → Int), fL_empties_L8  n5 l3 g2 g3 g4 = some res → ∀ (H : Heap) (locs : List Loc), va_P (dC, dI) vwCl ((([[qcC cs aa 64 g2], [qcC cs ah 8 g3], [qcC cs af 64 g4]] : List va_W)).flatten) H → va_S (va_A ((([[qcC cs aa 64 va], [qcC cs ah 8 vh], [qcC cs af 64 vf]] : List va_W)).flatten) s.heap.size) s.heap H locs → ∀ (ls : Array Slot), lv_has ls 4 [(0, .ref aa), (1, .ref ah), (2, .ref af), (3, .int (iI l3))] → W p l e (headSpec wsL_empties ({ frames := 6, cells := 0, slots := 0, locals := 141 } : Room)).room s m ([.ref aa, .ref ah, .ref af] : List Value).toArray below meth c H locs 0 0 (MQ below (xQv (dC, dI) vwCl ((([[qcC cs aa 64 va], [qcC cs ah 8 vh], [qcC cs af 64 vf]] : List va_W)).flatten) ((([[qcC cs aa 64 res.1], [qcC cs ah 8 res.2.1], [qcC cs af 64 res.2.2]] : List va_W)).flatten) s.heap.size) ([.ref aa, .ref ah, .ref af] : List Value).toArray s 0 0 (va_A ((([[qcC cs aa 64 va], [qcC cs ah 8 vh], [qcC cs af 64 vf]] : List va_W)).flatten) s.heap.size)) (F0 m 8 ls []) := by
    intro  n5
    induction n5 with
    | zero => intro l3 g2 g3 g4 hf; have hf : (none : Option ((Int → Int) × (Int → Int) × (Int → Int))) = some res := hf; cases hf
    | succ n5 ih8 =>
      intro l3 g2 g3 g4 hf H locs hP hS ls hl
      rw [fL_empties_L8] at hf
      refine lv_iload_n hx hb dL_empties_8 rfl (lv_at hl 3 rfl) ?_
      obtain ⟨c6a, c6b, c6t, c6f⟩ := x_ltE hf
      refine xk_if_le (tgt := 25) hx hb c6b dL_empties_9 (by decide) (fun c6 => ?_) (fun c6 => ?_)
      · have hf := c6t c6
        refine lv_aload_n hx hb dL_empties_12 rfl (lv_at hl 0 rfl) ?_
        refine lv_aload_n hx hb dL_empties_13 rfl (lv_at hl 1 rfl) ?_
        refine lv_aload_n hx hb dL_empties_14 rfl (lv_at hl 2 rfl) ?_
        obtain ⟨⟨v10, g7, g8, g9⟩, ev10, hf⟩ := x_bind hf
        refine xf_swi (As := [.ref aa, .ref ah, .ref af]) (rest := []) (wcs := ([[qcC cs aa 64 g2], [qcC cs ah 8 g3], [qcC cs af 64 g4]] : List va_W)) (w1s := ([[qcC cs aa 64 g7], [qcC cs ah 8 g8], [qcC cs af 64 g9]] : List va_W)) ⟨hx, hb, hml, hown, hts⟩ (kL_throwsOne l dC dI cs aa ah af _ g2 g3 g4 _ ev10) (va_cwS 3 hts gL_empties_L_throwsOne rfl rfl rfl cdL_throwsOne ⟨Nat.le_of_ble_eq_true rfl, Nat.le_of_ble_eq_true rfl⟩) hK hP (x_addrF hD rfl) hS hA [0, 1, 2] rfl rfl rfl (by decide) rfl rfl hl.1 rfl (Nat.le_of_ble_eq_true rfl) dL_empties_15 ⟨Nat.zero_le _, Nat.zero_le _⟩ (fun H locs hP hS => ?_)
        have hP : va_P (dC, dI) vwCl ((([[qcC cs aa 64 g7], [qcC cs ah 8 g8], [qcC cs af 64 g9]] : List va_W)).flatten) H := hP
        refine lv_pop hx hb dL_empties_18 rfl ?_
        refine xk_iinc (lv' := [(3, .int (iI (l3 + (-1)))), (0, .ref aa), (1, .ref ah), (2, .ref af)]) hx hb dL_empties_19 hl (k := 3) rfl (by decide) rfl (fun ls hl => ?_)
        refine lv_goto (tgt := 8) hx hb dL_empties_22 (by decide) ?_
        exact ih8 (l3 + (-1)) g7 g8 g9 hf _ _ hP hS ls (lv_sub hl [1, 2, 3, 0] rfl)
      · have hf := c6f c6
        refine lv_aload_n hx hb dL_empties_25 rfl (lv_at hl 1 rfl) ?_
        refine xk_iconst hx hb dL_empties_26 ?_
        refine xk_iconst hx hb dL_empties_27 ?_
        obtain ⟨g11, eg11, hf⟩ := x_bind hf
        refine xk_iast (f := g3) hx hb hK hP (x_addrF hD rfl) hS 1 0 eg11 (by decide) rfl rfl dL_empties_28 (fun H locs hP hS => ?_)
        have hP : va_P (dC, dI) vwCl ((([[qcC cs aa 64 g2], [qcC cs ah 8 g11], [qcC cs af 64 g4]] : List va_W)).flatten) H := hP
        obtain rfl := Option.some.inj hf
        exact xe_wv hx hb hr hlocks hS hP dL_empties_29
  exact hL8  xFU v1 va vh vf hf _ _ hP hS ls (lv_sub hl [1, 2, 3, 0] rfl)
theorem cdL_empties : yL_empties.cls ≠ "java/lang/invoke/MethodHandle" ∧ yL_empties.cls ≠ "java/lang/invoke/VarHandle" ∧ (parseMethodDescriptor yL_empties.desc).map (fun d => d.parameters.length) = some 3 := by decide +kernel

set_option maxHeartbeats 8000000 in
set_option maxRecDepth 100000 in
theorem kL_merges (l : Launch) (dC : Nat → ClassId) (dI : Nat → Nat → Nat) (cs : Nat → ClassId) (aa : Nat) (ah : Nat) (af : Nat) (sz : Nat) (va : Int → Int) (vh : Int → Int) (vf : Int → Int) (p3 : Int) (p4 : Int) (res : Int × (Int → Int) × (Int → Int) × (Int → Int)) (hf : fL_merges va vh vf p3 p4 = some res) : Met l yL_merges wsL_merges ({ frames := 2, cells := 0, slots := 0, locals := 46 } : Room) (va_Pc [.ref aa, .ref ah, .ref af, .int (iI p3), .int (iI p4)] (xPW (dC, dI) vwCl ((([[qcC cs aa 64 va], [qcC cs ah 8 vh], [qcC cs af 64 vf]] : List va_W)).flatten) (xT cs) sz)) (xQi (dC, dI) vwCl ((([[qcC cs aa 64 va], [qcC cs ah 8 vh], [qcC cs af 64 vf]] : List va_W)).flatten) ((([[qcC cs aa 64 res.2.1], [qcC cs ah 8 res.2.2.1], [qcC cs af 64 res.2.2.2]] : List va_W)).flatten) sz res.1) 0 0 (va_A ((([[qcC cs aa 64 va], [qcC cs ah 8 vh], [qcC cs af 64 vf]] : List va_W)).flatten) sz) := by
  refine Met.ofW (cc := cL_merges) (maxL := 9) (ret := (some .int)) (by decide) rfl ?_
  intro p e s m args below meth c s₁ B hml hv
  obtain ⟨rfl, hsz, hP, hK, hD0⟩ := hv
  have hx := B.exec
  have hb := B.bytes
  have hr := B.returns
  have hts := atoms_spec (ws := wsL_merges) B.pre
  have hown : s.vm.findClass RL = some m.cls := findClass_of_methodNamed B.named
  have hlocks := B.notSynchronized
  subst hsz
  have hD := hD0.self (sz := s.heap.size)
  have hA : ∀ z9 : Nat, s.heap.size ≤ z9 → va_A ((([[qcC cs aa 64 va], [qcC cs ah 8 vh], [qcC cs af 64 vf]] : List va_W)).flatten) s.heap.size z9 := fun z9 h => Or.inr h
  have hS : va_S (va_A ((([[qcC cs aa 64 va], [qcC cs ah 8 vh], [qcC cs af 64 vf]] : List va_W)).flatten) s.heap.size) s.heap s.heap [] := va_S.rf
  have hl := lv_entry [.ref aa, .ref ah, .ref af, .int (iI p3), .int (iI p4)] (n := 9) (Nat.le_of_ble_eq_true rfl)
  rw [lg_entry_eq]
  generalize (lg_sl [.ref aa, .ref ah, .ref af, .int (iI p3), .int (iI p4)] ++ List.replicate (9 - (lg_sl [.ref aa, .ref ah, .ref af, .int (iI p3), .int (iI p4)]).length) Slot.unset).toArray = ls at hl ⊢
  have hl : lv_has ls 9 [(0, .ref aa), (1, .ref ah), (2, .ref af), (3, .int (iI p3)), (4, .int (iI p4))] := hl
  unfold fL_merges at hf
  refine lv_iload_n hx hb dL_merges_0 rfl (lv_at hl 3 rfl) ?_
  refine lv_iload hx hb dL_merges_1 (lv_at hl 4 rfl) ?_
  obtain ⟨c1a, c1b, c1t, c1f⟩ := x_ltE hf
  refine xk_icmp_ge (tgt := 10) hx hb c1a c1b dL_merges_3 (by decide) (fun c1 => ?_) (fun c1 => ?_)
  · have hf := c1t c1
    refine lv_iload_n hx hb dL_merges_6 rfl (lv_at hl 3 rfl) ?_
    refine lv_goto (tgt := 12) hx hb dL_merges_7 (by decide) ?_
    refine lv_istore (lv' := [(5, .int (iI p3)), (0, .ref aa), (1, .ref ah), (2, .ref af), (3, .int (iI p3)), (4, .int (iI p4))]) hx hb dL_merges_12 hl (by decide) rfl (fun ls hl => ?_)
    refine lv_iload_n hx hb dL_merges_14 rfl (lv_at hl 4 rfl) ?_
    refine lv_iload hx hb dL_merges_15 (lv_at hl 5 rfl) ?_
    refine xk_iadd hx hb dL_merges_17 ?_
    refine lv_iload hx hb dL_merges_18 (lv_at hl 0 rfl) ?_
    refine xk_isub hx hb dL_merges_20 ?_
    refine lv_istore (lv' := [(6, .int (iI ((p3 + p4) - p3))), (5, .int (iI p3)), (0, .ref aa), (1, .ref ah), (2, .ref af), (3, .int (iI p3)), (4, .int (iI p4))]) hx hb dL_merges_21 hl (by decide) rfl (fun ls hl => ?_)
    refine lv_aload_n hx hb dL_merges_23 rfl (lv_at hl 2 rfl) ?_
    refine lv_aload_n hx hb dL_merges_24 rfl (lv_at hl 3 rfl) ?_
    refine lv_iload_n hx hb dL_merges_25 rfl (lv_at hl 5 rfl) ?_
    obtain ⟨v2, ev2, hf⟩ := x_bind hf
    refine xf_sri (As := [.ref aa, .ref ah, .int (iI p3)]) (rest := []) (wcs := ([[qcC cs aa 64 va], [qcC cs ah 8 vh]] : List va_W)) ⟨hx, hb, hml, hown, hts⟩ (kL_weighs l dC dI cs aa ah va vh p3 _ ev2) (va_cwS 3 hts gL_merges_L_weighs rfl rfl rfl cdL_weighs ⟨Nat.le_of_ble_eq_true rfl, Nat.le_of_ble_eq_true rfl⟩) hK hP [0, 1] rfl rfl rfl hl.1 rfl (Nat.le_of_ble_eq_true rfl) dL_merges_26 ⟨Nat.zero_le _, Nat.zero_le _⟩ ?_
    refine lv_aload_n hx hb dL_merges_29 rfl (lv_at hl 2 rfl) ?_
    refine lv_aload_n hx hb dL_merges_30 rfl (lv_at hl 3 rfl) ?_
    refine lv_iload hx hb dL_merges_31 (lv_at hl 6 rfl) ?_
    obtain ⟨v3, ev3, hf⟩ := x_bind hf
    refine xf_sri (As := [.ref aa, .ref ah, .int (iI p4)]) (rest := [.int (iI v2)]) (wcs := ([[qcC cs aa 64 va], [qcC cs ah 8 vh]] : List va_W)) ⟨hx, hb, hml, hown, hts⟩ (kL_weighs l dC dI cs aa ah va vh p4 _ ev3) (va_cwS 3 hts gL_merges_L_weighs rfl rfl rfl cdL_weighs ⟨Nat.le_of_ble_eq_true rfl, Nat.le_of_ble_eq_true rfl⟩) hK hP [0, 1] rfl rfl rfl hl.1 rfl (Nat.le_of_ble_eq_true rfl) dL_merges_33 ⟨Nat.zero_le _, Nat.zero_le _⟩ ?_
    refine xk_iadd hx hb dL_merges_36 ?_
    refine lv_istore (lv' := [(7, .int (iI (v2 + v3))), (6, .int (iI ((p3 + p4) - p3))), (5, .int (iI p3)), (0, .ref aa), (1, .ref ah), (2, .ref af), (3, .int (iI p3)), (4, .int (iI p4))]) hx hb dL_merges_37 hl (by decide) rfl (fun ls hl => ?_)
    refine xk_iconst hx hb dL_merges_39 ?_
    refine lv_istore (lv' := [(8, .int (iI 0)), (7, .int (iI (v2 + v3))), (6, .int (iI ((p3 + p4) - p3))), (5, .int (iI p3)), (0, .ref aa), (1, .ref ah), (2, .ref af), (3, .int (iI p3)), (4, .int (iI p4))]) hx hb dL_merges_40 hl (by decide) rfl (fun ls hl => ?_)
    have hL42 : ∀ (k5 : Int) (k6 : Int) (k7 : Int) (n146 : Nat) (l8 : Int) (g143 : Int → Int) (g144 : Int → Int) (g145 : Int → Int), fL_merges_L42 p3 p4 k5 k6 k7 n146 l8 g143 g144 g145 = some res → ∀ (H : Heap) (locs : List Loc), va_P (dC, dI) vwCl ((([[qcC cs aa 64 g143], [qcC cs ah 8 g144], [qcC cs af 64 g145]] : List va_W)).flatten) H → va_S (va_A ((([[qcC cs aa 64 va], [qcC cs ah 8 vh], [qcC cs af 64 vf]] : List va_W)).flatten) s.heap.size) s.heap H locs → ∀ (ls : Array Slot), lv_has ls 9 [(0, .ref aa), (1, .ref ah), (2, .ref af), (3, .int (iI p3)), (4, .int (iI p4)), (5, .int (iI k5)), (6, .int (iI k6)), (7, .int (iI k7)), (8, .int (iI l8))] → W p l e (headSpec wsL_merges ({ frames := 2, cells := 0, slots := 0, locals := 46 } : Room)).room s m ([.ref aa, .ref ah, .ref af, .int (iI p3), .int (iI p4)] : List Value).toArray below meth c H locs 0 0 (MQ below (xQi (dC, dI) vwCl ((([[qcC cs aa 64 va], [qcC cs ah 8 vh], [qcC cs af 64 vf]] : List va_W)).flatten) ((([[qcC cs aa 64 res.2.1], [qcC cs ah 8 res.2.2.1], [qcC cs af 64 res.2.2.2]] : List va_W)).flatten) s.heap.size res.1) ([.ref aa, .ref ah, .ref af, .int (iI p3), .int (iI p4)] : List Value).toArray s 0 0 (va_A ((([[qcC cs aa 64 va], [qcC cs ah 8 vh], [qcC cs af 64 vf]] : List va_W)).flatten) s.heap.size)) (F0 m 42 ls []) := by
      intro k5 k6 k7 n146
      induction n146 with
      | zero => intro l8 g143 g144 g145 hf; have hf : (none : Option (Int × (Int → Int) × (Int → Int) × (Int → Int))) = some res := hf; cases hf
      | succ n146 ih42 =>
        intro l8 g143 g144 g145 hf H locs hP hS ls hl
        rw [fL_merges_L42] at hf
        refine lv_iload hx hb dL_merges_42 (lv_at hl 8 rfl) ?_
        refine lv_aload_n hx hb dL_merges_44 rfl (lv_at hl 1 rfl) ?_
        refine xk_iconst hx hb dL_merges_45 ?_
        obtain ⟨v147, ev147, hf⟩ := x_bind hf
        refine xk_iald (f := g144) hx hb hK hP 1 0 ev147 (by decide) rfl rfl dL_merges_46 ?_
        obtain ⟨c148a, c148b, c148t, c148f⟩ := x_ltE hf
        refine xk_icmp_ge (tgt := 86) hx hb c148a c148b dL_merges_47 (by decide) (fun c148 => ?_) (fun c148 => ?_)
        · have hf := c148t c148
          refine lv_aload_n hx hb dL_merges_50 rfl (lv_at hl 0 rfl) ?_
          refine lv_iload hx hb dL_merges_51 (lv_at hl 8 rfl) ?_
          obtain ⟨v149, ev149, hf⟩ := x_bind hf
          refine xf_sri (As := [.ref aa, .int (iI l8)]) (rest := []) (wcs := ([[qcC cs aa 64 g143]] : List va_W)) ⟨hx, hb, hml, hown, hts⟩ (kL_where l dC dI cs aa g143 l8 _ ev149) (va_cwS 2 hts gL_merges_L_where rfl rfl rfl cdL_where ⟨Nat.le_of_ble_eq_true rfl, Nat.le_of_ble_eq_true rfl⟩) hK hP [0] rfl rfl rfl hl.1 rfl (Nat.le_of_ble_eq_true rfl) dL_merges_53 ⟨Nat.zero_le _, Nat.zero_le _⟩ ?_
          refine xk_iconst hx hb dL_merges_56 ?_
          obtain ⟨c150a, c150b, c150t, c150f⟩ := x_eqE hf
          refine xk_icmp_ne (tgt := 80) hx hb c150a c150b dL_merges_57 (by decide) (fun c150 => ?_) (fun c150 => ?_)
          · have hf := c150t c150
            refine lv_aload_n hx hb dL_merges_60 rfl (lv_at hl 0 rfl) ?_
            refine lv_iload hx hb dL_merges_61 (lv_at hl 8 rfl) ?_
            obtain ⟨v151, ev151, hf⟩ := x_bind hf
            refine xf_sri (As := [.ref aa, .int (iI l8)]) (rest := []) (wcs := ([[qcC cs aa 64 g143]] : List va_W)) ⟨hx, hb, hml, hown, hts⟩ (kL_run l dC dI cs aa g143 l8 _ ev151) (va_cwS 2 hts gL_merges_L_run rfl rfl rfl cdL_run ⟨Nat.le_of_ble_eq_true rfl, Nat.le_of_ble_eq_true rfl⟩) hK hP [0] rfl rfl rfl hl.1 rfl (Nat.le_of_ble_eq_true rfl) dL_merges_63 ⟨Nat.zero_le _, Nat.zero_le _⟩ ?_
            refine lv_iload hx hb dL_merges_66 (lv_at hl 6 rfl) ?_
            obtain ⟨c152a, c152b, c152t, c152f⟩ := x_eqE hf
            refine xk_icmp_ne (tgt := 80) hx hb c152a c152b dL_merges_68 (by decide) (fun c152 => ?_) (fun c152 => ?_)
            · have hf := c152t c152
              refine lv_aload_n hx hb dL_merges_71 rfl (lv_at hl 0 rfl) ?_
              refine lv_iload hx hb dL_merges_72 (lv_at hl 8 rfl) ?_
              refine xk_iconst hx hb dL_merges_74 ?_
              refine lv_iload hx hb dL_merges_75 (lv_at hl 5 rfl) ?_
              obtain ⟨g153, eg153, hf⟩ := x_bind hf
              refine xf_swv (As := [.ref aa, .int (iI l8), .int (iI 1), .int (iI k5)]) (rest := []) (wcs := ([[qcC cs aa 64 g143]] : List va_W)) (w1s := ([[qcC cs aa 64 g153]] : List va_W)) ⟨hx, hb, hml, hown, hts⟩ (kL_goes l dC dI cs aa _ g143 l8 1 k5 _ eg153) (va_cwS 4 hts gL_merges_L_goes rfl rfl rfl cdL_goes ⟨Nat.le_of_ble_eq_true rfl, Nat.le_of_ble_eq_true rfl⟩) hK hP (x_addrF hD rfl) hS hA [0] rfl rfl rfl (by decide) rfl rfl hl.1 rfl (Nat.le_of_ble_eq_true rfl) dL_merges_77 ⟨Nat.zero_le _, Nat.zero_le _⟩ (fun H locs hP hS => ?_)
              have hP : va_P (dC, dI) vwCl ((([[qcC cs aa 64 g153], [qcC cs ah 8 g144], [qcC cs af 64 g145]] : List va_W)).flatten) H := hP
              refine xk_iinc (lv' := [(8, .int (iI (l8 + 1))), (0, .ref aa), (1, .ref ah), (2, .ref af), (3, .int (iI p3)), (4, .int (iI p4)), (5, .int (iI k5)), (6, .int (iI k6)), (7, .int (iI k7))]) hx hb dL_merges_80 hl (k := 8) rfl (by decide) rfl (fun ls hl => ?_)
              refine lv_goto (tgt := 42) hx hb dL_merges_83 (by decide) ?_
              exact ih42 (l8 + 1) g153 g144 g145 hf _ _ hP hS ls (lv_sub hl [1, 2, 3, 4, 5, 6, 7, 8, 0] rfl)
            · have hf := c152f c152
              refine xk_iinc (lv' := [(8, .int (iI (l8 + 1))), (0, .ref aa), (1, .ref ah), (2, .ref af), (3, .int (iI p3)), (4, .int (iI p4)), (5, .int (iI k5)), (6, .int (iI k6)), (7, .int (iI k7))]) hx hb dL_merges_80 hl (k := 8) rfl (by decide) rfl (fun ls hl => ?_)
              refine lv_goto (tgt := 42) hx hb dL_merges_83 (by decide) ?_
              exact ih42 (l8 + 1) g143 g144 g145 hf _ _ hP hS ls (lv_sub hl [1, 2, 3, 4, 5, 6, 7, 8, 0] rfl)
          · have hf := c150f c150
            refine xk_iinc (lv' := [(8, .int (iI (l8 + 1))), (0, .ref aa), (1, .ref ah), (2, .ref af), (3, .int (iI p3)), (4, .int (iI p4)), (5, .int (iI k5)), (6, .int (iI k6)), (7, .int (iI k7))]) hx hb dL_merges_80 hl (k := 8) rfl (by decide) rfl (fun ls hl => ?_)
            refine lv_goto (tgt := 42) hx hb dL_merges_83 (by decide) ?_
            exact ih42 (l8 + 1) g143 g144 g145 hf _ _ hP hS ls (lv_sub hl [1, 2, 3, 4, 5, 6, 7, 8, 0] rfl)
        · have hf := c148f c148
          refine lv_aload_n hx hb dL_merges_86 rfl (lv_at hl 2 rfl) ?_
          refine lv_iload hx hb dL_merges_87 (lv_at hl 6 rfl) ?_
          refine xk_iconst hx hb dL_merges_89 ?_
          obtain ⟨g154, eg154, hf⟩ := x_bind hf
          refine xk_iast (f := g145) hx hb hK hP (x_addrF hD rfl) hS 2 0 eg154 (by decide) rfl rfl dL_merges_90 (fun H locs hP hS => ?_)
          have hP : va_P (dC, dI) vwCl ((([[qcC cs aa 64 g143], [qcC cs ah 8 g144], [qcC cs af 64 g154]] : List va_W)).flatten) H := hP
          refine lv_aload_n hx hb dL_merges_91 rfl (lv_at hl 1 rfl) ?_
          refine xk_iconst hx hb dL_merges_92 ?_
          refine lv_aload_n hx hb dL_merges_93 rfl (lv_at hl 1 rfl) ?_
          refine xk_iconst hx hb dL_merges_94 ?_
          obtain ⟨v155, ev155, hf⟩ := x_bind hf
          refine xk_iald (f := g144) hx hb hK hP 1 0 ev155 (by decide) rfl rfl dL_merges_95 ?_
          refine lv_iload_n hx hb dL_merges_96 rfl (lv_at hl 3 rfl) ?_
          obtain ⟨c156a, c156b, c156t, c156f⟩ := x_eqE hf
          refine xk_icmp_eq (tgt := 108) hx hb c156a c156b dL_merges_97 (by decide) (fun c156 => ?_) (fun c156 => ?_)
          · have hf := c156t c156
            refine xk_iconst hx hb dL_merges_108 ?_
            refine lv_goto (tgt := 115) hx hb dL_merges_109 (by decide) ?_
            obtain ⟨g157, eg157, hf⟩ := x_bind hf
            refine xk_iast (f := g144) hx hb hK hP (x_addrF hD rfl) hS 1 0 eg157 (by decide) rfl rfl dL_merges_115 (fun H locs hP hS => ?_)
            have hP : va_P (dC, dI) vwCl ((([[qcC cs aa 64 g143], [qcC cs ah 8 g157], [qcC cs af 64 g154]] : List va_W)).flatten) H := hP
            refine lv_aload_n hx hb dL_merges_116 rfl (lv_at hl 1 rfl) ?_
            refine xk_iconst hx hb dL_merges_117 ?_
            refine lv_dup2_11 hx hb dL_merges_118 rfl rfl ?_
            obtain ⟨v158, ev158, hf⟩ := x_bind hf
            refine xk_iald (f := g157) hx hb hK hP 1 0 ev158 (by decide) rfl rfl dL_merges_119 ?_
            refine lv_iload hx hb dL_merges_120 (lv_at hl 7 rfl) ?_
            refine xk_iadd hx hb dL_merges_122 ?_
            obtain ⟨g159, eg159, hf⟩ := x_bind hf
            refine xk_iast (f := g157) hx hb hK hP (x_addrF hD rfl) hS 1 0 eg159 (by decide) rfl rfl dL_merges_123 (fun H locs hP hS => ?_)
            have hP : va_P (dC, dI) vwCl ((([[qcC cs aa 64 g143], [qcC cs ah 8 g159], [qcC cs af 64 g154]] : List va_W)).flatten) H := hP
            refine lv_aload_n hx hb dL_merges_124 rfl (lv_at hl 1 rfl) ?_
            refine xk_iconst hx hb dL_merges_125 ?_
            refine lv_dup2_11 hx hb dL_merges_126 rfl rfl ?_
            obtain ⟨v160, ev160, hf⟩ := x_bind hf
            refine xk_iald (f := g159) hx hb hK hP 1 0 ev160 (by decide) rfl rfl dL_merges_127 ?_
            refine xk_iconst hx hb dL_merges_128 ?_
            refine xk_iadd hx hb dL_merges_129 ?_
            obtain ⟨g161, eg161, hf⟩ := x_bind hf
            refine xk_iast (f := g159) hx hb hK hP (x_addrF hD rfl) hS 1 0 eg161 (by decide) rfl rfl dL_merges_130 (fun H locs hP hS => ?_)
            have hP : va_P (dC, dI) vwCl ((([[qcC cs aa 64 g143], [qcC cs ah 8 g161], [qcC cs af 64 g154]] : List va_W)).flatten) H := hP
            refine lv_iload hx hb dL_merges_131 (lv_at hl 7 rfl) ?_
            obtain rfl := Option.some.inj hf
            exact xe_wi hx hb hr hlocks hS hP dL_merges_133
          · have hf := c156f c156
            refine lv_aload_n hx hb dL_merges_100 rfl (lv_at hl 1 rfl) ?_
            refine xk_iconst hx hb dL_merges_101 ?_
            obtain ⟨v162, ev162, hf⟩ := x_bind hf
            refine xk_iald (f := g144) hx hb hK hP 1 0 ev162 (by decide) rfl rfl dL_merges_102 ?_
            refine lv_iload hx hb dL_merges_103 (lv_at hl 4 rfl) ?_
            obtain ⟨c163a, c163b, c163t, c163f⟩ := x_eqE hf
            refine xk_icmp_ne (tgt := 112) hx hb c163a c163b dL_merges_105 (by decide) (fun c163 => ?_) (fun c163 => ?_)
            · have hf := c163t c163
              refine xk_iconst hx hb dL_merges_108 ?_
              refine lv_goto (tgt := 115) hx hb dL_merges_109 (by decide) ?_
              obtain ⟨g164, eg164, hf⟩ := x_bind hf
              refine xk_iast (f := g144) hx hb hK hP (x_addrF hD rfl) hS 1 0 eg164 (by decide) rfl rfl dL_merges_115 (fun H locs hP hS => ?_)
              have hP : va_P (dC, dI) vwCl ((([[qcC cs aa 64 g143], [qcC cs ah 8 g164], [qcC cs af 64 g154]] : List va_W)).flatten) H := hP
              refine lv_aload_n hx hb dL_merges_116 rfl (lv_at hl 1 rfl) ?_
              refine xk_iconst hx hb dL_merges_117 ?_
              refine lv_dup2_11 hx hb dL_merges_118 rfl rfl ?_
              obtain ⟨v165, ev165, hf⟩ := x_bind hf
              refine xk_iald (f := g164) hx hb hK hP 1 0 ev165 (by decide) rfl rfl dL_merges_119 ?_
              refine lv_iload hx hb dL_merges_120 (lv_at hl 7 rfl) ?_
              refine xk_iadd hx hb dL_merges_122 ?_
              obtain ⟨g166, eg166, hf⟩ := x_bind hf
              refine xk_iast (f := g164) hx hb hK hP (x_addrF hD rfl) hS 1 0 eg166 (by decide) rfl rfl dL_merges_123 (fun H locs hP hS => ?_)
              have hP : va_P (dC, dI) vwCl ((([[qcC cs aa 64 g143], [qcC cs ah 8 g166], [qcC cs af 64 g154]] : List va_W)).flatten) H := hP
              refine lv_aload_n hx hb dL_merges_124 rfl (lv_at hl 1 rfl) ?_
              refine xk_iconst hx hb dL_merges_125 ?_
              refine lv_dup2_11 hx hb dL_merges_126 rfl rfl ?_
              obtain ⟨v167, ev167, hf⟩ := x_bind hf
              refine xk_iald (f := g166) hx hb hK hP 1 0 ev167 (by decide) rfl rfl dL_merges_127 ?_
              refine xk_iconst hx hb dL_merges_128 ?_
              refine xk_iadd hx hb dL_merges_129 ?_
              obtain ⟨g168, eg168, hf⟩ := x_bind hf
              refine xk_iast (f := g166) hx hb hK hP (x_addrF hD rfl) hS 1 0 eg168 (by decide) rfl rfl dL_merges_130 (fun H locs hP hS => ?_)
              have hP : va_P (dC, dI) vwCl ((([[qcC cs aa 64 g143], [qcC cs ah 8 g168], [qcC cs af 64 g154]] : List va_W)).flatten) H := hP
              refine lv_iload hx hb dL_merges_131 (lv_at hl 7 rfl) ?_
              obtain rfl := Option.some.inj hf
              exact xe_wi hx hb hr hlocks hS hP dL_merges_133
            · have hf := c163f c163
              refine lv_aload_n hx hb dL_merges_112 rfl (lv_at hl 1 rfl) ?_
              refine xk_iconst hx hb dL_merges_113 ?_
              obtain ⟨v169, ev169, hf⟩ := x_bind hf
              refine xk_iald (f := g144) hx hb hK hP 1 0 ev169 (by decide) rfl rfl dL_merges_114 ?_
              obtain ⟨g170, eg170, hf⟩ := x_bind hf
              refine xk_iast (f := g144) hx hb hK hP (x_addrF hD rfl) hS 1 0 eg170 (by decide) rfl rfl dL_merges_115 (fun H locs hP hS => ?_)
              have hP : va_P (dC, dI) vwCl ((([[qcC cs aa 64 g143], [qcC cs ah 8 g170], [qcC cs af 64 g154]] : List va_W)).flatten) H := hP
              refine lv_aload_n hx hb dL_merges_116 rfl (lv_at hl 1 rfl) ?_
              refine xk_iconst hx hb dL_merges_117 ?_
              refine lv_dup2_11 hx hb dL_merges_118 rfl rfl ?_
              obtain ⟨v171, ev171, hf⟩ := x_bind hf
              refine xk_iald (f := g170) hx hb hK hP 1 0 ev171 (by decide) rfl rfl dL_merges_119 ?_
              refine lv_iload hx hb dL_merges_120 (lv_at hl 7 rfl) ?_
              refine xk_iadd hx hb dL_merges_122 ?_
              obtain ⟨g172, eg172, hf⟩ := x_bind hf
              refine xk_iast (f := g170) hx hb hK hP (x_addrF hD rfl) hS 1 0 eg172 (by decide) rfl rfl dL_merges_123 (fun H locs hP hS => ?_)
              have hP : va_P (dC, dI) vwCl ((([[qcC cs aa 64 g143], [qcC cs ah 8 g172], [qcC cs af 64 g154]] : List va_W)).flatten) H := hP
              refine lv_aload_n hx hb dL_merges_124 rfl (lv_at hl 1 rfl) ?_
              refine xk_iconst hx hb dL_merges_125 ?_
              refine lv_dup2_11 hx hb dL_merges_126 rfl rfl ?_
              obtain ⟨v173, ev173, hf⟩ := x_bind hf
              refine xk_iald (f := g172) hx hb hK hP 1 0 ev173 (by decide) rfl rfl dL_merges_127 ?_
              refine xk_iconst hx hb dL_merges_128 ?_
              refine xk_iadd hx hb dL_merges_129 ?_
              obtain ⟨g174, eg174, hf⟩ := x_bind hf
              refine xk_iast (f := g172) hx hb hK hP (x_addrF hD rfl) hS 1 0 eg174 (by decide) rfl rfl dL_merges_130 (fun H locs hP hS => ?_)
              have hP : va_P (dC, dI) vwCl ((([[qcC cs aa 64 g143], [qcC cs ah 8 g174], [qcC cs af 64 g154]] : List va_W)).flatten) H := hP
              refine lv_iload hx hb dL_merges_131 (lv_at hl 7 rfl) ?_
              obtain rfl := Option.some.inj hf
              exact xe_wi hx hb hr hlocks hS hP dL_merges_133
    exact hL42 p3 ((p3 + p4) - p3) (v2 + v3) xFU 0 va vh vf hf _ _ hP hS ls (lv_sub hl [4, 5, 6, 7, 8, 3, 2, 1, 0] rfl)
  · have hf := c1f c1
    refine lv_iload hx hb dL_merges_10 (lv_at hl 4 rfl) ?_
    refine lv_istore (lv' := [(5, .int (iI p4)), (0, .ref aa), (1, .ref ah), (2, .ref af), (3, .int (iI p3)), (4, .int (iI p4))]) hx hb dL_merges_12 hl (by decide) rfl (fun ls hl => ?_)
    refine lv_iload_n hx hb dL_merges_14 rfl (lv_at hl 4 rfl) ?_
    refine lv_iload hx hb dL_merges_15 (lv_at hl 5 rfl) ?_
    refine xk_iadd hx hb dL_merges_17 ?_
    refine lv_iload hx hb dL_merges_18 (lv_at hl 0 rfl) ?_
    refine xk_isub hx hb dL_merges_20 ?_
    refine lv_istore (lv' := [(6, .int (iI ((p3 + p4) - p4))), (5, .int (iI p4)), (0, .ref aa), (1, .ref ah), (2, .ref af), (3, .int (iI p3)), (4, .int (iI p4))]) hx hb dL_merges_21 hl (by decide) rfl (fun ls hl => ?_)
    refine lv_aload_n hx hb dL_merges_23 rfl (lv_at hl 2 rfl) ?_
    refine lv_aload_n hx hb dL_merges_24 rfl (lv_at hl 3 rfl) ?_
    refine lv_iload_n hx hb dL_merges_25 rfl (lv_at hl 5 rfl) ?_
    obtain ⟨v4, ev4, hf⟩ := x_bind hf
    refine xf_sri (As := [.ref aa, .ref ah, .int (iI p3)]) (rest := []) (wcs := ([[qcC cs aa 64 va], [qcC cs ah 8 vh]] : List va_W)) ⟨hx, hb, hml, hown, hts⟩ (kL_weighs l dC dI cs aa ah va vh p3 _ ev4) (va_cwS 3 hts gL_merges_L_weighs rfl rfl rfl cdL_weighs ⟨Nat.le_of_ble_eq_true rfl, Nat.le_of_ble_eq_true rfl⟩) hK hP [0, 1] rfl rfl rfl hl.1 rfl (Nat.le_of_ble_eq_true rfl) dL_merges_26 ⟨Nat.zero_le _, Nat.zero_le _⟩ ?_
    refine lv_aload_n hx hb dL_merges_29 rfl (lv_at hl 2 rfl) ?_
    refine lv_aload_n hx hb dL_merges_30 rfl (lv_at hl 3 rfl) ?_
    refine lv_iload hx hb dL_merges_31 (lv_at hl 6 rfl) ?_
    obtain ⟨v5, ev5, hf⟩ := x_bind hf
    refine xf_sri (As := [.ref aa, .ref ah, .int (iI p4)]) (rest := [.int (iI v4)]) (wcs := ([[qcC cs aa 64 va], [qcC cs ah 8 vh]] : List va_W)) ⟨hx, hb, hml, hown, hts⟩ (kL_weighs l dC dI cs aa ah va vh p4 _ ev5) (va_cwS 3 hts gL_merges_L_weighs rfl rfl rfl cdL_weighs ⟨Nat.le_of_ble_eq_true rfl, Nat.le_of_ble_eq_true rfl⟩) hK hP [0, 1] rfl rfl rfl hl.1 rfl (Nat.le_of_ble_eq_true rfl) dL_merges_33 ⟨Nat.zero_le _, Nat.zero_le _⟩ ?_
    refine xk_iadd hx hb dL_merges_36 ?_
    refine lv_istore (lv' := [(7, .int (iI (v4 + v5))), (6, .int (iI ((p3 + p4) - p4))), (5, .int (iI p4)), (0, .ref aa), (1, .ref ah), (2, .ref af), (3, .int (iI p3)), (4, .int (iI p4))]) hx hb dL_merges_37 hl (by decide) rfl (fun ls hl => ?_)
    refine xk_iconst hx hb dL_merges_39 ?_
    refine lv_istore (lv' := [(8, .int (iI 0)), (7, .int (iI (v4 + v5))), (6, .int (iI ((p3 + p4) - p4))), (5, .int (iI p4)), (0, .ref aa), (1, .ref ah), (2, .ref af), (3, .int (iI p3)), (4, .int (iI p4))]) hx hb dL_merges_40 hl (by decide) rfl (fun ls hl => ?_)
    have hL42 : ∀ (k5 : Int) (k6 : Int) (k7 : Int) (n146 : Nat) (l8 : Int) (g143 : Int → Int) (g144 : Int → Int) (g145 : Int → Int), fL_merges_L42 p3 p4 k5 k6 k7 n146 l8 g143 g144 g145 = some res → ∀ (H : Heap) (locs : List Loc), va_P (dC, dI) vwCl ((([[qcC cs aa 64 g143], [qcC cs ah 8 g144], [qcC cs af 64 g145]] : List va_W)).flatten) H → va_S (va_A ((([[qcC cs aa 64 va], [qcC cs ah 8 vh], [qcC cs af 64 vf]] : List va_W)).flatten) s.heap.size) s.heap H locs → ∀ (ls : Array Slot), lv_has ls 9 [(0, .ref aa), (1, .ref ah), (2, .ref af), (3, .int (iI p3)), (4, .int (iI p4)), (5, .int (iI k5)), (6, .int (iI k6)), (7, .int (iI k7)), (8, .int (iI l8))] → W p l e (headSpec wsL_merges ({ frames := 2, cells := 0, slots := 0, locals := 46 } : Room)).room s m ([.ref aa, .ref ah, .ref af, .int (iI p3), .int (iI p4)] : List Value).toArray below meth c H locs 0 0 (MQ below (xQi (dC, dI) vwCl ((([[qcC cs aa 64 va], [qcC cs ah 8 vh], [qcC cs af 64 vf]] : List va_W)).flatten) ((([[qcC cs aa 64 res.2.1], [qcC cs ah 8 res.2.2.1], [qcC cs af 64 res.2.2.2]] : List va_W)).flatten) s.heap.size res.1) ([.ref aa, .ref ah, .ref af, .int (iI p3), .int (iI p4)] : List Value).toArray s 0 0 (va_A ((([[qcC cs aa 64 va], [qcC cs ah 8 vh], [qcC cs af 64 vf]] : List va_W)).flatten) s.heap.size)) (F0 m 42 ls []) := by
      intro k5 k6 k7 n146
      induction n146 with
      | zero => intro l8 g143 g144 g145 hf; have hf : (none : Option (Int × (Int → Int) × (Int → Int) × (Int → Int))) = some res := hf; cases hf
      | succ n146 ih42 =>
        intro l8 g143 g144 g145 hf H locs hP hS ls hl
        rw [fL_merges_L42] at hf
        refine lv_iload hx hb dL_merges_42 (lv_at hl 8 rfl) ?_
        refine lv_aload_n hx hb dL_merges_44 rfl (lv_at hl 1 rfl) ?_
        refine xk_iconst hx hb dL_merges_45 ?_
        obtain ⟨v147, ev147, hf⟩ := x_bind hf
        refine xk_iald (f := g144) hx hb hK hP 1 0 ev147 (by decide) rfl rfl dL_merges_46 ?_
        obtain ⟨c148a, c148b, c148t, c148f⟩ := x_ltE hf
        refine xk_icmp_ge (tgt := 86) hx hb c148a c148b dL_merges_47 (by decide) (fun c148 => ?_) (fun c148 => ?_)
        · have hf := c148t c148
          refine lv_aload_n hx hb dL_merges_50 rfl (lv_at hl 0 rfl) ?_
          refine lv_iload hx hb dL_merges_51 (lv_at hl 8 rfl) ?_
          obtain ⟨v149, ev149, hf⟩ := x_bind hf
          refine xf_sri (As := [.ref aa, .int (iI l8)]) (rest := []) (wcs := ([[qcC cs aa 64 g143]] : List va_W)) ⟨hx, hb, hml, hown, hts⟩ (kL_where l dC dI cs aa g143 l8 _ ev149) (va_cwS 2 hts gL_merges_L_where rfl rfl rfl cdL_where ⟨Nat.le_of_ble_eq_true rfl, Nat.le_of_ble_eq_true rfl⟩) hK hP [0] rfl rfl rfl hl.1 rfl (Nat.le_of_ble_eq_true rfl) dL_merges_53 ⟨Nat.zero_le _, Nat.zero_le _⟩ ?_
          refine xk_iconst hx hb dL_merges_56 ?_
          obtain ⟨c150a, c150b, c150t, c150f⟩ := x_eqE hf
          refine xk_icmp_ne (tgt := 80) hx hb c150a c150b dL_merges_57 (by decide) (fun c150 => ?_) (fun c150 => ?_)
          · have hf := c150t c150
            refine lv_aload_n hx hb dL_merges_60 rfl (lv_at hl 0 rfl) ?_
            refine lv_iload hx hb dL_merges_61 (lv_at hl 8 rfl) ?_
            obtain ⟨v151, ev151, hf⟩ := x_bind hf
            refine xf_sri (As := [.ref aa, .int (iI l8)]) (rest := []) (wcs := ([[qcC cs aa 64 g143]] : List va_W)) ⟨hx, hb, hml, hown, hts⟩ (kL_run l dC dI cs aa g143 l8 _ ev151) (va_cwS 2 hts gL_merges_L_run rfl rfl rfl cdL_run ⟨Nat.le_of_ble_eq_true rfl, Nat.le_of_ble_eq_true rfl⟩) hK hP [0] rfl rfl rfl hl.1 rfl (Nat.le_of_ble_eq_true rfl) dL_merges_63 ⟨Nat.zero_le _, Nat.zero_le _⟩ ?_
            refine lv_iload hx hb dL_merges_66 (lv_at hl 6 rfl) ?_
            obtain ⟨c152a, c152b, c152t, c152f⟩ := x_eqE hf
            refine xk_icmp_ne (tgt := 80) hx hb c152a c152b dL_merges_68 (by decide) (fun c152 => ?_) (fun c152 => ?_)
            · have hf := c152t c152
              refine lv_aload_n hx hb dL_merges_71 rfl (lv_at hl 0 rfl) ?_
              refine lv_iload hx hb dL_merges_72 (lv_at hl 8 rfl) ?_
              refine xk_iconst hx hb dL_merges_74 ?_
              refine lv_iload hx hb dL_merges_75 (lv_at hl 5 rfl) ?_
              obtain ⟨g153, eg153, hf⟩ := x_bind hf
              refine xf_swv (As := [.ref aa, .int (iI l8), .int (iI 1), .int (iI k5)]) (rest := []) (wcs := ([[qcC cs aa 64 g143]] : List va_W)) (w1s := ([[qcC cs aa 64 g153]] : List va_W)) ⟨hx, hb, hml, hown, hts⟩ (kL_goes l dC dI cs aa _ g143 l8 1 k5 _ eg153) (va_cwS 4 hts gL_merges_L_goes rfl rfl rfl cdL_goes ⟨Nat.le_of_ble_eq_true rfl, Nat.le_of_ble_eq_true rfl⟩) hK hP (x_addrF hD rfl) hS hA [0] rfl rfl rfl (by decide) rfl rfl hl.1 rfl (Nat.le_of_ble_eq_true rfl) dL_merges_77 ⟨Nat.zero_le _, Nat.zero_le _⟩ (fun H locs hP hS => ?_)
              have hP : va_P (dC, dI) vwCl ((([[qcC cs aa 64 g153], [qcC cs ah 8 g144], [qcC cs af 64 g145]] : List va_W)).flatten) H := hP
              refine xk_iinc (lv' := [(8, .int (iI (l8 + 1))), (0, .ref aa), (1, .ref ah), (2, .ref af), (3, .int (iI p3)), (4, .int (iI p4)), (5, .int (iI k5)), (6, .int (iI k6)), (7, .int (iI k7))]) hx hb dL_merges_80 hl (k := 8) rfl (by decide) rfl (fun ls hl => ?_)
              refine lv_goto (tgt := 42) hx hb dL_merges_83 (by decide) ?_
              exact ih42 (l8 + 1) g153 g144 g145 hf _ _ hP hS ls (lv_sub hl [1, 2, 3, 4, 5, 6, 7, 8, 0] rfl)
            · have hf := c152f c152
              refine xk_iinc (lv' := [(8, .int (iI (l8 + 1))), (0, .ref aa), (1, .ref ah), (2, .ref af), (3, .int (iI p3)), (4, .int (iI p4)), (5, .int (iI k5)), (6, .int (iI k6)), (7, .int (iI k7))]) hx hb dL_merges_80 hl (k := 8) rfl (by decide) rfl (fun ls hl => ?_)
              refine lv_goto (tgt := 42) hx hb dL_merges_83 (by decide) ?_
              exact ih42 (l8 + 1) g143 g144 g145 hf _ _ hP hS ls (lv_sub hl [1, 2, 3, 4, 5, 6, 7, 8, 0] rfl)
          · have hf := c150f c150
            refine xk_iinc (lv' := [(8, .int (iI (l8 + 1))), (0, .ref aa), (1, .ref ah), (2, .ref af), (3, .int (iI p3)), (4, .int (iI p4)), (5, .int (iI k5)), (6, .int (iI k6)), (7, .int (iI k7))]) hx hb dL_merges_80 hl (k := 8) rfl (by decide) rfl (fun ls hl => ?_)
            refine lv_goto (tgt := 42) hx hb dL_merges_83 (by decide) ?_
            exact ih42 (l8 + 1) g143 g144 g145 hf _ _ hP hS ls (lv_sub hl [1, 2, 3, 4, 5, 6, 7, 8, 0] rfl)
        · have hf := c148f c148
          refine lv_aload_n hx hb dL_merges_86 rfl (lv_at hl 2 rfl) ?_
          refine lv_iload hx hb dL_merges_87 (lv_at hl 6 rfl) ?_
          refine xk_iconst hx hb dL_merges_89 ?_
          obtain ⟨g154, eg154, hf⟩ := x_bind hf
          refine xk_iast (f := g145) hx hb hK hP (x_addrF hD rfl) hS 2 0 eg154 (by decide) rfl rfl dL_merges_90 (fun H locs hP hS => ?_)
          have hP : va_P (dC, dI) vwCl ((([[qcC cs aa 64 g143], [qcC cs ah 8 g144], [qcC cs af 64 g154]] : List va_W)).flatten) H := hP
          refine lv_aload_n hx hb dL_merges_91 rfl (lv_at hl 1 rfl) ?_
          refine xk_iconst hx hb dL_merges_92 ?_
          refine lv_aload_n hx hb dL_merges_93 rfl (lv_at hl 1 rfl) ?_
          refine xk_iconst hx hb dL_merges_94 ?_
          obtain ⟨v155, ev155, hf⟩ := x_bind hf
          refine xk_iald (f := g144) hx hb hK hP 1 0 ev155 (by decide) rfl rfl dL_merges_95 ?_
          refine lv_iload_n hx hb dL_merges_96 rfl (lv_at hl 3 rfl) ?_
          obtain ⟨c156a, c156b, c156t, c156f⟩ := x_eqE hf
          refine xk_icmp_eq (tgt := 108) hx hb c156a c156b dL_merges_97 (by decide) (fun c156 => ?_) (fun c156 => ?_)
          · have hf := c156t c156
            refine xk_iconst hx hb dL_merges_108 ?_
            refine lv_goto (tgt := 115) hx hb dL_merges_109 (by decide) ?_
            obtain ⟨g157, eg157, hf⟩ := x_bind hf
            refine xk_iast (f := g144) hx hb hK hP (x_addrF hD rfl) hS 1 0 eg157 (by decide) rfl rfl dL_merges_115 (fun H locs hP hS => ?_)
            have hP : va_P (dC, dI) vwCl ((([[qcC cs aa 64 g143], [qcC cs ah 8 g157], [qcC cs af 64 g154]] : List va_W)).flatten) H := hP
            refine lv_aload_n hx hb dL_merges_116 rfl (lv_at hl 1 rfl) ?_
            refine xk_iconst hx hb dL_merges_117 ?_
            refine lv_dup2_11 hx hb dL_merges_118 rfl rfl ?_
            obtain ⟨v158, ev158, hf⟩ := x_bind hf
            refine xk_iald (f := g157) hx hb hK hP 1 0 ev158 (by decide) rfl rfl dL_merges_119 ?_
            refine lv_iload hx hb dL_merges_120 (lv_at hl 7 rfl) ?_
            refine xk_iadd hx hb dL_merges_122 ?_
            obtain ⟨g159, eg159, hf⟩ := x_bind hf
            refine xk_iast (f := g157) hx hb hK hP (x_addrF hD rfl) hS 1 0 eg159 (by decide) rfl rfl dL_merges_123 (fun H locs hP hS => ?_)
            have hP : va_P (dC, dI) vwCl ((([[qcC cs aa 64 g143], [qcC cs ah 8 g159], [qcC cs af 64 g154]] : List va_W)).flatten) H := hP
            refine lv_aload_n hx hb dL_merges_124 rfl (lv_at hl 1 rfl) ?_
            refine xk_iconst hx hb dL_merges_125 ?_
            refine lv_dup2_11 hx hb dL_merges_126 rfl rfl ?_
            obtain ⟨v160, ev160, hf⟩ := x_bind hf
            refine xk_iald (f := g159) hx hb hK hP 1 0 ev160 (by decide) rfl rfl dL_merges_127 ?_
            refine xk_iconst hx hb dL_merges_128 ?_
            refine xk_iadd hx hb dL_merges_129 ?_
            obtain ⟨g161, eg161, hf⟩ := x_bind hf
            refine xk_iast (f := g159) hx hb hK hP (x_addrF hD rfl) hS 1 0 eg161 (by decide) rfl rfl dL_merges_130 (fun H locs hP hS => ?_)
            have hP : va_P (dC, dI) vwCl ((([[qcC cs aa 64 g143], [qcC cs ah 8 g161], [qcC cs af 64 g154]] : List va_W)).flatten) H := hP
            refine lv_iload hx hb dL_merges_131 (lv_at hl 7 rfl) ?_
            obtain rfl := Option.some.inj hf
            exact xe_wi hx hb hr hlocks hS hP dL_merges_133
          · have hf := c156f c156
            refine lv_aload_n hx hb dL_merges_100 rfl (lv_at hl 1 rfl) ?_
            refine xk_iconst hx hb dL_merges_101 ?_
            obtain ⟨v162, ev162, hf⟩ := x_bind hf
            refine xk_iald (f := g144) hx hb hK hP 1 0 ev162 (by decide) rfl rfl dL_merges_102 ?_
            refine lv_iload hx hb dL_merges_103 (lv_at hl 4 rfl) ?_
            obtain ⟨c163a, c163b, c163t, c163f⟩ := x_eqE hf
            refine xk_icmp_ne (tgt := 112) hx hb c163a c163b dL_merges_105 (by decide) (fun c163 => ?_) (fun c163 => ?_)
            · have hf := c163t c163
              refine xk_iconst hx hb dL_merges_108 ?_
              refine lv_goto (tgt := 115) hx hb dL_merges_109 (by decide) ?_
              obtain ⟨g164, eg164, hf⟩ := x_bind hf
              refine xk_iast (f := g144) hx hb hK hP (x_addrF hD rfl) hS 1 0 eg164 (by decide) rfl rfl dL_merges_115 (fun H locs hP hS => ?_)
              have hP : va_P (dC, dI) vwCl ((([[qcC cs aa 64 g143], [qcC cs ah 8 g164], [qcC cs af 64 g154]] : List va_W)).flatten) H := hP
              refine lv_aload_n hx hb dL_merges_116 rfl (lv_at hl 1 rfl) ?_
              refine xk_iconst hx hb dL_merges_117 ?_
              refine lv_dup2_11 hx hb dL_merges_118 rfl rfl ?_
              obtain ⟨v165, ev165, hf⟩ := x_bind hf
              refine xk_iald (f := g164) hx hb hK hP 1 0 ev165 (by decide) rfl rfl dL_merges_119 ?_
              refine lv_iload hx hb dL_merges_120 (lv_at hl 7 rfl) ?_
              refine xk_iadd hx hb dL_merges_122 ?_
              obtain ⟨g166, eg166, hf⟩ := x_bind hf
              refine xk_iast (f := g164) hx hb hK hP (x_addrF hD rfl) hS 1 0 eg166 (by decide) rfl rfl dL_merges_123 (fun H locs hP hS => ?_)
              have hP : va_P (dC, dI) vwCl ((([[qcC cs aa 64 g143], [qcC cs ah 8 g166], [qcC cs af 64 g154]] : List va_W)).flatten) H := hP
              refine lv_aload_n hx hb dL_merges_124 rfl (lv_at hl 1 rfl) ?_
              refine xk_iconst hx hb dL_merges_125 ?_
              refine lv_dup2_11 hx hb dL_merges_126 rfl rfl ?_
              obtain ⟨v167, ev167, hf⟩ := x_bind hf
              refine xk_iald (f := g166) hx hb hK hP 1 0 ev167 (by decide) rfl rfl dL_merges_127 ?_
              refine xk_iconst hx hb dL_merges_128 ?_
              refine xk_iadd hx hb dL_merges_129 ?_
              obtain ⟨g168, eg168, hf⟩ := x_bind hf
              refine xk_iast (f := g166) hx hb hK hP (x_addrF hD rfl) hS 1 0 eg168 (by decide) rfl rfl dL_merges_130 (fun H locs hP hS => ?_)
              have hP : va_P (dC, dI) vwCl ((([[qcC cs aa 64 g143], [qcC cs ah 8 g168], [qcC cs af 64 g154]] : List va_W)).flatten) H := hP
              refine lv_iload hx hb dL_merges_131 (lv_at hl 7 rfl) ?_
              obtain rfl := Option.some.inj hf
              exact xe_wi hx hb hr hlocks hS hP dL_merges_133
            · have hf := c163f c163
              refine lv_aload_n hx hb dL_merges_112 rfl (lv_at hl 1 rfl) ?_
              refine xk_iconst hx hb dL_merges_113 ?_
              obtain ⟨v169, ev169, hf⟩ := x_bind hf
              refine xk_iald (f := g144) hx hb hK hP 1 0 ev169 (by decide) rfl rfl dL_merges_114 ?_
              obtain ⟨g170, eg170, hf⟩ := x_bind hf
              refine xk_iast (f := g144) hx hb hK hP (x_addrF hD rfl) hS 1 0 eg170 (by decide) rfl rfl dL_merges_115 (fun H locs hP hS => ?_)
              have hP : va_P (dC, dI) vwCl ((([[qcC cs aa 64 g143], [qcC cs ah 8 g170], [qcC cs af 64 g154]] : List va_W)).flatten) H := hP
              refine lv_aload_n hx hb dL_merges_116 rfl (lv_at hl 1 rfl) ?_
              refine xk_iconst hx hb dL_merges_117 ?_
              refine lv_dup2_11 hx hb dL_merges_118 rfl rfl ?_
              obtain ⟨v171, ev171, hf⟩ := x_bind hf
              refine xk_iald (f := g170) hx hb hK hP 1 0 ev171 (by decide) rfl rfl dL_merges_119 ?_
              refine lv_iload hx hb dL_merges_120 (lv_at hl 7 rfl) ?_
              refine xk_iadd hx hb dL_merges_122 ?_
              obtain ⟨g172, eg172, hf⟩ := x_bind hf
              refine xk_iast (f := g170) hx hb hK hP (x_addrF hD rfl) hS 1 0 eg172 (by decide) rfl rfl dL_merges_123 (fun H locs hP hS => ?_)
              have hP : va_P (dC, dI) vwCl ((([[qcC cs aa 64 g143], [qcC cs ah 8 g172], [qcC cs af 64 g154]] : List va_W)).flatten) H := hP
              refine lv_aload_n hx hb dL_merges_124 rfl (lv_at hl 1 rfl) ?_
              refine xk_iconst hx hb dL_merges_125 ?_
              refine lv_dup2_11 hx hb dL_merges_126 rfl rfl ?_
              obtain ⟨v173, ev173, hf⟩ := x_bind hf
              refine xk_iald (f := g172) hx hb hK hP 1 0 ev173 (by decide) rfl rfl dL_merges_127 ?_
              refine xk_iconst hx hb dL_merges_128 ?_
              refine xk_iadd hx hb dL_merges_129 ?_
              obtain ⟨g174, eg174, hf⟩ := x_bind hf
              refine xk_iast (f := g172) hx hb hK hP (x_addrF hD rfl) hS 1 0 eg174 (by decide) rfl rfl dL_merges_130 (fun H locs hP hS => ?_)
              have hP : va_P (dC, dI) vwCl ((([[qcC cs aa 64 g143], [qcC cs ah 8 g174], [qcC cs af 64 g154]] : List va_W)).flatten) H := hP
              refine lv_iload hx hb dL_merges_131 (lv_at hl 7 rfl) ?_
              obtain rfl := Option.some.inj hf
              exact xe_wi hx hb hr hlocks hS hP dL_merges_133
    exact hL42 p4 ((p3 + p4) - p4) (v4 + v5) xFU 0 va vh vf hf _ _ hP hS ls (lv_sub hl [4, 5, 6, 7, 8, 3, 2, 1, 0] rfl)
theorem cdL_merges : yL_merges.cls ≠ "java/lang/invoke/MethodHandle" ∧ yL_merges.cls ≠ "java/lang/invoke/VarHandle" ∧ (parseMethodDescriptor yL_merges.desc).map (fun d => d.parameters.length) = some 5 := by decide +kernel

set_option maxHeartbeats 8000000 in
set_option maxRecDepth 100000 in
theorem kL_lightest (l : Launch) (dC : Nat → ClassId) (dI : Nat → Nat → Nat) (cs : Nat → ClassId) (aa : Nat) (ah : Nat) (af : Nat) (va : Int → Int) (vh : Int → Int) (vf : Int → Int) (p3 : Int) (res : Int) (hf : fL_lightest va vh vf p3 = some res) : Met l yL_lightest wsL_lightest ({ frames := 2, cells := 0, slots := 0, locals := 45 } : Room) (va_Pc [.ref aa, .ref ah, .ref af, .int (iI p3)] (xPR (dC, dI) vwCl ((([[qcC cs aa 64 va], [qcC cs ah 8 vh], [qcC cs af 64 vf]] : List va_W)).flatten) (xT cs))) (vp_Si (fun r => r = iI res)) 0 0 (fun _ => False) := by
  refine Met.ofW (cc := cL_lightest) (maxL := 6) (ret := (some .int)) (by decide) rfl ?_
  intro p e s m args below meth c s₁ B hml hv
  obtain ⟨rfl, hP, hK⟩ := hv
  have hx := B.exec
  have hb := B.bytes
  have hr := B.returns
  have hts := atoms_spec (ws := wsL_lightest) B.pre
  have hown : s.vm.findClass RL = some m.cls := findClass_of_methodNamed B.named
  have hlocks := B.notSynchronized
  have hl := lv_entry [.ref aa, .ref ah, .ref af, .int (iI p3)] (n := 6) (Nat.le_of_ble_eq_true rfl)
  rw [lg_entry_eq]
  generalize (lg_sl [.ref aa, .ref ah, .ref af, .int (iI p3)] ++ List.replicate (6 - (lg_sl [.ref aa, .ref ah, .ref af, .int (iI p3)]).length) Slot.unset).toArray = ls at hl ⊢
  have hl : lv_has ls 6 [(0, .ref aa), (1, .ref ah), (2, .ref af), (3, .int (iI p3))] := hl
  unfold fL_lightest at hf
  refine xk_iconst hx hb dL_lightest_0 ?_
  refine lv_istore (lv' := [(4, .int (iI (-1))), (0, .ref aa), (1, .ref ah), (2, .ref af), (3, .int (iI p3))]) hx hb dL_lightest_1 hl (by decide) rfl (fun ls hl => ?_)
  refine xk_iconst hx hb dL_lightest_3 ?_
  refine lv_istore (lv' := [(5, .int (iI 0)), (4, .int (iI (-1))), (0, .ref aa), (1, .ref ah), (2, .ref af), (3, .int (iI p3))]) hx hb dL_lightest_4 hl (by decide) rfl (fun ls hl => ?_)
  have hL6 : ∀ (n1 : Nat) (l4 : Int) (l5 : Int), fL_lightest_L6 va vh vf p3 n1 l4 l5 = some res → ∀ (ls : Array Slot), lv_has ls 6 [(0, .ref aa), (1, .ref ah), (2, .ref af), (3, .int (iI p3)), (4, .int (iI l4)), (5, .int (iI l5))] → W p l e (headSpec wsL_lightest ({ frames := 2, cells := 0, slots := 0, locals := 45 } : Room)).room s m ([.ref aa, .ref ah, .ref af, .int (iI p3)] : List Value).toArray below meth c s.heap [] 0 0 (MQ below (vp_Si (fun r => r = iI res)) ([.ref aa, .ref ah, .ref af, .int (iI p3)] : List Value).toArray s 0 0 (fun _ => False)) (F0 m 6 ls []) := by
    intro  n1
    induction n1 with
    | zero => intro l4 l5 hf; have hf : (none : Option (Int)) = some res := hf; cases hf
    | succ n1 ih6 =>
      intro l4 l5 hf ls hl
      rw [fL_lightest_L6] at hf
      refine lv_iload hx hb dL_lightest_6 (lv_at hl 5 rfl) ?_
      refine lv_aload_n hx hb dL_lightest_8 rfl (lv_at hl 1 rfl) ?_
      refine xk_iconst hx hb dL_lightest_9 ?_
      obtain ⟨v2, ev2, hf⟩ := x_bind hf
      refine xk_iald (f := vh) hx hb hK hP 1 0 ev2 (by decide) rfl rfl dL_lightest_10 ?_
      obtain ⟨c3a, c3b, c3t, c3f⟩ := x_ltE hf
      refine xk_icmp_ge (tgt := 64) hx hb c3a c3b dL_lightest_11 (by decide) (fun c3 => ?_) (fun c3 => ?_)
      · have hf := c3t c3
        refine lv_aload_n hx hb dL_lightest_14 rfl (lv_at hl 2 rfl) ?_
        refine lv_iload hx hb dL_lightest_15 (lv_at hl 5 rfl) ?_
        obtain ⟨v4, ev4, hf⟩ := x_bind hf
        refine xk_iald (f := vf) hx hb hK hP 2 0 ev4 (by decide) rfl rfl dL_lightest_17 ?_
        obtain ⟨c5a, c5b, c5t, c5f⟩ := x_ltE hf
        refine xk_if_lt (tgt := 54) hx hb c5a dL_lightest_18 (by decide) (fun c5 => ?_) (fun c5 => ?_)
        · have hf := c5t c5
          refine lv_iload hx hb dL_lightest_54 (lv_at hl 4 rfl) ?_
          refine lv_istore (lv' := [(4, .int (iI l4)), (0, .ref aa), (1, .ref ah), (2, .ref af), (3, .int (iI p3)), (5, .int (iI l5))]) hx hb dL_lightest_56 hl (by decide) rfl (fun ls hl => ?_)
          refine xk_iinc (lv' := [(5, .int (iI (l5 + 1))), (4, .int (iI l4)), (0, .ref aa), (1, .ref ah), (2, .ref af), (3, .int (iI p3))]) hx hb dL_lightest_58 hl (k := 5) rfl (by decide) rfl (fun ls hl => ?_)
          refine lv_goto (tgt := 6) hx hb dL_lightest_61 (by decide) ?_
          exact ih6 l4 (l5 + 1) hf ls (lv_sub hl [2, 3, 4, 5, 1, 0] rfl)
        · have hf := c5f c5
          refine lv_iload hx hb dL_lightest_21 (lv_at hl 5 rfl) ?_
          refine lv_iload_n hx hb dL_lightest_23 rfl (lv_at hl 3 rfl) ?_
          obtain ⟨c6a, c6b, c6t, c6f⟩ := x_eqE hf
          refine xk_icmp_eq (tgt := 54) hx hb c6a c6b dL_lightest_24 (by decide) (fun c6 => ?_) (fun c6 => ?_)
          · have hf := c6t c6
            refine lv_iload hx hb dL_lightest_54 (lv_at hl 4 rfl) ?_
            refine lv_istore (lv' := [(4, .int (iI l4)), (0, .ref aa), (1, .ref ah), (2, .ref af), (3, .int (iI p3)), (5, .int (iI l5))]) hx hb dL_lightest_56 hl (by decide) rfl (fun ls hl => ?_)
            refine xk_iinc (lv' := [(5, .int (iI (l5 + 1))), (4, .int (iI l4)), (0, .ref aa), (1, .ref ah), (2, .ref af), (3, .int (iI p3))]) hx hb dL_lightest_58 hl (k := 5) rfl (by decide) rfl (fun ls hl => ?_)
            refine lv_goto (tgt := 6) hx hb dL_lightest_61 (by decide) ?_
            exact ih6 l4 (l5 + 1) hf ls (lv_sub hl [2, 3, 4, 5, 1, 0] rfl)
          · have hf := c6f c6
            refine lv_iload hx hb dL_lightest_27 (lv_at hl 4 rfl) ?_
            obtain ⟨c7a, c7b, c7t, c7f⟩ := x_ltE hf
            refine xk_if_lt (tgt := 49) hx hb c7a dL_lightest_29 (by decide) (fun c7 => ?_) (fun c7 => ?_)
            · have hf := c7t c7
              refine lv_iload hx hb dL_lightest_49 (lv_at hl 5 rfl) ?_
              refine lv_goto (tgt := 56) hx hb dL_lightest_51 (by decide) ?_
              refine lv_istore (lv' := [(4, .int (iI l5)), (0, .ref aa), (1, .ref ah), (2, .ref af), (3, .int (iI p3)), (5, .int (iI l5))]) hx hb dL_lightest_56 hl (by decide) rfl (fun ls hl => ?_)
              refine xk_iinc (lv' := [(5, .int (iI (l5 + 1))), (4, .int (iI l5)), (0, .ref aa), (1, .ref ah), (2, .ref af), (3, .int (iI p3))]) hx hb dL_lightest_58 hl (k := 5) rfl (by decide) rfl (fun ls hl => ?_)
              refine lv_goto (tgt := 6) hx hb dL_lightest_61 (by decide) ?_
              exact ih6 l5 (l5 + 1) hf ls (lv_sub hl [2, 3, 4, 5, 1, 0] rfl)
            · have hf := c7f c7
              refine lv_aload_n hx hb dL_lightest_32 rfl (lv_at hl 0 rfl) ?_
              refine lv_aload_n hx hb dL_lightest_33 rfl (lv_at hl 1 rfl) ?_
              refine lv_iload hx hb dL_lightest_34 (lv_at hl 5 rfl) ?_
              obtain ⟨v8, ev8, hf⟩ := x_bind hf
              refine xf_sri (As := [.ref aa, .ref ah, .int (iI l5)]) (rest := []) (wcs := ([[qcC cs aa 64 va], [qcC cs ah 8 vh]] : List va_W)) ⟨hx, hb, hml, hown, hts⟩ (kL_weighs l dC dI cs aa ah va vh l5 _ ev8) (va_cwS 3 hts gL_lightest_L_weighs rfl rfl rfl cdL_weighs ⟨Nat.le_of_ble_eq_true rfl, Nat.le_of_ble_eq_true rfl⟩) hK hP [0, 1] rfl rfl rfl hl.1 rfl (Nat.le_of_ble_eq_true rfl) dL_lightest_36 ⟨Nat.zero_le _, Nat.zero_le _⟩ ?_
              refine lv_aload_n hx hb dL_lightest_39 rfl (lv_at hl 0 rfl) ?_
              refine lv_aload_n hx hb dL_lightest_40 rfl (lv_at hl 1 rfl) ?_
              refine lv_iload hx hb dL_lightest_41 (lv_at hl 4 rfl) ?_
              obtain ⟨v9, ev9, hf⟩ := x_bind hf
              refine xf_sri (As := [.ref aa, .ref ah, .int (iI l4)]) (rest := [.int (iI v8)]) (wcs := ([[qcC cs aa 64 va], [qcC cs ah 8 vh]] : List va_W)) ⟨hx, hb, hml, hown, hts⟩ (kL_weighs l dC dI cs aa ah va vh l4 _ ev9) (va_cwS 3 hts gL_lightest_L_weighs rfl rfl rfl cdL_weighs ⟨Nat.le_of_ble_eq_true rfl, Nat.le_of_ble_eq_true rfl⟩) hK hP [0, 1] rfl rfl rfl hl.1 rfl (Nat.le_of_ble_eq_true rfl) dL_lightest_43 ⟨Nat.zero_le _, Nat.zero_le _⟩ ?_
              obtain ⟨c10a, c10b, c10t, c10f⟩ := x_ltE hf
              refine xk_icmp_ge (tgt := 54) hx hb c10a c10b dL_lightest_46 (by decide) (fun c10 => ?_) (fun c10 => ?_)
              · have hf := c10t c10
                refine lv_iload hx hb dL_lightest_49 (lv_at hl 5 rfl) ?_
                refine lv_goto (tgt := 56) hx hb dL_lightest_51 (by decide) ?_
                refine lv_istore (lv' := [(4, .int (iI l5)), (0, .ref aa), (1, .ref ah), (2, .ref af), (3, .int (iI p3)), (5, .int (iI l5))]) hx hb dL_lightest_56 hl (by decide) rfl (fun ls hl => ?_)
                refine xk_iinc (lv' := [(5, .int (iI (l5 + 1))), (4, .int (iI l5)), (0, .ref aa), (1, .ref ah), (2, .ref af), (3, .int (iI p3))]) hx hb dL_lightest_58 hl (k := 5) rfl (by decide) rfl (fun ls hl => ?_)
                refine lv_goto (tgt := 6) hx hb dL_lightest_61 (by decide) ?_
                exact ih6 l5 (l5 + 1) hf ls (lv_sub hl [2, 3, 4, 5, 1, 0] rfl)
              · have hf := c10f c10
                refine lv_iload hx hb dL_lightest_54 (lv_at hl 4 rfl) ?_
                refine lv_istore (lv' := [(4, .int (iI l4)), (0, .ref aa), (1, .ref ah), (2, .ref af), (3, .int (iI p3)), (5, .int (iI l5))]) hx hb dL_lightest_56 hl (by decide) rfl (fun ls hl => ?_)
                refine xk_iinc (lv' := [(5, .int (iI (l5 + 1))), (4, .int (iI l4)), (0, .ref aa), (1, .ref ah), (2, .ref af), (3, .int (iI p3))]) hx hb dL_lightest_58 hl (k := 5) rfl (by decide) rfl (fun ls hl => ?_)
                refine lv_goto (tgt := 6) hx hb dL_lightest_61 (by decide) ?_
                exact ih6 l4 (l5 + 1) hf ls (lv_sub hl [2, 3, 4, 5, 1, 0] rfl)
      · have hf := c3f c3
        refine lv_iload hx hb dL_lightest_64 (lv_at hl 4 rfl) ?_
        obtain rfl := Option.some.inj hf
        exact xe_ri hx hb hr hlocks dL_lightest_66 rfl
  exact hL6  xFU (-1) 0 hf ls (lv_sub hl [2, 3, 4, 5, 1, 0] rfl)
theorem cdL_lightest : yL_lightest.cls ≠ "java/lang/invoke/MethodHandle" ∧ yL_lightest.cls ≠ "java/lang/invoke/VarHandle" ∧ (parseMethodDescriptor yL_lightest.desc).map (fun d => d.parameters.length) = some 4 := by decide +kernel

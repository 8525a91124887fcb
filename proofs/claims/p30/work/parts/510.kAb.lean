set_option maxHeartbeats 8000000 in
set_option maxRecDepth 100000 in
theorem kL_lastOf (l : Launch) (dC : Nat → ClassId) (dI : Nat → Nat → Nat) (cs : Nat → ClassId) (aa : Nat) (ah : Nat) (va : Int → Int) (vh : Int → Int) (p2 : Int) (res : Int) (hf : fL_lastOf va vh p2 = some res) : Met l yL_lastOf wsL_lastOf ({ frames := 3, cells := 0, slots := 0, locals := 71 } : Room) (va_Pc [.ref aa, .ref ah, .int (iI p2)] (xPR (dC, dI) vwCl ((([[qcC cs aa 64 va], [qcC cs ah 8 vh]] : List va_W)).flatten) (xT cs))) (vp_Si (fun r => r = iI res)) 0 0 (fun _ => False) := by
  refine Met.ofW (cc := cL_lastOf) (maxL := 3) (ret := (some .int)) (by decide) rfl ?_
  intro p e s m args below meth c s₁ B hml hv
  obtain ⟨rfl, hP, hK⟩ := hv
  have hx := B.exec
  have hb := B.bytes
  have hr := B.returns
  have hts := atoms_spec (ws := wsL_lastOf) B.pre
  have hown : s.vm.findClass RL = some m.cls := findClass_of_methodNamed B.named
  have hlocks := B.notSynchronized
  have hl := lv_entry [.ref aa, .ref ah, .int (iI p2)] (n := 3) (Nat.le_of_ble_eq_true rfl)
  rw [lg_entry_eq]
  generalize (lg_sl [.ref aa, .ref ah, .int (iI p2)] ++ List.replicate (3 - (lg_sl [.ref aa, .ref ah, .int (iI p2)]).length) Slot.unset).toArray = ls at hl ⊢
  have hl : lv_has ls 3 [(0, .ref aa), (1, .ref ah), (2, .int (iI p2))] := hl
  unfold fL_lastOf at hf
  refine lv_aload_n hx hb dL_lastOf_0 rfl (lv_at hl 0 rfl) ?_
  refine lv_aload_n hx hb dL_lastOf_1 rfl (lv_at hl 1 rfl) ?_
  refine xk_iconst hx hb dL_lastOf_2 ?_
  refine lv_iload_n hx hb dL_lastOf_3 rfl (lv_at hl 2 rfl) ?_
  refine lv_aload_n hx hb dL_lastOf_4 rfl (lv_at hl 0 rfl) ?_
  refine lv_aload_n hx hb dL_lastOf_5 rfl (lv_at hl 1 rfl) ?_
  refine xk_iconst hx hb dL_lastOf_6 ?_
  refine lv_iload_n hx hb dL_lastOf_7 rfl (lv_at hl 2 rfl) ?_
  obtain ⟨v1, ev1, hf⟩ := x_bind hf
  refine xf_sri (As := [.ref aa, .ref ah, .int (iI 1), .int (iI p2)]) (rest := [.int (iI p2), .int (iI 1), .ref ah, .ref aa]) (wcs := ([[qcC cs aa 64 va], [qcC cs ah 8 vh]] : List va_W)) ⟨hx, hb, hml, hown, hts⟩ (kL_many l dC dI cs aa ah va vh 1 p2 _ ev1) (va_cwS 4 hts gL_lastOf_L_many rfl rfl rfl cdL_many ⟨Nat.le_of_ble_eq_true rfl, Nat.le_of_ble_eq_true rfl⟩) hK hP [0, 1] rfl rfl rfl hl.1 rfl (Nat.le_of_ble_eq_true rfl) dL_lastOf_8 ⟨Nat.zero_le _, Nat.zero_le _⟩ ?_
  refine xk_iconst hx hb dL_lastOf_11 ?_
  refine xk_isub hx hb dL_lastOf_12 ?_
  obtain ⟨v2, ev2, hf⟩ := x_bind hf
  refine xf_sri (As := [.ref aa, .ref ah, .int (iI 1), .int (iI p2), .int (iI (v1 - 1))]) (rest := []) (wcs := ([[qcC cs aa 64 va], [qcC cs ah 8 vh]] : List va_W)) ⟨hx, hb, hml, hown, hts⟩ (kL_ranked l dC dI cs aa ah va vh 1 p2 (v1 - 1) _ ev2) (va_cwS 5 hts gL_lastOf_L_ranked rfl rfl rfl cdL_ranked ⟨Nat.le_of_ble_eq_true rfl, Nat.le_of_ble_eq_true rfl⟩) hK hP [0, 1] rfl rfl rfl hl.1 rfl (Nat.le_of_ble_eq_true rfl) dL_lastOf_13 ⟨Nat.zero_le _, Nat.zero_le _⟩ ?_
  obtain rfl := Option.some.inj hf
  exact xe_ri hx hb hr hlocks dL_lastOf_16 rfl
theorem cdL_lastOf : yL_lastOf.cls ≠ "java/lang/invoke/MethodHandle" ∧ yL_lastOf.cls ≠ "java/lang/invoke/VarHandle" ∧ (parseMethodDescriptor yL_lastOf.desc).map (fun d => d.parameters.length) = some 3 := by decide +kernel

set_option maxHeartbeats 8000000 in
set_option maxRecDepth 100000 in
theorem kL_next (l : Launch) (dC : Nat → ClassId) (dI : Nat → Nat → Nat) (cs : Nat → ClassId) (aa : Nat) (ah : Nat) (va : Int → Int) (vh : Int → Int) (res : Int) (hf : fL_next va vh = some res) : Met l yL_next wsL_next ({ frames := 4, cells := 0, slots := 0, locals := 93 } : Room) (va_Pc [.ref aa, .ref ah] (xPR (dC, dI) vwCl ((([[qcC cs aa 64 va], [qcC cs ah 8 vh]] : List va_W)).flatten) (xT cs))) (vp_Si (fun r => r = iI res)) 0 0 (fun _ => False) := by
  refine Met.ofW (cc := cL_next) (maxL := 6) (ret := (some .int)) (by decide) rfl ?_
  intro p e s m args below meth c s₁ B hml hv
  obtain ⟨rfl, hP, hK⟩ := hv
  have hx := B.exec
  have hb := B.bytes
  have hr := B.returns
  have hts := atoms_spec (ws := wsL_next) B.pre
  have hown : s.vm.findClass RL = some m.cls := findClass_of_methodNamed B.named
  have hlocks := B.notSynchronized
  have hl := lv_entry [.ref aa, .ref ah] (n := 6) (Nat.le_of_ble_eq_true rfl)
  rw [lg_entry_eq]
  generalize (lg_sl [.ref aa, .ref ah] ++ List.replicate (6 - (lg_sl [.ref aa, .ref ah]).length) Slot.unset).toArray = ls at hl ⊢
  have hl : lv_has ls 6 [(0, .ref aa), (1, .ref ah)] := hl
  unfold fL_next at hf
  refine lv_aload_n hx hb dL_next_0 rfl (lv_at hl 0 rfl) ?_
  refine lv_aload_n hx hb dL_next_1 rfl (lv_at hl 1 rfl) ?_
  refine xk_iconst hx hb dL_next_2 ?_
  refine xk_iconst hx hb dL_next_3 ?_
  obtain ⟨v1, ev1, hf⟩ := x_bind hf
  refine xf_sri (As := [.ref aa, .ref ah, .int (iI 0), .int (iI (-1))]) (rest := []) (wcs := ([[qcC cs aa 64 va], [qcC cs ah 8 vh]] : List va_W)) ⟨hx, hb, hml, hown, hts⟩ (kL_many l dC dI cs aa ah va vh 0 (-1) _ ev1) (va_cwS 4 hts gL_next_L_many rfl rfl rfl cdL_many ⟨Nat.le_of_ble_eq_true rfl, Nat.le_of_ble_eq_true rfl⟩) hK hP [0, 1] rfl rfl rfl hl.1 rfl (Nat.le_of_ble_eq_true rfl) dL_next_4 ⟨Nat.zero_le _, Nat.zero_le _⟩ ?_
  refine lv_istore_n (lv' := [(2, .int (iI v1)), (0, .ref aa), (1, .ref ah)]) hx hb dL_next_7 rfl hl (by decide) rfl (fun ls hl => ?_)
  refine lv_aload_n hx hb dL_next_8 rfl (lv_at hl 2 rfl) ?_
  refine xk_iconst hx hb dL_next_9 ?_
  obtain ⟨v2, ev2, hf⟩ := x_bind hf
  refine xk_iald (f := vh) hx hb hK hP 1 0 ev2 (by decide) rfl rfl dL_next_10 ?_
  obtain ⟨c3a, c3b, c3t, c3f⟩ := x_ltE hf
  refine xk_if_lt (tgt := 62) hx hb c3a dL_next_11 (by decide) (fun c3 => ?_) (fun c3 => ?_)
  · have hf := c3t c3
    refine lv_iload_n hx hb dL_next_62 rfl (lv_at hl 0 rfl) ?_
    obtain ⟨c4a, c4b, c4t, c4f⟩ := x_eqE hf
    refine xk_if_ne (tgt := 70) hx hb c4a dL_next_63 (by decide) (fun c4 => ?_) (fun c4 => ?_)
    · have hf := c4t c4
      refine xk_iconst hx hb dL_next_66 ?_
      refine lv_goto (tgt := 78) hx hb dL_next_67 (by decide) ?_
      obtain rfl := Option.some.inj hf
      exact xe_ri hx hb hr hlocks dL_next_78 rfl
    · have hf := c4f c4
      refine lv_aload_n hx hb dL_next_70 rfl (lv_at hl 1 rfl) ?_
      refine lv_aload_n hx hb dL_next_71 rfl (lv_at hl 2 rfl) ?_
      refine xk_iconst hx hb dL_next_72 ?_
      refine xk_iconst hx hb dL_next_73 ?_
      refine xk_iconst hx hb dL_next_74 ?_
      obtain ⟨v5, ev5, hf⟩ := x_bind hf
      refine xf_sri (As := [.ref aa, .ref ah, .int (iI 0), .int (iI (-1)), .int (iI 0)]) (rest := []) (wcs := ([[qcC cs aa 64 va], [qcC cs ah 8 vh]] : List va_W)) ⟨hx, hb, hml, hown, hts⟩ (kL_ranked l dC dI cs aa ah va vh 0 (-1) 0 _ ev5) (va_cwS 5 hts gL_next_L_ranked rfl rfl rfl cdL_ranked ⟨Nat.le_of_ble_eq_true rfl, Nat.le_of_ble_eq_true rfl⟩) hK hP [0, 1] rfl rfl rfl hl.1 rfl (Nat.le_of_ble_eq_true rfl) dL_next_75 ⟨Nat.zero_le _, Nat.zero_le _⟩ ?_
      obtain rfl := Option.some.inj hf
      exact xe_ri hx hb hr hlocks dL_next_78 rfl
  · have hf := c3f c3
    refine lv_aload_n hx hb dL_next_14 rfl (lv_at hl 1 rfl) ?_
    refine lv_aload_n hx hb dL_next_15 rfl (lv_at hl 2 rfl) ?_
    refine lv_aload_n hx hb dL_next_16 rfl (lv_at hl 2 rfl) ?_
    refine xk_iconst hx hb dL_next_17 ?_
    obtain ⟨v6, ev6, hf⟩ := x_bind hf
    refine xk_iald (f := vh) hx hb hK hP 1 0 ev6 (by decide) rfl rfl dL_next_18 ?_
    obtain ⟨v7, ev7, hf⟩ := x_bind hf
    refine xf_sri (As := [.ref aa, .ref ah, .int (iI v6)]) (rest := []) (wcs := ([[qcC cs aa 64 va], [qcC cs ah 8 vh]] : List va_W)) ⟨hx, hb, hml, hown, hts⟩ (kL_lastOf l dC dI cs aa ah va vh v6 _ ev7) (va_cwS 3 hts gL_next_L_lastOf rfl rfl rfl cdL_lastOf ⟨Nat.le_of_ble_eq_true rfl, Nat.le_of_ble_eq_true rfl⟩) hK hP [0, 1] rfl rfl rfl hl.1 rfl (Nat.le_of_ble_eq_true rfl) dL_next_19 ⟨Nat.zero_le _, Nat.zero_le _⟩ ?_
    refine lv_istore_n (lv' := [(3, .int (iI v7)), (2, .int (iI v1)), (0, .ref aa), (1, .ref ah)]) hx hb dL_next_22 rfl hl (by decide) rfl (fun ls hl => ?_)
    refine xk_iconst hx hb dL_next_23 ?_
    refine lv_istore (lv' := [(4, .int (iI 0)), (3, .int (iI v7)), (2, .int (iI v1)), (0, .ref aa), (1, .ref ah)]) hx hb dL_next_24 hl (by decide) rfl (fun ls hl => ?_)
    have hL26 : ∀ (n8 : Nat) (l4 : Int), fL_next_L26 va vh v1 v7 n8 l4 = some res → ∀ (ls : Array Slot), lv_has ls 6 [(0, .ref aa), (1, .ref ah), (2, .int (iI v1)), (3, .int (iI v7)), (4, .int (iI l4))] → W p l e (headSpec wsL_next ({ frames := 4, cells := 0, slots := 0, locals := 93 } : Room)).room s m ([.ref aa, .ref ah] : List Value).toArray below meth c s.heap [] 0 0 (MQ below (vp_Si (fun r => r = iI res)) ([.ref aa, .ref ah] : List Value).toArray s 0 0 (fun _ => False)) (F0 m 26 ls []) := by
      intro  n8
      induction n8 with
      | zero => intro l4 hf; have hf : (none : Option (Int)) = some res := hf; cases hf
      | succ n8 ih26 =>
        intro l4 hf ls hl
        rw [fL_next_L26] at hf
        refine lv_iload hx hb dL_next_26 (lv_at hl 4 rfl) ?_
        refine lv_iload_n hx hb dL_next_28 rfl (lv_at hl 2 rfl) ?_
        obtain ⟨c9a, c9b, c9t, c9f⟩ := x_ltE hf
        refine xk_icmp_ge (tgt := 62) hx hb c9a c9b dL_next_29 (by decide) (fun c9 => ?_) (fun c9 => ?_)
        · have hf := c9t c9
          refine lv_aload_n hx hb dL_next_32 rfl (lv_at hl 0 rfl) ?_
          refine lv_aload_n hx hb dL_next_33 rfl (lv_at hl 1 rfl) ?_
          refine xk_iconst hx hb dL_next_34 ?_
          refine xk_iconst hx hb dL_next_35 ?_
          refine lv_iload hx hb dL_next_36 (lv_at hl 4 rfl) ?_
          obtain ⟨v10, ev10, hf⟩ := x_bind hf
          refine xf_sri (As := [.ref aa, .ref ah, .int (iI 0), .int (iI (-1)), .int (iI l4)]) (rest := []) (wcs := ([[qcC cs aa 64 va], [qcC cs ah 8 vh]] : List va_W)) ⟨hx, hb, hml, hown, hts⟩ (kL_ranked l dC dI cs aa ah va vh 0 (-1) l4 _ ev10) (va_cwS 5 hts gL_next_L_ranked rfl rfl rfl cdL_ranked ⟨Nat.le_of_ble_eq_true rfl, Nat.le_of_ble_eq_true rfl⟩) hK hP [0, 1] rfl rfl rfl hl.1 rfl (Nat.le_of_ble_eq_true rfl) dL_next_38 ⟨Nat.zero_le _, Nat.zero_le _⟩ ?_
          refine lv_istore (lv' := [(5, .int (iI v10)), (0, .ref aa), (1, .ref ah), (2, .int (iI v1)), (3, .int (iI v7)), (4, .int (iI l4))]) hx hb dL_next_41 hl (by decide) rfl (fun ls hl => ?_)
          refine lv_aload_n hx hb dL_next_43 rfl (lv_at hl 1 rfl) ?_
          refine lv_iload_n hx hb dL_next_44 rfl (lv_at hl 4 rfl) ?_
          refine lv_iload hx hb dL_next_45 (lv_at hl 0 rfl) ?_
          obtain ⟨v11, ev11, hf⟩ := x_bind hf
          refine xf_sri (As := [.ref aa, .int (iI v7), .int (iI v10)]) (rest := []) (wcs := ([[qcC cs aa 64 va]] : List va_W)) ⟨hx, hb, hml, hown, hts⟩ (kL_isLess l dC dI cs aa va v7 v10 _ ev11) (va_cwS 3 hts gL_next_L_isLess rfl rfl rfl cdL_isLess ⟨Nat.le_of_ble_eq_true rfl, Nat.le_of_ble_eq_true rfl⟩) hK hP [0] rfl rfl rfl hl.1 rfl (Nat.le_of_ble_eq_true rfl) dL_next_47 ⟨Nat.zero_le _, Nat.zero_le _⟩ ?_
          obtain ⟨c12a, c12b, c12t, c12f⟩ := x_eqE hf
          refine xk_if_eq (tgt := 56) hx hb c12a dL_next_50 (by decide) (fun c12 => ?_) (fun c12 => ?_)
          · have hf := c12t c12
            refine xk_iinc (lv' := [(4, .int (iI (l4 + 1))), (5, .int (iI v10)), (0, .ref aa), (1, .ref ah), (2, .int (iI v1)), (3, .int (iI v7))]) hx hb dL_next_56 hl (k := 5) rfl (by decide) rfl (fun ls hl => ?_)
            refine lv_goto (tgt := 26) hx hb dL_next_59 (by decide) ?_
            exact ih26 (l4 + 1) hf ls (lv_sub hl [2, 3, 4, 5, 0] rfl)
          · have hf := c12f c12
            refine lv_iload hx hb dL_next_53 (lv_at hl 0 rfl) ?_
            obtain rfl := Option.some.inj hf
            exact xe_ri hx hb hr hlocks dL_next_55 rfl
        · have hf := c9f c9
          refine lv_iload_n hx hb dL_next_62 rfl (lv_at hl 2 rfl) ?_
          obtain ⟨c13a, c13b, c13t, c13f⟩ := x_eqE hf
          refine xk_if_ne (tgt := 70) hx hb c13a dL_next_63 (by decide) (fun c13 => ?_) (fun c13 => ?_)
          · have hf := c13t c13
            refine xk_iconst hx hb dL_next_66 ?_
            refine lv_goto (tgt := 78) hx hb dL_next_67 (by decide) ?_
            obtain rfl := Option.some.inj hf
            exact xe_ri hx hb hr hlocks dL_next_78 rfl
          · have hf := c13f c13
            refine lv_aload_n hx hb dL_next_70 rfl (lv_at hl 0 rfl) ?_
            refine lv_aload_n hx hb dL_next_71 rfl (lv_at hl 1 rfl) ?_
            refine xk_iconst hx hb dL_next_72 ?_
            refine xk_iconst hx hb dL_next_73 ?_
            refine xk_iconst hx hb dL_next_74 ?_
            obtain ⟨v14, ev14, hf⟩ := x_bind hf
            refine xf_sri (As := [.ref aa, .ref ah, .int (iI 0), .int (iI (-1)), .int (iI 0)]) (rest := []) (wcs := ([[qcC cs aa 64 va], [qcC cs ah 8 vh]] : List va_W)) ⟨hx, hb, hml, hown, hts⟩ (kL_ranked l dC dI cs aa ah va vh 0 (-1) 0 _ ev14) (va_cwS 5 hts gL_next_L_ranked rfl rfl rfl cdL_ranked ⟨Nat.le_of_ble_eq_true rfl, Nat.le_of_ble_eq_true rfl⟩) hK hP [0, 1] rfl rfl rfl hl.1 rfl (Nat.le_of_ble_eq_true rfl) dL_next_75 ⟨Nat.zero_le _, Nat.zero_le _⟩ ?_
            obtain rfl := Option.some.inj hf
            exact xe_ri hx hb hr hlocks dL_next_78 rfl
    exact hL26  xFU 0 hf ls (lv_sub hl [3, 4, 2, 1, 0] rfl)
theorem cdL_next : yL_next.cls ≠ "java/lang/invoke/MethodHandle" ∧ yL_next.cls ≠ "java/lang/invoke/VarHandle" ∧ (parseMethodDescriptor yL_next.desc).map (fun d => d.parameters.length) = some 2 := by decide +kernel

set_option maxHeartbeats 8000000 in
set_option maxRecDepth 100000 in
theorem kL_throwsOne (l : Launch) (dC : Nat → ClassId) (dI : Nat → Nat → Nat) (cs : Nat → ClassId) (aa : Nat) (ah : Nat) (af : Nat) (sz : Nat) (va : Int → Int) (vh : Int → Int) (vf : Int → Int) (res : Int × (Int → Int) × (Int → Int) × (Int → Int)) (hf : fL_throwsOne va vh vf = some res) : Met l yL_throwsOne wsL_throwsOne ({ frames := 5, cells := 0, slots := 0, locals := 118 } : Room) (va_Pc [.ref aa, .ref ah, .ref af] (xPW (dC, dI) vwCl ((([[qcC cs aa 64 va], [qcC cs ah 8 vh], [qcC cs af 64 vf]] : List va_W)).flatten) (xT cs) sz)) (xQi (dC, dI) vwCl ((([[qcC cs aa 64 va], [qcC cs ah 8 vh], [qcC cs af 64 vf]] : List va_W)).flatten) ((([[qcC cs aa 64 res.2.1], [qcC cs ah 8 res.2.2.1], [qcC cs af 64 res.2.2.2]] : List va_W)).flatten) sz res.1) 0 0 (va_A ((([[qcC cs aa 64 va], [qcC cs ah 8 vh], [qcC cs af 64 vf]] : List va_W)).flatten) sz) := by
  refine Met.ofW (cc := cL_throwsOne) (maxL := 4) (ret := (some .int)) (by decide) rfl ?_
  intro p e s m args below meth c s₁ B hml hv
  obtain ⟨rfl, hsz, hP, hK, hD0⟩ := hv
  have hx := B.exec
  have hb := B.bytes
  have hr := B.returns
  have hts := atoms_spec (ws := wsL_throwsOne) B.pre
  have hown : s.vm.findClass RL = some m.cls := findClass_of_methodNamed B.named
  have hlocks := B.notSynchronized
  subst hsz
  have hD := hD0.self (sz := s.heap.size)
  have hA : ∀ z9 : Nat, s.heap.size ≤ z9 → va_A ((([[qcC cs aa 64 va], [qcC cs ah 8 vh], [qcC cs af 64 vf]] : List va_W)).flatten) s.heap.size z9 := fun z9 h => Or.inr h
  have hS : va_S (va_A ((([[qcC cs aa 64 va], [qcC cs ah 8 vh], [qcC cs af 64 vf]] : List va_W)).flatten) s.heap.size) s.heap s.heap [] := va_S.rf
  have hl := lv_entry [.ref aa, .ref ah, .ref af] (n := 4) (Nat.le_of_ble_eq_true rfl)
  rw [lg_entry_eq]
  generalize (lg_sl [.ref aa, .ref ah, .ref af] ++ List.replicate (4 - (lg_sl [.ref aa, .ref ah, .ref af]).length) Slot.unset).toArray = ls at hl ⊢
  have hl : lv_has ls 4 [(0, .ref aa), (1, .ref ah), (2, .ref af)] := hl
  unfold fL_throwsOne at hf
  refine lv_aload_n hx hb dL_throwsOne_0 rfl (lv_at hl 0 rfl) ?_
  refine lv_aload_n hx hb dL_throwsOne_1 rfl (lv_at hl 1 rfl) ?_
  obtain ⟨v1, ev1, hf⟩ := x_bind hf
  refine xf_sri (As := [.ref aa, .ref ah]) (rest := []) (wcs := ([[qcC cs aa 64 va], [qcC cs ah 8 vh]] : List va_W)) ⟨hx, hb, hml, hown, hts⟩ (kL_next l dC dI cs aa ah va vh _ ev1) (va_cwS 2 hts gL_throwsOne_L_next rfl rfl rfl cdL_next ⟨Nat.le_of_ble_eq_true rfl, Nat.le_of_ble_eq_true rfl⟩) hK hP [0, 1] rfl rfl rfl hl.1 rfl (Nat.le_of_ble_eq_true rfl) dL_throwsOne_2 ⟨Nat.zero_le _, Nat.zero_le _⟩ ?_
  refine lv_istore_n (lv' := [(3, .int (iI v1)), (0, .ref aa), (1, .ref ah), (2, .ref af)]) hx hb dL_throwsOne_5 rfl hl (by decide) rfl (fun ls hl => ?_)
  refine lv_aload_n hx hb dL_throwsOne_6 rfl (lv_at hl 2 rfl) ?_
  refine xk_iconst hx hb dL_throwsOne_7 ?_
  obtain ⟨v2, ev2, hf⟩ := x_bind hf
  refine xk_iald (f := vh) hx hb hK hP 1 0 ev2 (by decide) rfl rfl dL_throwsOne_8 ?_
  obtain ⟨c3a, c3b, c3t, c3f⟩ := x_ltE hf
  refine xk_if_lt (tgt := 28) hx hb c3a dL_throwsOne_9 (by decide) (fun c3 => ?_) (fun c3 => ?_)
  · have hf := c3t c3
    refine lv_aload_n hx hb dL_throwsOne_28 rfl (lv_at hl 2 rfl) ?_
    refine xk_iconst hx hb dL_throwsOne_29 ?_
    refine lv_aload_n hx hb dL_throwsOne_30 rfl (lv_at hl 2 rfl) ?_
    refine xk_iconst hx hb dL_throwsOne_31 ?_
    obtain ⟨v4, ev4, hf⟩ := x_bind hf
    refine xk_iald (f := vh) hx hb hK hP 1 0 ev4 (by decide) rfl rfl dL_throwsOne_32 ?_
    obtain ⟨g5, eg5, hf⟩ := x_bind hf
    refine xk_iast (f := vh) hx hb hK hP (x_addrF hD rfl) hS 1 0 eg5 (by decide) rfl rfl dL_throwsOne_33 (fun H locs hP hS => ?_)
    have hP : va_P (dC, dI) vwCl ((([[qcC cs aa 64 va], [qcC cs ah 8 g5], [qcC cs af 64 vf]] : List va_W)).flatten) H := hP
    refine lv_aload_n hx hb dL_throwsOne_34 rfl (lv_at hl 3 rfl) ?_
    refine lv_aload_n hx hb dL_throwsOne_35 rfl (lv_at hl 2 rfl) ?_
    refine xk_iconst hx hb dL_throwsOne_36 ?_
    obtain ⟨v6, ev6, hf⟩ := x_bind hf
    refine xk_iald (f := g5) hx hb hK hP 1 0 ev6 (by decide) rfl rfl dL_throwsOne_37 ?_
    refine xk_iconst hx hb dL_throwsOne_38 ?_
    obtain ⟨g7, eg7, hf⟩ := x_bind hf
    refine xk_iast (f := vf) hx hb hK hP (x_addrF hD rfl) hS 2 0 eg7 (by decide) rfl rfl dL_throwsOne_39 (fun H locs hP hS => ?_)
    have hP : va_P (dC, dI) vwCl ((([[qcC cs aa 64 va], [qcC cs ah 8 g5], [qcC cs af 64 g7]] : List va_W)).flatten) H := hP
    refine lv_aload_n hx hb dL_throwsOne_40 rfl (lv_at hl 2 rfl) ?_
    refine xk_iconst hx hb dL_throwsOne_41 ?_
    refine lv_dup2_11 hx hb dL_throwsOne_42 rfl rfl ?_
    obtain ⟨v8, ev8, hf⟩ := x_bind hf
    refine xk_iald (f := g5) hx hb hK hP 1 0 ev8 (by decide) rfl rfl dL_throwsOne_43 ?_
    refine xk_iconst hx hb dL_throwsOne_44 ?_
    refine xk_iadd hx hb dL_throwsOne_45 ?_
    obtain ⟨g9, eg9, hf⟩ := x_bind hf
    refine xk_iast (f := g5) hx hb hK hP (x_addrF hD rfl) hS 1 0 eg9 (by decide) rfl rfl dL_throwsOne_46 (fun H locs hP hS => ?_)
    have hP : va_P (dC, dI) vwCl ((([[qcC cs aa 64 va], [qcC cs ah 8 g9], [qcC cs af 64 g7]] : List va_W)).flatten) H := hP
    refine lv_aload_n hx hb dL_throwsOne_47 rfl (lv_at hl 1 rfl) ?_
    refine lv_iload_n hx hb dL_throwsOne_48 rfl (lv_at hl 0 rfl) ?_
    refine xk_iconst hx hb dL_throwsOne_49 ?_
    refine lv_aload_n hx hb dL_throwsOne_50 rfl (lv_at hl 2 rfl) ?_
    refine xk_iconst hx hb dL_throwsOne_51 ?_
    obtain ⟨v10, ev10, hf⟩ := x_bind hf
    refine xk_iald (f := g9) hx hb hK hP 1 0 ev10 (by decide) rfl rfl dL_throwsOne_52 ?_
    obtain ⟨g11, eg11, hf⟩ := x_bind hf
    refine xf_swv (As := [.ref aa, .int (iI v1), .int (iI 1), .int (iI v10)]) (rest := []) (wcs := ([[qcC cs aa 64 va]] : List va_W)) (w1s := ([[qcC cs aa 64 g11]] : List va_W)) ⟨hx, hb, hml, hown, hts⟩ (kL_goes l dC dI cs aa _ va v1 1 v10 _ eg11) (va_cwS 4 hts gL_throwsOne_L_goes rfl rfl rfl cdL_goes ⟨Nat.le_of_ble_eq_true rfl, Nat.le_of_ble_eq_true rfl⟩) hK hP (x_addrF hD rfl) hS hA [0] rfl rfl rfl (by decide) rfl rfl hl.1 rfl (Nat.le_of_ble_eq_true rfl) dL_throwsOne_53 ⟨Nat.zero_le _, Nat.zero_le _⟩ (fun H locs hP hS => ?_)
    have hP : va_P (dC, dI) vwCl ((([[qcC cs aa 64 g11], [qcC cs ah 8 g9], [qcC cs af 64 g7]] : List va_W)).flatten) H := hP
    refine lv_aload_n hx hb dL_throwsOne_56 rfl (lv_at hl 2 rfl) ?_
    refine xk_iconst hx hb dL_throwsOne_57 ?_
    obtain ⟨v12, ev12, hf⟩ := x_bind hf
    refine xk_iald (f := g9) hx hb hK hP 1 0 ev12 (by decide) rfl rfl dL_throwsOne_58 ?_
    obtain rfl := Option.some.inj hf
    exact xe_wi hx hb hr hlocks hS hP dL_throwsOne_59
  · have hf := c3f c3
    refine lv_aload_n hx hb dL_throwsOne_12 rfl (lv_at hl 1 rfl) ?_
    refine lv_aload_n hx hb dL_throwsOne_13 rfl (lv_at hl 1 rfl) ?_
    refine lv_aload_n hx hb dL_throwsOne_14 rfl (lv_at hl 2 rfl) ?_
    refine lv_aload_n hx hb dL_throwsOne_15 rfl (lv_at hl 2 rfl) ?_
    refine xk_iconst hx hb dL_throwsOne_16 ?_
    obtain ⟨v13, ev13, hf⟩ := x_bind hf
    refine xk_iald (f := vh) hx hb hK hP 1 0 ev13 (by decide) rfl rfl dL_throwsOne_17 ?_
    obtain ⟨v14, ev14, hf⟩ := x_bind hf
    refine xf_sri (As := [.ref aa, .ref ah, .int (iI v13)]) (rest := [.ref aa]) (wcs := ([[qcC cs aa 64 va], [qcC cs ah 8 vh]] : List va_W)) ⟨hx, hb, hml, hown, hts⟩ (kL_lastOf l dC dI cs aa ah va vh v13 _ ev14) (va_cwS 3 hts gL_throwsOne_L_lastOf rfl rfl rfl cdL_lastOf ⟨Nat.le_of_ble_eq_true rfl, Nat.le_of_ble_eq_true rfl⟩) hK hP [0, 1] rfl rfl rfl hl.1 rfl (Nat.le_of_ble_eq_true rfl) dL_throwsOne_18 ⟨Nat.zero_le _, Nat.zero_le _⟩ ?_
    refine lv_iload_n hx hb dL_throwsOne_21 rfl (lv_at hl 0 rfl) ?_
    obtain ⟨v15, ev15, hf⟩ := x_bind hf
    refine xf_sri (As := [.ref aa, .int (iI v14), .int (iI v1)]) (rest := []) (wcs := ([[qcC cs aa 64 va]] : List va_W)) ⟨hx, hb, hml, hown, hts⟩ (kL_isLess l dC dI cs aa va v14 v1 _ ev15) (va_cwS 3 hts gL_throwsOne_L_isLess rfl rfl rfl cdL_isLess ⟨Nat.le_of_ble_eq_true rfl, Nat.le_of_ble_eq_true rfl⟩) hK hP [0] rfl rfl rfl hl.1 rfl (Nat.le_of_ble_eq_true rfl) dL_throwsOne_22 ⟨Nat.zero_le _, Nat.zero_le _⟩ ?_
    obtain ⟨c16a, c16b, c16t, c16f⟩ := x_eqE hf
    refine xk_if_ne (tgt := 47) hx hb c16a dL_throwsOne_25 (by decide) (fun c16 => ?_) (fun c16 => ?_)
    · have hf := c16t c16
      refine lv_aload_n hx hb dL_throwsOne_28 rfl (lv_at hl 2 rfl) ?_
      refine xk_iconst hx hb dL_throwsOne_29 ?_
      refine lv_aload_n hx hb dL_throwsOne_30 rfl (lv_at hl 2 rfl) ?_
      refine xk_iconst hx hb dL_throwsOne_31 ?_
      obtain ⟨v17, ev17, hf⟩ := x_bind hf
      refine xk_iald (f := vh) hx hb hK hP 1 0 ev17 (by decide) rfl rfl dL_throwsOne_32 ?_
      obtain ⟨g18, eg18, hf⟩ := x_bind hf
      refine xk_iast (f := vh) hx hb hK hP (x_addrF hD rfl) hS 1 0 eg18 (by decide) rfl rfl dL_throwsOne_33 (fun H locs hP hS => ?_)
      have hP : va_P (dC, dI) vwCl ((([[qcC cs aa 64 va], [qcC cs ah 8 g18], [qcC cs af 64 vf]] : List va_W)).flatten) H := hP
      refine lv_aload_n hx hb dL_throwsOne_34 rfl (lv_at hl 3 rfl) ?_
      refine lv_aload_n hx hb dL_throwsOne_35 rfl (lv_at hl 2 rfl) ?_
      refine xk_iconst hx hb dL_throwsOne_36 ?_
      obtain ⟨v19, ev19, hf⟩ := x_bind hf
      refine xk_iald (f := g18) hx hb hK hP 1 0 ev19 (by decide) rfl rfl dL_throwsOne_37 ?_
      refine xk_iconst hx hb dL_throwsOne_38 ?_
      obtain ⟨g20, eg20, hf⟩ := x_bind hf
      refine xk_iast (f := vf) hx hb hK hP (x_addrF hD rfl) hS 2 0 eg20 (by decide) rfl rfl dL_throwsOne_39 (fun H locs hP hS => ?_)
      have hP : va_P (dC, dI) vwCl ((([[qcC cs aa 64 va], [qcC cs ah 8 g18], [qcC cs af 64 g20]] : List va_W)).flatten) H := hP
      refine lv_aload_n hx hb dL_throwsOne_40 rfl (lv_at hl 2 rfl) ?_
      refine xk_iconst hx hb dL_throwsOne_41 ?_
      refine lv_dup2_11 hx hb dL_throwsOne_42 rfl rfl ?_
      obtain ⟨v21, ev21, hf⟩ := x_bind hf
      refine xk_iald (f := g18) hx hb hK hP 1 0 ev21 (by decide) rfl rfl dL_throwsOne_43 ?_
      refine xk_iconst hx hb dL_throwsOne_44 ?_
      refine xk_iadd hx hb dL_throwsOne_45 ?_
      obtain ⟨g22, eg22, hf⟩ := x_bind hf
      refine xk_iast (f := g18) hx hb hK hP (x_addrF hD rfl) hS 1 0 eg22 (by decide) rfl rfl dL_throwsOne_46 (fun H locs hP hS => ?_)
      have hP : va_P (dC, dI) vwCl ((([[qcC cs aa 64 va], [qcC cs ah 8 g22], [qcC cs af 64 g20]] : List va_W)).flatten) H := hP
      refine lv_aload_n hx hb dL_throwsOne_47 rfl (lv_at hl 1 rfl) ?_
      refine lv_iload_n hx hb dL_throwsOne_48 rfl (lv_at hl 0 rfl) ?_
      refine xk_iconst hx hb dL_throwsOne_49 ?_
      refine lv_aload_n hx hb dL_throwsOne_50 rfl (lv_at hl 2 rfl) ?_
      refine xk_iconst hx hb dL_throwsOne_51 ?_
      obtain ⟨v23, ev23, hf⟩ := x_bind hf
      refine xk_iald (f := g22) hx hb hK hP 1 0 ev23 (by decide) rfl rfl dL_throwsOne_52 ?_
      obtain ⟨g24, eg24, hf⟩ := x_bind hf
      refine xf_swv (As := [.ref aa, .int (iI v1), .int (iI 1), .int (iI v23)]) (rest := []) (wcs := ([[qcC cs aa 64 va]] : List va_W)) (w1s := ([[qcC cs aa 64 g24]] : List va_W)) ⟨hx, hb, hml, hown, hts⟩ (kL_goes l dC dI cs aa _ va v1 1 v23 _ eg24) (va_cwS 4 hts gL_throwsOne_L_goes rfl rfl rfl cdL_goes ⟨Nat.le_of_ble_eq_true rfl, Nat.le_of_ble_eq_true rfl⟩) hK hP (x_addrF hD rfl) hS hA [0] rfl rfl rfl (by decide) rfl rfl hl.1 rfl (Nat.le_of_ble_eq_true rfl) dL_throwsOne_53 ⟨Nat.zero_le _, Nat.zero_le _⟩ (fun H locs hP hS => ?_)
      have hP : va_P (dC, dI) vwCl ((([[qcC cs aa 64 g24], [qcC cs ah 8 g22], [qcC cs af 64 g20]] : List va_W)).flatten) H := hP
      refine lv_aload_n hx hb dL_throwsOne_56 rfl (lv_at hl 2 rfl) ?_
      refine xk_iconst hx hb dL_throwsOne_57 ?_
      obtain ⟨v25, ev25, hf⟩ := x_bind hf
      refine xk_iald (f := g22) hx hb hK hP 1 0 ev25 (by decide) rfl rfl dL_throwsOne_58 ?_
      obtain rfl := Option.some.inj hf
      exact xe_wi hx hb hr hlocks hS hP dL_throwsOne_59
    · have hf := c16f c16
      refine lv_aload_n hx hb dL_throwsOne_47 rfl (lv_at hl 1 rfl) ?_
      refine lv_iload_n hx hb dL_throwsOne_48 rfl (lv_at hl 0 rfl) ?_
      refine xk_iconst hx hb dL_throwsOne_49 ?_
      refine lv_aload_n hx hb dL_throwsOne_50 rfl (lv_at hl 2 rfl) ?_
      refine xk_iconst hx hb dL_throwsOne_51 ?_
      obtain ⟨v26, ev26, hf⟩ := x_bind hf
      refine xk_iald (f := vh) hx hb hK hP 1 0 ev26 (by decide) rfl rfl dL_throwsOne_52 ?_
      obtain ⟨g27, eg27, hf⟩ := x_bind hf
      refine xf_swv (As := [.ref aa, .int (iI v1), .int (iI 1), .int (iI v26)]) (rest := []) (wcs := ([[qcC cs aa 64 va]] : List va_W)) (w1s := ([[qcC cs aa 64 g27]] : List va_W)) ⟨hx, hb, hml, hown, hts⟩ (kL_goes l dC dI cs aa _ va v1 1 v26 _ eg27) (va_cwS 4 hts gL_throwsOne_L_goes rfl rfl rfl cdL_goes ⟨Nat.le_of_ble_eq_true rfl, Nat.le_of_ble_eq_true rfl⟩) hK hP (x_addrF hD rfl) hS hA [0] rfl rfl rfl (by decide) rfl rfl hl.1 rfl (Nat.le_of_ble_eq_true rfl) dL_throwsOne_53 ⟨Nat.zero_le _, Nat.zero_le _⟩ (fun H locs hP hS => ?_)
      have hP : va_P (dC, dI) vwCl ((([[qcC cs aa 64 g27], [qcC cs ah 8 vh], [qcC cs af 64 vf]] : List va_W)).flatten) H := hP
      refine lv_aload_n hx hb dL_throwsOne_56 rfl (lv_at hl 2 rfl) ?_
      refine xk_iconst hx hb dL_throwsOne_57 ?_
      obtain ⟨v28, ev28, hf⟩ := x_bind hf
      refine xk_iald (f := vh) hx hb hK hP 1 0 ev28 (by decide) rfl rfl dL_throwsOne_58 ?_
      obtain rfl := Option.some.inj hf
      exact xe_wi hx hb hr hlocks hS hP dL_throwsOne_59
theorem cdL_throwsOne : yL_throwsOne.cls ≠ "java/lang/invoke/MethodHandle" ∧ yL_throwsOne.cls ≠ "java/lang/invoke/VarHandle" ∧ (parseMethodDescriptor yL_throwsOne.desc).map (fun d => d.parameters.length) = some 3 := by decide +kernel

set_option maxHeartbeats 8000000 in
set_option maxRecDepth 100000 in
theorem kL_loads (l : Launch) (dC : Nat → ClassId) (dI : Nat → Nat → Nat) (cs : Nat → ClassId) (aa : Nat) (ah : Nat) (af : Nat) (sz : Nat) (va : Int → Int) (vh : Int → Int) (vf : Int → Int) (p3 : Int) (p4 : Int) (res : Int × (Int → Int) × (Int → Int) × (Int → Int)) (hf : fL_loads va vh vf p3 p4 = some res) : Met l yL_loads wsL_loads ({ frames := 6, cells := 0, slots := 0, locals := 141 } : Room) (va_Pc [.ref aa, .ref ah, .ref af, .int (iI p3), .int (iI p4)] (xPW (dC, dI) vwCl ((([[qcC cs aa 64 va], [qcC cs ah 8 vh], [qcC cs af 64 vf]] : List va_W)).flatten) (xT cs) sz)) (xQi (dC, dI) vwCl ((([[qcC cs aa 64 va], [qcC cs ah 8 vh], [qcC cs af 64 vf]] : List va_W)).flatten) ((([[qcC cs aa 64 res.2.1], [qcC cs ah 8 res.2.2.1], [qcC cs af 64 res.2.2.2]] : List va_W)).flatten) sz res.1) 0 0 (va_A ((([[qcC cs aa 64 va], [qcC cs ah 8 vh], [qcC cs af 64 vf]] : List va_W)).flatten) sz) := by
  refine Met.ofW (cc := cL_loads) (maxL := 6) (ret := (some .int)) (by decide) rfl ?_
  intro p e s m args below meth c s₁ B hml hv
  obtain ⟨rfl, hsz, hP, hK, hD0⟩ := hv
  have hx := B.exec
  have hb := B.bytes
  have hr := B.returns
  have hts := atoms_spec (ws := wsL_loads) B.pre
  have hown : s.vm.findClass RL = some m.cls := findClass_of_methodNamed B.named
  have hlocks := B.notSynchronized
  subst hsz
  have hD := hD0.self (sz := s.heap.size)
  have hA : ∀ z9 : Nat, s.heap.size ≤ z9 → va_A ((([[qcC cs aa 64 va], [qcC cs ah 8 vh], [qcC cs af 64 vf]] : List va_W)).flatten) s.heap.size z9 := fun z9 h => Or.inr h
  have hS : va_S (va_A ((([[qcC cs aa 64 va], [qcC cs ah 8 vh], [qcC cs af 64 vf]] : List va_W)).flatten) s.heap.size) s.heap s.heap [] := va_S.rf
  have hl := lv_entry [.ref aa, .ref ah, .ref af, .int (iI p3), .int (iI p4)] (n := 6) (Nat.le_of_ble_eq_true rfl)
  rw [lg_entry_eq]
  generalize (lg_sl [.ref aa, .ref ah, .ref af, .int (iI p3), .int (iI p4)] ++ List.replicate (6 - (lg_sl [.ref aa, .ref ah, .ref af, .int (iI p3), .int (iI p4)]).length) Slot.unset).toArray = ls at hl ⊢
  have hl : lv_has ls 6 [(0, .ref aa), (1, .ref ah), (2, .ref af), (3, .int (iI p3)), (4, .int (iI p4))] := hl
  unfold fL_loads at hf
  refine lv_aload_n hx hb dL_loads_0 rfl (lv_at hl 0 rfl) ?_
  refine lv_aload_n hx hb dL_loads_1 rfl (lv_at hl 1 rfl) ?_
  refine xk_iconst hx hb dL_loads_2 ?_
  refine xk_iconst hx hb dL_loads_3 ?_
  obtain ⟨v1, ev1, hf⟩ := x_bind hf
  refine xf_sri (As := [.ref aa, .ref ah, .int (iI 0), .int (iI (-1))]) (rest := []) (wcs := ([[qcC cs aa 64 va], [qcC cs ah 8 vh]] : List va_W)) ⟨hx, hb, hml, hown, hts⟩ (kL_many l dC dI cs aa ah va vh 0 (-1) _ ev1) (va_cwS 4 hts gL_loads_L_many rfl rfl rfl cdL_many ⟨Nat.le_of_ble_eq_true rfl, Nat.le_of_ble_eq_true rfl⟩) hK hP [0, 1] rfl rfl rfl hl.1 rfl (Nat.le_of_ble_eq_true rfl) dL_loads_4 ⟨Nat.zero_le _, Nat.zero_le _⟩ ?_
  refine lv_aload_n hx hb dL_loads_7 rfl (lv_at hl 1 rfl) ?_
  refine xk_iconst hx hb dL_loads_8 ?_
  obtain ⟨v2, ev2, hf⟩ := x_bind hf
  refine xk_iald (f := vh) hx hb hK hP 1 0 ev2 (by decide) rfl rfl dL_loads_9 ?_
  obtain ⟨c3a, c3b, c3t, c3f⟩ := x_ltE hf
  refine xk_icmp_ge (tgt := 17) hx hb c3a c3b dL_loads_10 (by decide) (fun c3 => ?_) (fun c3 => ?_)
  · have hf := c3t c3
    refine xk_iconst hx hb dL_loads_13 ?_
    refine lv_goto (tgt := 23) hx hb dL_loads_14 (by decide) ?_
    refine lv_istore (lv' := [(5, .int (iI (-1))), (0, .ref aa), (1, .ref ah), (2, .ref af), (3, .int (iI p3)), (4, .int (iI p4))]) hx hb dL_loads_23 hl (by decide) rfl (fun ls hl => ?_)
    refine lv_aload_n hx hb dL_loads_25 rfl (lv_at hl 1 rfl) ?_
    refine lv_aload_n hx hb dL_loads_26 rfl (lv_at hl 2 rfl) ?_
    refine xk_iconst hx hb dL_loads_27 ?_
    obtain ⟨v4, ev4, hf⟩ := x_bind hf
    refine xk_iald (f := vh) hx hb hK hP 1 0 ev4 (by decide) rfl rfl dL_loads_28 ?_
    refine lv_iload_n hx hb dL_loads_29 rfl (lv_at hl 4 rfl) ?_
    refine lv_iload hx hb dL_loads_30 (lv_at hl 5 rfl) ?_
    refine xk_iconst hx hb dL_loads_32 ?_
    refine xk_iconst hx hb dL_loads_33 ?_
    obtain ⟨v5, ev5, hf⟩ := x_bind hf
    refine xc_si (As := [.int (iI p3), .int (iI p4), .int (iI 0), .int (iI (-1))]) (rest := [.int (iI v4), .ref aa]) ⟨hx, hb, hml, hown, hts⟩ (kL_pack l p3 p4 0 (-1) _ ev5) (va_cwS 4 hts gL_loads_L_pack rfl rfl rfl cdL_pack ⟨Nat.le_of_ble_eq_true rfl, Nat.le_of_ble_eq_true rfl⟩) rfl hl.1 rfl (Nat.le_of_ble_eq_true rfl) dL_loads_34 ⟨Nat.zero_le _, Nat.zero_le _⟩ ?_
    obtain ⟨g6, eg6, hf⟩ := x_bind hf
    refine xk_iast (f := va) hx hb hK hP (x_addrF hD rfl) hS 0 0 eg6 (by decide) rfl rfl dL_loads_37 (fun H locs hP hS => ?_)
    have hP : va_P (dC, dI) vwCl ((([[qcC cs aa 64 g6], [qcC cs ah 8 vh], [qcC cs af 64 vf]] : List va_W)).flatten) H := hP
    refine lv_aload_n hx hb dL_loads_38 rfl (lv_at hl 2 rfl) ?_
    refine xk_iconst hx hb dL_loads_39 ?_
    refine lv_dup2_11 hx hb dL_loads_40 rfl rfl ?_
    obtain ⟨v7, ev7, hf⟩ := x_bind hf
    refine xk_iald (f := vh) hx hb hK hP 1 0 ev7 (by decide) rfl rfl dL_loads_41 ?_
    refine xk_iconst hx hb dL_loads_42 ?_
    refine xk_iadd hx hb dL_loads_43 ?_
    obtain ⟨g8, eg8, hf⟩ := x_bind hf
    refine xk_iast (f := vh) hx hb hK hP (x_addrF hD rfl) hS 1 0 eg8 (by decide) rfl rfl dL_loads_44 (fun H locs hP hS => ?_)
    have hP : va_P (dC, dI) vwCl ((([[qcC cs aa 64 g6], [qcC cs ah 8 g8], [qcC cs af 64 vf]] : List va_W)).flatten) H := hP
    refine lv_iload hx hb dL_loads_45 (lv_at hl 0 rfl) ?_
    obtain rfl := Option.some.inj hf
    exact xe_wi hx hb hr hlocks hS hP dL_loads_47
  · have hf := c3f c3
    refine lv_aload_n hx hb dL_loads_17 rfl (lv_at hl 0 rfl) ?_
    refine lv_aload_n hx hb dL_loads_18 rfl (lv_at hl 1 rfl) ?_
    refine lv_aload_n hx hb dL_loads_19 rfl (lv_at hl 2 rfl) ?_
    obtain ⟨⟨v12, g9, g10, g11⟩, ev12, hf⟩ := x_bind hf
    refine xf_swi (As := [.ref aa, .ref ah, .ref af]) (rest := []) (wcs := ([[qcC cs aa 64 va], [qcC cs ah 8 vh], [qcC cs af 64 vf]] : List va_W)) (w1s := ([[qcC cs aa 64 g9], [qcC cs ah 8 g10], [qcC cs af 64 g11]] : List va_W)) ⟨hx, hb, hml, hown, hts⟩ (kL_throwsOne l dC dI cs aa ah af _ va vh vf _ ev12) (va_cwS 3 hts gL_loads_L_throwsOne rfl rfl rfl cdL_throwsOne ⟨Nat.le_of_ble_eq_true rfl, Nat.le_of_ble_eq_true rfl⟩) hK hP (x_addrF hD rfl) hS hA [0, 1, 2] rfl rfl rfl (by decide) rfl rfl hl.1 rfl (Nat.le_of_ble_eq_true rfl) dL_loads_20 ⟨Nat.zero_le _, Nat.zero_le _⟩ (fun H locs hP hS => ?_)
    have hP : va_P (dC, dI) vwCl ((([[qcC cs aa 64 g9], [qcC cs ah 8 g10], [qcC cs af 64 g11]] : List va_W)).flatten) H := hP
    refine lv_istore (lv' := [(5, .int (iI v12)), (0, .ref aa), (1, .ref ah), (2, .ref af), (3, .int (iI p3)), (4, .int (iI p4))]) hx hb dL_loads_23 hl (by decide) rfl (fun ls hl => ?_)
    refine lv_aload_n hx hb dL_loads_25 rfl (lv_at hl 1 rfl) ?_
    refine lv_aload_n hx hb dL_loads_26 rfl (lv_at hl 2 rfl) ?_
    refine xk_iconst hx hb dL_loads_27 ?_
    obtain ⟨v13, ev13, hf⟩ := x_bind hf
    refine xk_iald (f := g10) hx hb hK hP 1 0 ev13 (by decide) rfl rfl dL_loads_28 ?_
    refine lv_iload_n hx hb dL_loads_29 rfl (lv_at hl 4 rfl) ?_
    refine lv_iload hx hb dL_loads_30 (lv_at hl 5 rfl) ?_
    refine xk_iconst hx hb dL_loads_32 ?_
    refine xk_iconst hx hb dL_loads_33 ?_
    obtain ⟨v14, ev14, hf⟩ := x_bind hf
    refine xc_si (As := [.int (iI p3), .int (iI p4), .int (iI 0), .int (iI (-1))]) (rest := [.int (iI v13), .ref aa]) ⟨hx, hb, hml, hown, hts⟩ (kL_pack l p3 p4 0 (-1) _ ev14) (va_cwS 4 hts gL_loads_L_pack rfl rfl rfl cdL_pack ⟨Nat.le_of_ble_eq_true rfl, Nat.le_of_ble_eq_true rfl⟩) rfl hl.1 rfl (Nat.le_of_ble_eq_true rfl) dL_loads_34 ⟨Nat.zero_le _, Nat.zero_le _⟩ ?_
    obtain ⟨g15, eg15, hf⟩ := x_bind hf
    refine xk_iast (f := g9) hx hb hK hP (x_addrF hD rfl) hS 0 0 eg15 (by decide) rfl rfl dL_loads_37 (fun H locs hP hS => ?_)
    have hP : va_P (dC, dI) vwCl ((([[qcC cs aa 64 g15], [qcC cs ah 8 g10], [qcC cs af 64 g11]] : List va_W)).flatten) H := hP
    refine lv_aload_n hx hb dL_loads_38 rfl (lv_at hl 2 rfl) ?_
    refine xk_iconst hx hb dL_loads_39 ?_
    refine lv_dup2_11 hx hb dL_loads_40 rfl rfl ?_
    obtain ⟨v16, ev16, hf⟩ := x_bind hf
    refine xk_iald (f := g10) hx hb hK hP 1 0 ev16 (by decide) rfl rfl dL_loads_41 ?_
    refine xk_iconst hx hb dL_loads_42 ?_
    refine xk_iadd hx hb dL_loads_43 ?_
    obtain ⟨g17, eg17, hf⟩ := x_bind hf
    refine xk_iast (f := g10) hx hb hK hP (x_addrF hD rfl) hS 1 0 eg17 (by decide) rfl rfl dL_loads_44 (fun H locs hP hS => ?_)
    have hP : va_P (dC, dI) vwCl ((([[qcC cs aa 64 g15], [qcC cs ah 8 g17], [qcC cs af 64 g11]] : List va_W)).flatten) H := hP
    refine lv_iload hx hb dL_loads_45 (lv_at hl 0 rfl) ?_
    obtain rfl := Option.some.inj hf
    exact xe_wi hx hb hr hlocks hS hP dL_loads_47
theorem cdL_loads : yL_loads.cls ≠ "java/lang/invoke/MethodHandle" ∧ yL_loads.cls ≠ "java/lang/invoke/VarHandle" ∧ (parseMethodDescriptor yL_loads.desc).map (fun d => d.parameters.length) = some 5 := by decide +kernel

set_option maxHeartbeats 8000000 in
set_option maxRecDepth 100000 in
theorem kL_runs (l : Launch) (dC : Nat → ClassId) (dI : Nat → Nat → Nat) (cs : Nat → ClassId) (ah : Nat) (af : Nat) (vh : Int → Int) (vf : Int → Int) (res : Int) (hf : fL_runs vh vf = some res) : Met l yL_runs wsL_runs ({ frames := 0, cells := 0, slots := 0, locals := 0 } : Room) (va_Pc [.ref ah, .ref af] (xPR (dC, dI) vwCl ((([[qcC cs ah 8 vh], [qcC cs af 64 vf]] : List va_W)).flatten) (xT cs))) (vp_Si (fun r => r = iI res)) 0 0 (fun _ => False) := by
  refine Met.ofW (cc := cL_runs) (maxL := 4) (ret := (some .int)) (by decide) rfl ?_
  intro p e s m args below meth c s₁ B hml hv
  obtain ⟨rfl, hP, hK⟩ := hv
  have hx := B.exec
  have hb := B.bytes
  have hr := B.returns
  have hts := atoms_spec (ws := wsL_runs) B.pre
  have hown : s.vm.findClass RL = some m.cls := findClass_of_methodNamed B.named
  have hlocks := B.notSynchronized
  have hl := lv_entry [.ref ah, .ref af] (n := 4) (Nat.le_of_ble_eq_true rfl)
  rw [lg_entry_eq]
  generalize (lg_sl [.ref ah, .ref af] ++ List.replicate (4 - (lg_sl [.ref ah, .ref af]).length) Slot.unset).toArray = ls at hl ⊢
  have hl : lv_has ls 4 [(0, .ref ah), (1, .ref af)] := hl
  unfold fL_runs at hf
  refine xk_iconst hx hb dL_runs_0 ?_
  refine lv_istore_n (lv' := [(2, .int (iI 0)), (0, .ref ah), (1, .ref af)]) hx hb dL_runs_1 rfl hl (by decide) rfl (fun ls hl => ?_)
  refine xk_iconst hx hb dL_runs_2 ?_
  refine lv_istore_n (lv' := [(3, .int (iI 0)), (2, .int (iI 0)), (0, .ref ah), (1, .ref af)]) hx hb dL_runs_3 rfl hl (by decide) rfl (fun ls hl => ?_)
  have hL4 : ∀ (n1 : Nat) (l2 : Int) (l3 : Int), fL_runs_L4 vh vf n1 l2 l3 = some res → ∀ (ls : Array Slot), lv_has ls 4 [(0, .ref ah), (1, .ref af), (2, .int (iI l2)), (3, .int (iI l3))] → W p l e (headSpec wsL_runs ({ frames := 0, cells := 0, slots := 0, locals := 0 } : Room)).room s m ([.ref ah, .ref af] : List Value).toArray below meth c s.heap [] 0 0 (MQ below (vp_Si (fun r => r = iI res)) ([.ref ah, .ref af] : List Value).toArray s 0 0 (fun _ => False)) (F0 m 4 ls []) := by
    intro  n1
    induction n1 with
    | zero => intro l2 l3 hf; have hf : (none : Option (Int)) = some res := hf; cases hf
    | succ n1 ih4 =>
      intro l2 l3 hf ls hl
      rw [fL_runs_L4] at hf
      refine lv_iload_n hx hb dL_runs_4 rfl (lv_at hl 3 rfl) ?_
      refine lv_aload_n hx hb dL_runs_5 rfl (lv_at hl 0 rfl) ?_
      refine xk_iconst hx hb dL_runs_6 ?_
      obtain ⟨v2, ev2, hf⟩ := x_bind hf
      refine xk_iald (f := vh) hx hb hK hP 0 0 ev2 (by decide) rfl rfl dL_runs_7 ?_
      obtain ⟨c3a, c3b, c3t, c3f⟩ := x_ltE hf
      refine xk_icmp_ge (tgt := 31) hx hb c3a c3b dL_runs_8 (by decide) (fun c3 => ?_) (fun c3 => ?_)
      · have hf := c3t c3
        refine lv_iload_n hx hb dL_runs_11 rfl (lv_at hl 2 rfl) ?_
        refine lv_aload_n hx hb dL_runs_12 rfl (lv_at hl 1 rfl) ?_
        refine lv_iload_n hx hb dL_runs_13 rfl (lv_at hl 3 rfl) ?_
        obtain ⟨v4, ev4, hf⟩ := x_bind hf
        refine xk_iald (f := vf) hx hb hK hP 1 0 ev4 (by decide) rfl rfl dL_runs_14 ?_
        obtain ⟨c5a, c5b, c5t, c5f⟩ := x_ltE hf
        refine xk_if_lt (tgt := 22) hx hb c5a dL_runs_15 (by decide) (fun c5 => ?_) (fun c5 => ?_)
        · have hf := c5t c5
          refine xk_iconst hx hb dL_runs_22 ?_
          refine xk_iadd hx hb dL_runs_23 ?_
          refine lv_istore_n (lv' := [(2, .int (iI (l2 + 0))), (0, .ref ah), (1, .ref af), (3, .int (iI l3))]) hx hb dL_runs_24 rfl hl (by decide) rfl (fun ls hl => ?_)
          refine xk_iinc (lv' := [(3, .int (iI (l3 + 1))), (2, .int (iI (l2 + 0))), (0, .ref ah), (1, .ref af)]) hx hb dL_runs_25 hl (k := 3) rfl (by decide) rfl (fun ls hl => ?_)
          refine lv_goto (tgt := 4) hx hb dL_runs_28 (by decide) ?_
          exact ih4 (l2 + 0) (l3 + 1) hf ls (lv_sub hl [2, 3, 1, 0] rfl)
        · have hf := c5f c5
          refine xk_iconst hx hb dL_runs_18 ?_
          refine lv_goto (tgt := 23) hx hb dL_runs_19 (by decide) ?_
          refine xk_iadd hx hb dL_runs_23 ?_
          refine lv_istore_n (lv' := [(2, .int (iI (l2 + 1))), (0, .ref ah), (1, .ref af), (3, .int (iI l3))]) hx hb dL_runs_24 rfl hl (by decide) rfl (fun ls hl => ?_)
          refine xk_iinc (lv' := [(3, .int (iI (l3 + 1))), (2, .int (iI (l2 + 1))), (0, .ref ah), (1, .ref af)]) hx hb dL_runs_25 hl (k := 3) rfl (by decide) rfl (fun ls hl => ?_)
          refine lv_goto (tgt := 4) hx hb dL_runs_28 (by decide) ?_
          exact ih4 (l2 + 1) (l3 + 1) hf ls (lv_sub hl [2, 3, 1, 0] rfl)
      · have hf := c3f c3
        refine lv_iload_n hx hb dL_runs_31 rfl (lv_at hl 2 rfl) ?_
        obtain rfl := Option.some.inj hf
        exact xe_ri hx hb hr hlocks dL_runs_32 rfl
  exact hL4  xFU 0 0 hf ls (lv_sub hl [2, 3, 1, 0] rfl)
theorem cdL_runs : yL_runs.cls ≠ "java/lang/invoke/MethodHandle" ∧ yL_runs.cls ≠ "java/lang/invoke/VarHandle" ∧ (parseMethodDescriptor yL_runs.desc).map (fun d => d.parameters.length) = some 2 := by decide +kernel

set_option maxHeartbeats 8000000 in
set_option maxRecDepth 100000 in
theorem kL_runBy (l : Launch) (dC : Nat → ClassId) (dI : Nat → Nat → Nat) (cs : Nat → ClassId) (ah : Nat) (af : Nat) (vh : Int → Int) (vf : Int → Int) (p2 : Int) (res : Int) (hf : fL_runBy vh vf p2 = some res) : Met l yL_runBy wsL_runBy ({ frames := 0, cells := 0, slots := 0, locals := 0 } : Room) (va_Pc [.ref ah, .ref af, .int (iI p2)] (xPR (dC, dI) vwCl ((([[qcC cs ah 8 vh], [qcC cs af 64 vf]] : List va_W)).flatten) (xT cs))) (vp_Si (fun r => r = iI res)) 0 0 (fun _ => False) := by
  refine Met.ofW (cc := cL_runBy) (maxL := 5) (ret := (some .int)) (by decide) rfl ?_
  intro p e s m args below meth c s₁ B hml hv
  obtain ⟨rfl, hP, hK⟩ := hv
  have hx := B.exec
  have hb := B.bytes
  have hr := B.returns
  have hts := atoms_spec (ws := wsL_runBy) B.pre
  have hown : s.vm.findClass RL = some m.cls := findClass_of_methodNamed B.named
  have hlocks := B.notSynchronized
  have hl := lv_entry [.ref ah, .ref af, .int (iI p2)] (n := 5) (Nat.le_of_ble_eq_true rfl)
  rw [lg_entry_eq]
  generalize (lg_sl [.ref ah, .ref af, .int (iI p2)] ++ List.replicate (5 - (lg_sl [.ref ah, .ref af, .int (iI p2)]).length) Slot.unset).toArray = ls at hl ⊢
  have hl : lv_has ls 5 [(0, .ref ah), (1, .ref af), (2, .int (iI p2))] := hl
  unfold fL_runBy at hf
  refine xk_iconst hx hb dL_runBy_0 ?_
  refine lv_istore_n (lv' := [(3, .int (iI 0)), (0, .ref ah), (1, .ref af), (2, .int (iI p2))]) hx hb dL_runBy_1 rfl hl (by decide) rfl (fun ls hl => ?_)
  refine xk_iconst hx hb dL_runBy_2 ?_
  refine lv_istore (lv' := [(4, .int (iI 0)), (3, .int (iI 0)), (0, .ref ah), (1, .ref af), (2, .int (iI p2))]) hx hb dL_runBy_3 hl (by decide) rfl (fun ls hl => ?_)
  have hL5 : ∀ (n1 : Nat) (l3 : Int) (l4 : Int), fL_runBy_L5 vh vf p2 n1 l3 l4 = some res → ∀ (ls : Array Slot), lv_has ls 5 [(0, .ref ah), (1, .ref af), (2, .int (iI p2)), (3, .int (iI l3)), (4, .int (iI l4))] → W p l e (headSpec wsL_runBy ({ frames := 0, cells := 0, slots := 0, locals := 0 } : Room)).room s m ([.ref ah, .ref af, .int (iI p2)] : List Value).toArray below meth c s.heap [] 0 0 (MQ below (vp_Si (fun r => r = iI res)) ([.ref ah, .ref af, .int (iI p2)] : List Value).toArray s 0 0 (fun _ => False)) (F0 m 5 ls []) := by
    intro  n1
    induction n1 with
    | zero => intro l3 l4 hf; have hf : (none : Option (Int)) = some res := hf; cases hf
    | succ n1 ih5 =>
      intro l3 l4 hf ls hl
      rw [fL_runBy_L5] at hf
      refine lv_iload hx hb dL_runBy_5 (lv_at hl 4 rfl) ?_
      refine lv_aload_n hx hb dL_runBy_7 rfl (lv_at hl 0 rfl) ?_
      refine xk_iconst hx hb dL_runBy_8 ?_
      obtain ⟨v2, ev2, hf⟩ := x_bind hf
      refine xk_iald (f := vh) hx hb hK hP 0 0 ev2 (by decide) rfl rfl dL_runBy_9 ?_
      obtain ⟨c3a, c3b, c3t, c3f⟩ := x_ltE hf
      refine xk_icmp_ge (tgt := 37) hx hb c3a c3b dL_runBy_10 (by decide) (fun c3 => ?_) (fun c3 => ?_)
      · have hf := c3t c3
        refine lv_aload_n hx hb dL_runBy_13 rfl (lv_at hl 1 rfl) ?_
        refine lv_iload hx hb dL_runBy_14 (lv_at hl 4 rfl) ?_
        obtain ⟨v4, ev4, hf⟩ := x_bind hf
        refine xk_iald (f := vf) hx hb hK hP 1 0 ev4 (by decide) rfl rfl dL_runBy_16 ?_
        obtain ⟨c5a, c5b, c5t, c5f⟩ := x_ltE hf
        refine xk_if_lt (tgt := 31) hx hb c5a dL_runBy_17 (by decide) (fun c5 => ?_) (fun c5 => ?_)
        · have hf := c5t c5
          refine xk_iinc (lv' := [(4, .int (iI (l4 + 1))), (0, .ref ah), (1, .ref af), (2, .int (iI p2)), (3, .int (iI l3))]) hx hb dL_runBy_31 hl (k := 4) rfl (by decide) rfl (fun ls hl => ?_)
          refine lv_goto (tgt := 5) hx hb dL_runBy_34 (by decide) ?_
          exact ih5 l3 (l4 + 1) hf ls (lv_sub hl [1, 2, 3, 4, 0] rfl)
        · have hf := c5f c5
          refine lv_iload_n hx hb dL_runBy_20 rfl (lv_at hl 3 rfl) ?_
          refine lv_iload_n hx hb dL_runBy_21 rfl (lv_at hl 2 rfl) ?_
          obtain ⟨c6a, c6b, c6t, c6f⟩ := x_eqE hf
          refine xk_icmp_ne (tgt := 28) hx hb c6a c6b dL_runBy_22 (by decide) (fun c6 => ?_) (fun c6 => ?_)
          · have hf := c6t c6
            refine lv_iload hx hb dL_runBy_25 (lv_at hl 4 rfl) ?_
            obtain rfl := Option.some.inj hf
            exact xe_ri hx hb hr hlocks dL_runBy_27 rfl
          · have hf := c6f c6
            refine xk_iinc (lv' := [(3, .int (iI (l3 + 1))), (0, .ref ah), (1, .ref af), (2, .int (iI p2)), (4, .int (iI l4))]) hx hb dL_runBy_28 hl (k := 3) rfl (by decide) rfl (fun ls hl => ?_)
            refine xk_iinc (lv' := [(4, .int (iI (l4 + 1))), (3, .int (iI (l3 + 1))), (0, .ref ah), (1, .ref af), (2, .int (iI p2))]) hx hb dL_runBy_31 hl (k := 4) rfl (by decide) rfl (fun ls hl => ?_)
            refine lv_goto (tgt := 5) hx hb dL_runBy_34 (by decide) ?_
            exact ih5 (l3 + 1) (l4 + 1) hf ls (lv_sub hl [2, 3, 4, 1, 0] rfl)
      · have hf := c3f c3
        refine xk_iconst hx hb dL_runBy_37 ?_
        obtain rfl := Option.some.inj hf
        exact xe_ri hx hb hr hlocks dL_runBy_38 rfl
  exact hL5  xFU 0 0 hf ls (lv_sub hl [2, 3, 4, 1, 0] rfl)
theorem cdL_runBy : yL_runBy.cls ≠ "java/lang/invoke/MethodHandle" ∧ yL_runBy.cls ≠ "java/lang/invoke/VarHandle" ∧ (parseMethodDescriptor yL_runBy.desc).map (fun d => d.parameters.length) = some 3 := by decide +kernel

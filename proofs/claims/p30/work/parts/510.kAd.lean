set_option maxHeartbeats 8000000 in
set_option maxRecDepth 100000 in
theorem kL_storms (l : Launch) (dC : Nat → ClassId) (dI : Nat → Nat → Nat) (cs : Nat → ClassId) (aa : Nat) (ah : Nat) (af : Nat) (sz : Nat) (va : Int → Int) (vh : Int → Int) (vf : Int → Int) (p3 : Int) (res : Int × (Int → Int) × (Int → Int) × (Int → Int)) (hf : fL_storms va vh vf p3 = some res) : Met l yL_storms wsL_storms ({ frames := 3, cells := 0, slots := 0, locals := 71 } : Room) (va_Pc [.ref aa, .ref ah, .ref af, .int (iI p3)] (xPW (dC, dI) vwCl ((([[qcC cs aa 64 va], [qcC cs ah 8 vh], [qcC cs af 64 vf]] : List va_W)).flatten) (xT cs) sz)) (xQi (dC, dI) vwCl ((([[qcC cs aa 64 va], [qcC cs ah 8 vh], [qcC cs af 64 vf]] : List va_W)).flatten) ((([[qcC cs aa 64 res.2.1], [qcC cs ah 8 res.2.2.1], [qcC cs af 64 res.2.2.2]] : List va_W)).flatten) sz res.1) 0 0 (va_A ((([[qcC cs aa 64 va], [qcC cs ah 8 vh], [qcC cs af 64 vf]] : List va_W)).flatten) sz) := by
  refine Met.ofW (cc := cL_storms) (maxL := 9) (ret := (some .int)) (by decide) rfl ?_
  intro p e s m args below meth c s₁ B hml hv
  obtain ⟨rfl, hsz, hP, hK, hD0⟩ := hv
  have hx := B.exec
  have hb := B.bytes
  have hr := B.returns
  have hts := atoms_spec (ws := wsL_storms) B.pre
  have hown : s.vm.findClass RL = some m.cls := findClass_of_methodNamed B.named
  have hlocks := B.notSynchronized
  subst hsz
  have hD := hD0.self (sz := s.heap.size)
  have hA : ∀ z9 : Nat, s.heap.size ≤ z9 → va_A ((([[qcC cs aa 64 va], [qcC cs ah 8 vh], [qcC cs af 64 vf]] : List va_W)).flatten) s.heap.size z9 := fun z9 h => Or.inr h
  have hS : va_S (va_A ((([[qcC cs aa 64 va], [qcC cs ah 8 vh], [qcC cs af 64 vf]] : List va_W)).flatten) s.heap.size) s.heap s.heap [] := va_S.rf
  have hl := lv_entry [.ref aa, .ref ah, .ref af, .int (iI p3)] (n := 9) (Nat.le_of_ble_eq_true rfl)
  rw [lg_entry_eq]
  generalize (lg_sl [.ref aa, .ref ah, .ref af, .int (iI p3)] ++ List.replicate (9 - (lg_sl [.ref aa, .ref ah, .ref af, .int (iI p3)]).length) Slot.unset).toArray = ls at hl ⊢
  have hl : lv_has ls 9 [(0, .ref aa), (1, .ref ah), (2, .ref af), (3, .int (iI p3))] := hl
  unfold fL_storms at hf
  refine lv_aload_n hx hb dL_storms_0 rfl (lv_at hl 1 rfl) ?_
  refine xk_iconst hx hb dL_storms_1 ?_
  obtain ⟨v1, ev1, hf⟩ := x_bind hf
  refine xk_iald (f := vh) hx hb hK hP 1 0 ev1 (by decide) rfl rfl dL_storms_2 ?_
  refine lv_istore (lv' := [(4, .int (iI v1)), (0, .ref aa), (1, .ref ah), (2, .ref af), (3, .int (iI p3))]) hx hb dL_storms_3 hl (by decide) rfl (fun ls hl => ?_)
  refine xk_iconst hx hb dL_storms_5 ?_
  refine lv_istore (lv' := [(5, .int (iI 0)), (4, .int (iI v1)), (0, .ref aa), (1, .ref ah), (2, .ref af), (3, .int (iI p3))]) hx hb dL_storms_6 hl (by decide) rfl (fun ls hl => ?_)
  refine xk_iconst hx hb dL_storms_8 ?_
  refine lv_istore (lv' := [(6, .int (iI 0)), (5, .int (iI 0)), (4, .int (iI v1)), (0, .ref aa), (1, .ref ah), (2, .ref af), (3, .int (iI p3))]) hx hb dL_storms_9 hl (by decide) rfl (fun ls hl => ?_)
  have hL11 : ∀ (n5 : Nat) (l5 : Int) (l6 : Int) (g2 : Int → Int) (g3 : Int → Int) (g4 : Int → Int), fL_storms_L11 p3 v1 n5 l5 l6 g2 g3 g4 = some res → ∀ (H : Heap) (locs : List Loc), va_P (dC, dI) vwCl ((([[qcC cs aa 64 g2], [qcC cs ah 8 g3], [qcC cs af 64 g4]] : List va_W)).flatten) H → va_S (va_A ((([[qcC cs aa 64 va], [qcC cs ah 8 vh], [qcC cs af 64 vf]] : List va_W)).flatten) s.heap.size) s.heap H locs → ∀ (ls : Array Slot), lv_has ls 9 [(0, .ref aa), (1, .ref ah), (2, .ref af), (3, .int (iI p3)), (4, .int (iI v1)), (5, .int (iI l5)), (6, .int (iI l6))] → W p l e (headSpec wsL_storms ({ frames := 3, cells := 0, slots := 0, locals := 71 } : Room)).room s m ([.ref aa, .ref ah, .ref af, .int (iI p3)] : List Value).toArray below meth c H locs 0 0 (MQ below (xQi (dC, dI) vwCl ((([[qcC cs aa 64 va], [qcC cs ah 8 vh], [qcC cs af 64 vf]] : List va_W)).flatten) ((([[qcC cs aa 64 res.2.1], [qcC cs ah 8 res.2.2.1], [qcC cs af 64 res.2.2.2]] : List va_W)).flatten) s.heap.size res.1) ([.ref aa, .ref ah, .ref af, .int (iI p3)] : List Value).toArray s 0 0 (va_A ((([[qcC cs aa 64 va], [qcC cs ah 8 vh], [qcC cs af 64 vf]] : List va_W)).flatten) s.heap.size)) (F0 m 11 ls []) := by
    intro  n5
    induction n5 with
    | zero => intro l5 l6 g2 g3 g4 hf; have hf : (none : Option (Int × (Int → Int) × (Int → Int) × (Int → Int))) = some res := hf; cases hf
    | succ n5 ih11 =>
      intro l5 l6 g2 g3 g4 hf H locs hP hS ls hl
      rw [fL_storms_L11] at hf
      refine lv_iload hx hb dL_storms_11 (lv_at hl 6 rfl) ?_
      refine lv_iload hx hb dL_storms_13 (lv_at hl 4 rfl) ?_
      obtain ⟨c6a, c6b, c6t, c6f⟩ := x_ltE hf
      refine xk_icmp_ge (tgt := 116) hx hb c6a c6b dL_storms_15 (by decide) (fun c6 => ?_) (fun c6 => ?_)
      · have hf := c6t c6
        refine lv_aload_n hx hb dL_storms_18 rfl (lv_at hl 2 rfl) ?_
        refine lv_iload hx hb dL_storms_19 (lv_at hl 6 rfl) ?_
        obtain ⟨v7, ev7, hf⟩ := x_bind hf
        refine xk_iald (f := g4) hx hb hK hP 2 0 ev7 (by decide) rfl rfl dL_storms_21 ?_
        obtain ⟨c8a, c8b, c8t, c8f⟩ := x_ltE hf
        refine xk_if_lt (tgt := 33) hx hb c8a dL_storms_22 (by decide) (fun c8 => ?_) (fun c8 => ?_)
        · have hf := c8t c8
          refine xk_iconst hx hb dL_storms_33 ?_
          refine lv_goto (tgt := 45) hx hb dL_storms_34 (by decide) ?_
          refine lv_istore (lv' := [(7, .int (iI 0)), (0, .ref aa), (1, .ref ah), (2, .ref af), (3, .int (iI p3)), (4, .int (iI v1)), (5, .int (iI l5)), (6, .int (iI l6))]) hx hb dL_storms_45 hl (by decide) rfl (fun ls hl => ?_)
          refine lv_iload hx hb dL_storms_47 (lv_at hl 0 rfl) ?_
          refine xk_iconst hx hb dL_storms_49 ?_
          refine xk_icmp_le (tgt := 110) hx hb (by decide) (by decide) dL_storms_50 (by decide) (fun c9 => ?_) (fun c9 => ?_)
          · exact absurd c9 (by decide)
          · refine xk_iinc (lv' := [(6, .int (iI (l6 + 1))), (7, .int (iI 0)), (0, .ref aa), (1, .ref ah), (2, .ref af), (3, .int (iI p3)), (4, .int (iI v1)), (5, .int (iI l5))]) hx hb dL_storms_110 hl (k := 7) rfl (by decide) rfl (fun ls hl => ?_)
            refine lv_goto (tgt := 11) hx hb dL_storms_113 (by decide) ?_
            exact ih11 l5 (l6 + 1) g2 g3 g4 hf _ _ hP hS ls (lv_sub hl [2, 3, 4, 5, 6, 7, 0] rfl)
        · have hf := c8f c8
          refine lv_aload_n hx hb dL_storms_25 rfl (lv_at hl 2 rfl) ?_
          refine lv_iload hx hb dL_storms_26 (lv_at hl 6 rfl) ?_
          obtain ⟨v10, ev10, hf⟩ := x_bind hf
          refine xk_iald (f := g4) hx hb hK hP 2 0 ev10 (by decide) rfl rfl dL_storms_28 ?_
          refine lv_iload_n hx hb dL_storms_29 rfl (lv_at hl 3 rfl) ?_
          obtain ⟨c11a, c11b, c11t, c11f⟩ := x_ltE hf
          refine xk_icmp_lt (tgt := 37) hx hb c11a c11b dL_storms_30 (by decide) (fun c11 => ?_) (fun c11 => ?_)
          · have hf := c11t c11
            refine lv_aload_n hx hb dL_storms_37 rfl (lv_at hl 0 rfl) ?_
            refine lv_aload_n hx hb dL_storms_38 rfl (lv_at hl 1 rfl) ?_
            refine xk_iconst hx hb dL_storms_39 ?_
            refine lv_iload hx hb dL_storms_40 (lv_at hl 6 rfl) ?_
            obtain ⟨v12, ev12, hf⟩ := x_bind hf
            refine xf_sri (As := [.ref aa, .ref ah, .int (iI 1), .int (iI l6)]) (rest := []) (wcs := ([[qcC cs aa 64 g2], [qcC cs ah 8 g3]] : List va_W)) ⟨hx, hb, hml, hown, hts⟩ (kL_many l dC dI cs aa ah g2 g3 1 l6 _ ev12) (va_cwS 4 hts gL_storms_L_many rfl rfl rfl cdL_many ⟨Nat.le_of_ble_eq_true rfl, Nat.le_of_ble_eq_true rfl⟩) hK hP [0, 1] rfl rfl rfl hl.1 rfl (Nat.le_of_ble_eq_true rfl) dL_storms_42 ⟨Nat.zero_le _, Nat.zero_le _⟩ ?_
            refine lv_istore (lv' := [(7, .int (iI v12)), (0, .ref aa), (1, .ref ah), (2, .ref af), (3, .int (iI p3)), (4, .int (iI v1)), (5, .int (iI l5)), (6, .int (iI l6))]) hx hb dL_storms_45 hl (by decide) rfl (fun ls hl => ?_)
            refine lv_iload hx hb dL_storms_47 (lv_at hl 0 rfl) ?_
            refine xk_iconst hx hb dL_storms_49 ?_
            obtain ⟨c13a, c13b, c13t, c13f⟩ := x_ltE hf
            refine xk_icmp_le (tgt := 110) hx hb c13b c13a dL_storms_50 (by decide) (fun c13 => ?_) (fun c13 => ?_)
            · have hf := c13t c13
              refine lv_aload_n hx hb dL_storms_53 rfl (lv_at hl 3 rfl) ?_
              refine lv_aload_n hx hb dL_storms_54 rfl (lv_at hl 2 rfl) ?_
              refine xk_iconst hx hb dL_storms_55 ?_
              obtain ⟨v14, ev14, hf⟩ := x_bind hf
              refine xk_iald (f := g3) hx hb hK hP 1 0 ev14 (by decide) rfl rfl dL_storms_56 ?_
              refine xk_iconst hx hb dL_storms_57 ?_
              obtain ⟨g15, eg15, hf⟩ := x_bind hf
              refine xk_iast (f := g4) hx hb hK hP (x_addrF hD rfl) hS 2 0 eg15 (by decide) rfl rfl dL_storms_58 (fun H locs hP hS => ?_)
              have hP : va_P (dC, dI) vwCl ((([[qcC cs aa 64 g2], [qcC cs ah 8 g3], [qcC cs af 64 g15]] : List va_W)).flatten) H := hP
              refine xk_iinc (lv' := [(5, .int (iI (l5 + 1))), (7, .int (iI v12)), (0, .ref aa), (1, .ref ah), (2, .ref af), (3, .int (iI p3)), (4, .int (iI v1)), (6, .int (iI l6))]) hx hb dL_storms_59 hl (k := 6) rfl (by decide) rfl (fun ls hl => ?_)
              refine lv_iload hx hb dL_storms_62 (lv_at hl 1 rfl) ?_
              refine xk_iconst hx hb dL_storms_64 ?_
              refine xk_isub hx hb dL_storms_65 ?_
              refine lv_istore (lv' := [(8, .int (iI (v12 - 1))), (5, .int (iI (l5 + 1))), (7, .int (iI v12)), (0, .ref aa), (1, .ref ah), (2, .ref af), (3, .int (iI p3)), (4, .int (iI v1)), (6, .int (iI l6))]) hx hb dL_storms_66 hl (by decide) rfl (fun ls hl => ?_)
              have hL68 : ∀ (n19 : Nat) (l8 : Int) (g16 : Int → Int) (g17 : Int → Int) (g18 : Int → Int), fL_storms_L68 l5 l6 v12 (fL_storms_L11 p3 v1 n5) n19 l8 g16 g17 g18 = some res → ∀ (H : Heap) (locs : List Loc), va_P (dC, dI) vwCl ((([[qcC cs aa 64 g16], [qcC cs ah 8 g17], [qcC cs af 64 g18]] : List va_W)).flatten) H → va_S (va_A ((([[qcC cs aa 64 va], [qcC cs ah 8 vh], [qcC cs af 64 vf]] : List va_W)).flatten) s.heap.size) s.heap H locs → ∀ (ls : Array Slot), lv_has ls 9 [(0, .ref aa), (1, .ref ah), (2, .ref af), (3, .int (iI p3)), (4, .int (iI v1)), (5, .int (iI (l5 + 1))), (6, .int (iI l6)), (7, .int (iI v12)), (8, .int (iI l8))] → W p l e (headSpec wsL_storms ({ frames := 3, cells := 0, slots := 0, locals := 71 } : Room)).room s m ([.ref aa, .ref ah, .ref af, .int (iI p3)] : List Value).toArray below meth c H locs 0 0 (MQ below (xQi (dC, dI) vwCl ((([[qcC cs aa 64 va], [qcC cs ah 8 vh], [qcC cs af 64 vf]] : List va_W)).flatten) ((([[qcC cs aa 64 res.2.1], [qcC cs ah 8 res.2.2.1], [qcC cs af 64 res.2.2.2]] : List va_W)).flatten) s.heap.size res.1) ([.ref aa, .ref ah, .ref af, .int (iI p3)] : List Value).toArray s 0 0 (va_A ((([[qcC cs aa 64 va], [qcC cs ah 8 vh], [qcC cs af 64 vf]] : List va_W)).flatten) s.heap.size)) (F0 m 68 ls []) := by
                intro  n19
                induction n19 with
                | zero => intro l8 g16 g17 g18 hf; have hf : (none : Option (Int × (Int → Int) × (Int → Int) × (Int → Int))) = some res := hf; cases hf
                | succ n19 ih68 =>
                  intro l8 g16 g17 g18 hf H locs hP hS ls hl
                  rw [fL_storms_L68] at hf
                  refine lv_iload hx hb dL_storms_68 (lv_at hl 8 rfl) ?_
                  refine lv_iload hx hb dL_storms_70 (lv_at hl 7 rfl) ?_
                  refine xk_iconst hx hb dL_storms_72 ?_
                  refine xk_iadd hx hb dL_storms_73 ?_
                  refine xk_iconst hx hb dL_storms_74 ?_
                  obtain ⟨v20, ev20, hf⟩ := x_bind hf
                  refine xk_idiv hx hb ev20 dL_storms_75 ?_
                  obtain ⟨c21a, c21b, c21t, c21f⟩ := x_ltE hf
                  refine xk_icmp_lt (tgt := 103) hx hb c21a c21b dL_storms_76 (by decide) (fun c21 => ?_) (fun c21 => ?_)
                  · have hf := c21t c21
                    refine lv_aload_n hx hb dL_storms_103 rfl (lv_at hl 1 rfl) ?_
                    refine xk_iconst hx hb dL_storms_104 ?_
                    refine lv_dup2_11 hx hb dL_storms_105 rfl rfl ?_
                    obtain ⟨v22, ev22, hf⟩ := x_bind hf
                    refine xk_iald (f := g17) hx hb hK hP 1 0 ev22 (by decide) rfl rfl dL_storms_106 ?_
                    refine xk_iconst hx hb dL_storms_107 ?_
                    refine xk_iadd hx hb dL_storms_108 ?_
                    obtain ⟨g23, eg23, hf⟩ := x_bind hf
                    refine xk_iast (f := g17) hx hb hK hP (x_addrF hD rfl) hS 1 0 eg23 (by decide) rfl rfl dL_storms_109 (fun H locs hP hS => ?_)
                    have hP : va_P (dC, dI) vwCl ((([[qcC cs aa 64 g16], [qcC cs ah 8 g23], [qcC cs af 64 g18]] : List va_W)).flatten) H := hP
                    refine xk_iinc (lv' := [(6, .int (iI (l6 + 1))), (0, .ref aa), (1, .ref ah), (2, .ref af), (3, .int (iI p3)), (4, .int (iI v1)), (5, .int (iI (l5 + 1))), (7, .int (iI v12)), (8, .int (iI l8))]) hx hb dL_storms_110 hl (k := 6) rfl (by decide) rfl (fun ls hl => ?_)
                    refine lv_goto (tgt := 11) hx hb dL_storms_113 (by decide) ?_
                    exact ih11 (l5 + 1) (l6 + 1) g16 g23 g18 hf _ _ hP hS ls (lv_sub hl [1, 2, 3, 4, 5, 6, 0] rfl)
                  · have hf := c21f c21
                    refine lv_aload_n hx hb dL_storms_79 rfl (lv_at hl 0 rfl) ?_
                    refine lv_aload_n hx hb dL_storms_80 rfl (lv_at hl 0 rfl) ?_
                    refine lv_aload_n hx hb dL_storms_81 rfl (lv_at hl 1 rfl) ?_
                    refine xk_iconst hx hb dL_storms_82 ?_
                    refine lv_iload hx hb dL_storms_83 (lv_at hl 6 rfl) ?_
                    refine lv_iload hx hb dL_storms_85 (lv_at hl 8 rfl) ?_
                    obtain ⟨v24, ev24, hf⟩ := x_bind hf
                    refine xf_sri (As := [.ref aa, .ref ah, .int (iI 1), .int (iI l6), .int (iI l8)]) (rest := [.ref aa]) (wcs := ([[qcC cs aa 64 g16], [qcC cs ah 8 g17]] : List va_W)) ⟨hx, hb, hml, hown, hts⟩ (kL_ranked l dC dI cs aa ah g16 g17 1 l6 l8 _ ev24) (va_cwS 5 hts gL_storms_L_ranked rfl rfl rfl cdL_ranked ⟨Nat.le_of_ble_eq_true rfl, Nat.le_of_ble_eq_true rfl⟩) hK hP [0, 1] rfl rfl rfl hl.1 rfl (Nat.le_of_ble_eq_true rfl) dL_storms_87 ⟨Nat.zero_le _, Nat.zero_le _⟩ ?_
                    refine xk_iconst hx hb dL_storms_90 ?_
                    refine lv_aload_n hx hb dL_storms_91 rfl (lv_at hl 1 rfl) ?_
                    refine xk_iconst hx hb dL_storms_92 ?_
                    obtain ⟨v25, ev25, hf⟩ := x_bind hf
                    refine xk_iald (f := g17) hx hb hK hP 1 0 ev25 (by decide) rfl rfl dL_storms_93 ?_
                    obtain ⟨g26, eg26, hf⟩ := x_bind hf
                    refine xf_swv (As := [.ref aa, .int (iI v24), .int (iI 1), .int (iI v25)]) (rest := []) (wcs := ([[qcC cs aa 64 g16]] : List va_W)) (w1s := ([[qcC cs aa 64 g26]] : List va_W)) ⟨hx, hb, hml, hown, hts⟩ (kL_goes l dC dI cs aa _ g16 v24 1 v25 _ eg26) (va_cwS 4 hts gL_storms_L_goes rfl rfl rfl cdL_goes ⟨Nat.le_of_ble_eq_true rfl, Nat.le_of_ble_eq_true rfl⟩) hK hP (x_addrF hD rfl) hS hA [0] rfl rfl rfl (by decide) rfl rfl hl.1 rfl (Nat.le_of_ble_eq_true rfl) dL_storms_94 ⟨Nat.zero_le _, Nat.zero_le _⟩ (fun H locs hP hS => ?_)
                    have hP : va_P (dC, dI) vwCl ((([[qcC cs aa 64 g26], [qcC cs ah 8 g17], [qcC cs af 64 g18]] : List va_W)).flatten) H := hP
                    refine xk_iinc (lv' := [(8, .int (iI (l8 + (-1)))), (0, .ref aa), (1, .ref ah), (2, .ref af), (3, .int (iI p3)), (4, .int (iI v1)), (5, .int (iI (l5 + 1))), (6, .int (iI l6)), (7, .int (iI v12))]) hx hb dL_storms_97 hl (k := 8) rfl (by decide) rfl (fun ls hl => ?_)
                    refine lv_goto (tgt := 68) hx hb dL_storms_100 (by decide) ?_
                    exact ih68 (l8 + (-1)) g26 g17 g18 hf _ _ hP hS ls (lv_sub hl [1, 2, 3, 4, 5, 6, 7, 8, 0] rfl)
              exact hL68  xFU (v12 - 1) g2 g3 g15 hf _ _ hP hS ls (lv_sub hl [3, 4, 5, 6, 7, 1, 8, 2, 0] rfl)
            · have hf := c13f c13
              refine xk_iinc (lv' := [(6, .int (iI (l6 + 1))), (7, .int (iI v12)), (0, .ref aa), (1, .ref ah), (2, .ref af), (3, .int (iI p3)), (4, .int (iI v1)), (5, .int (iI l5))]) hx hb dL_storms_110 hl (k := 7) rfl (by decide) rfl (fun ls hl => ?_)
              refine lv_goto (tgt := 11) hx hb dL_storms_113 (by decide) ?_
              exact ih11 l5 (l6 + 1) g2 g3 g4 hf _ _ hP hS ls (lv_sub hl [2, 3, 4, 5, 6, 7, 0] rfl)
          · have hf := c11f c11
            refine xk_iconst hx hb dL_storms_33 ?_
            refine lv_goto (tgt := 45) hx hb dL_storms_34 (by decide) ?_
            refine lv_istore (lv' := [(7, .int (iI 0)), (0, .ref aa), (1, .ref ah), (2, .ref af), (3, .int (iI p3)), (4, .int (iI v1)), (5, .int (iI l5)), (6, .int (iI l6))]) hx hb dL_storms_45 hl (by decide) rfl (fun ls hl => ?_)
            refine lv_iload hx hb dL_storms_47 (lv_at hl 0 rfl) ?_
            refine xk_iconst hx hb dL_storms_49 ?_
            refine xk_icmp_le (tgt := 110) hx hb (by decide) (by decide) dL_storms_50 (by decide) (fun c27 => ?_) (fun c27 => ?_)
            · exact absurd c27 (by decide)
            · refine xk_iinc (lv' := [(6, .int (iI (l6 + 1))), (7, .int (iI 0)), (0, .ref aa), (1, .ref ah), (2, .ref af), (3, .int (iI p3)), (4, .int (iI v1)), (5, .int (iI l5))]) hx hb dL_storms_110 hl (k := 7) rfl (by decide) rfl (fun ls hl => ?_)
              refine lv_goto (tgt := 11) hx hb dL_storms_113 (by decide) ?_
              exact ih11 l5 (l6 + 1) g2 g3 g4 hf _ _ hP hS ls (lv_sub hl [2, 3, 4, 5, 6, 7, 0] rfl)
      · have hf := c6f c6
        refine xk_iconst hx hb dL_storms_116 ?_
        refine lv_istore (lv' := [(6, .int (iI 0)), (0, .ref aa), (1, .ref ah), (2, .ref af), (3, .int (iI p3)), (4, .int (iI v1)), (5, .int (iI l5))]) hx hb dL_storms_117 hl (by decide) rfl (fun ls hl => ?_)
        have hL119 : ∀ (n31 : Nat) (l6x : Int) (g28 : Int → Int) (g29 : Int → Int) (g30 : Int → Int), fL_storms_L119 v1 l5 n31 l6x g28 g29 g30 = some res → ∀ (H : Heap) (locs : List Loc), va_P (dC, dI) vwCl ((([[qcC cs aa 64 g28], [qcC cs ah 8 g29], [qcC cs af 64 g30]] : List va_W)).flatten) H → va_S (va_A ((([[qcC cs aa 64 va], [qcC cs ah 8 vh], [qcC cs af 64 vf]] : List va_W)).flatten) s.heap.size) s.heap H locs → ∀ (ls : Array Slot), lv_has ls 9 [(1, .ref ah), (2, .ref af), (4, .int (iI v1)), (5, .int (iI l5)), (6, .int (iI l6x))] → W p l e (headSpec wsL_storms ({ frames := 3, cells := 0, slots := 0, locals := 71 } : Room)).room s m ([.ref aa, .ref ah, .ref af, .int (iI p3)] : List Value).toArray below meth c H locs 0 0 (MQ below (xQi (dC, dI) vwCl ((([[qcC cs aa 64 va], [qcC cs ah 8 vh], [qcC cs af 64 vf]] : List va_W)).flatten) ((([[qcC cs aa 64 res.2.1], [qcC cs ah 8 res.2.2.1], [qcC cs af 64 res.2.2.2]] : List va_W)).flatten) s.heap.size res.1) ([.ref aa, .ref ah, .ref af, .int (iI p3)] : List Value).toArray s 0 0 (va_A ((([[qcC cs aa 64 va], [qcC cs ah 8 vh], [qcC cs af 64 vf]] : List va_W)).flatten) s.heap.size)) (F0 m 119 ls []) := by
          intro  n31
          induction n31 with
          | zero => intro l6x g28 g29 g30 hf; have hf : (none : Option (Int × (Int → Int) × (Int → Int) × (Int → Int))) = some res := hf; cases hf
          | succ n31 ih119 =>
            intro l6x g28 g29 g30 hf H locs hP hS ls hl
            rw [fL_storms_L119] at hf
            refine lv_iload hx hb dL_storms_119 (lv_at hl 4 rfl) ?_
            refine lv_iload hx hb dL_storms_121 (lv_at hl 2 rfl) ?_
            obtain ⟨c32a, c32b, c32t, c32f⟩ := x_ltE hf
            refine xk_icmp_ge (tgt := 156) hx hb c32a c32b dL_storms_123 (by decide) (fun c32 => ?_) (fun c32 => ?_)
            · have hf := c32t c32
              refine lv_aload_n hx hb dL_storms_126 rfl (lv_at hl 1 rfl) ?_
              refine lv_iload hx hb dL_storms_127 (lv_at hl 4 rfl) ?_
              refine lv_aload_n hx hb dL_storms_129 rfl (lv_at hl 1 rfl) ?_
              refine lv_iload hx hb dL_storms_130 (lv_at hl 4 rfl) ?_
              obtain ⟨v33, ev33, hf⟩ := x_bind hf
              refine xk_iald (f := g30) hx hb hK hP 2 0 ev33 (by decide) rfl rfl dL_storms_132 ?_
              obtain ⟨c34a, c34b, c34t, c34f⟩ := x_ltE hf
              refine xk_if_le (tgt := 145) hx hb c34b dL_storms_133 (by decide) (fun c34 => ?_) (fun c34 => ?_)
              · have hf := c34t c34
                refine lv_aload_n hx hb dL_storms_136 rfl (lv_at hl 1 rfl) ?_
                refine lv_iload hx hb dL_storms_137 (lv_at hl 4 rfl) ?_
                obtain ⟨v35, ev35, hf⟩ := x_bind hf
                refine xk_iald (f := g30) hx hb hK hP 2 0 ev35 (by decide) rfl rfl dL_storms_139 ?_
                refine xk_iconst hx hb dL_storms_140 ?_
                refine xk_isub hx hb dL_storms_141 ?_
                refine lv_goto (tgt := 149) hx hb dL_storms_142 (by decide) ?_
                obtain ⟨g36, eg36, hf⟩ := x_bind hf
                refine xk_iast (f := g30) hx hb hK hP (x_addrF hD rfl) hS 2 0 eg36 (by decide) rfl rfl dL_storms_149 (fun H locs hP hS => ?_)
                have hP : va_P (dC, dI) vwCl ((([[qcC cs aa 64 g28], [qcC cs ah 8 g29], [qcC cs af 64 g36]] : List va_W)).flatten) H := hP
                refine xk_iinc (lv' := [(6, .int (iI (l6x + 1))), (1, .ref ah), (2, .ref af), (4, .int (iI v1)), (5, .int (iI l5))]) hx hb dL_storms_150 hl (k := 4) rfl (by decide) rfl (fun ls hl => ?_)
                refine lv_goto (tgt := 119) hx hb dL_storms_153 (by decide) ?_
                exact ih119 (l6x + 1) g28 g29 g36 hf _ _ hP hS ls (lv_sub hl [1, 2, 3, 4, 0] rfl)
              · have hf := c34f c34
                refine lv_aload_n hx hb dL_storms_145 rfl (lv_at hl 1 rfl) ?_
                refine lv_iload hx hb dL_storms_146 (lv_at hl 4 rfl) ?_
                obtain ⟨v37, ev37, hf⟩ := x_bind hf
                refine xk_iald (f := g30) hx hb hK hP 2 0 ev37 (by decide) rfl rfl dL_storms_148 ?_
                obtain ⟨g38, eg38, hf⟩ := x_bind hf
                refine xk_iast (f := g30) hx hb hK hP (x_addrF hD rfl) hS 2 0 eg38 (by decide) rfl rfl dL_storms_149 (fun H locs hP hS => ?_)
                have hP : va_P (dC, dI) vwCl ((([[qcC cs aa 64 g28], [qcC cs ah 8 g29], [qcC cs af 64 g38]] : List va_W)).flatten) H := hP
                refine xk_iinc (lv' := [(6, .int (iI (l6x + 1))), (1, .ref ah), (2, .ref af), (4, .int (iI v1)), (5, .int (iI l5))]) hx hb dL_storms_150 hl (k := 4) rfl (by decide) rfl (fun ls hl => ?_)
                refine lv_goto (tgt := 119) hx hb dL_storms_153 (by decide) ?_
                exact ih119 (l6x + 1) g28 g29 g38 hf _ _ hP hS ls (lv_sub hl [1, 2, 3, 4, 0] rfl)
            · have hf := c32f c32
              refine lv_aload_n hx hb dL_storms_156 rfl (lv_at hl 0 rfl) ?_
              refine xk_iconst hx hb dL_storms_157 ?_
              refine xk_iconst hx hb dL_storms_158 ?_
              obtain ⟨g39, eg39, hf⟩ := x_bind hf
              refine xk_iast (f := g29) hx hb hK hP (x_addrF hD rfl) hS 1 0 eg39 (by decide) rfl rfl dL_storms_159 (fun H locs hP hS => ?_)
              have hP : va_P (dC, dI) vwCl ((([[qcC cs aa 64 g28], [qcC cs ah 8 g39], [qcC cs af 64 g30]] : List va_W)).flatten) H := hP
              refine lv_aload_n hx hb dL_storms_160 rfl (lv_at hl 0 rfl) ?_
              refine xk_bipush hx hb dL_storms_161 (by decide) ?_
              refine lv_dup2_11 hx hb dL_storms_163 rfl rfl ?_
              obtain ⟨v40, ev40, hf⟩ := x_bind hf
              refine xk_iald (f := g39) hx hb hK hP 1 0 ev40 (by decide) rfl rfl dL_storms_164 ?_
              refine xk_iconst hx hb dL_storms_165 ?_
              refine xk_iadd hx hb dL_storms_166 ?_
              obtain ⟨g41, eg41, hf⟩ := x_bind hf
              refine xk_iast (f := g39) hx hb hK hP (x_addrF hD rfl) hS 1 0 eg41 (by decide) rfl rfl dL_storms_167 (fun H locs hP hS => ?_)
              have hP : va_P (dC, dI) vwCl ((([[qcC cs aa 64 g28], [qcC cs ah 8 g41], [qcC cs af 64 g30]] : List va_W)).flatten) H := hP
              refine lv_aload_n hx hb dL_storms_168 rfl (lv_at hl 0 rfl) ?_
              refine xk_bipush hx hb dL_storms_169 (by decide) ?_
              refine lv_dup2_11 hx hb dL_storms_171 rfl rfl ?_
              obtain ⟨v42, ev42, hf⟩ := x_bind hf
              refine xk_iald (f := g41) hx hb hK hP 1 0 ev42 (by decide) rfl rfl dL_storms_172 ?_
              refine lv_iload hx hb dL_storms_173 (lv_at hl 3 rfl) ?_
              refine xk_iadd hx hb dL_storms_175 ?_
              obtain ⟨g43, eg43, hf⟩ := x_bind hf
              refine xk_iast (f := g41) hx hb hK hP (x_addrF hD rfl) hS 1 0 eg43 (by decide) rfl rfl dL_storms_176 (fun H locs hP hS => ?_)
              have hP : va_P (dC, dI) vwCl ((([[qcC cs aa 64 g28], [qcC cs ah 8 g43], [qcC cs af 64 g30]] : List va_W)).flatten) H := hP
              refine lv_iload hx hb dL_storms_177 (lv_at hl 3 rfl) ?_
              obtain rfl := Option.some.inj hf
              exact xe_wi hx hb hr hlocks hS hP dL_storms_179
        exact hL119  xFU 0 g2 g3 g4 hf _ _ hP hS ls (lv_sub hl [2, 3, 5, 6, 0] rfl)
  exact hL11  xFU 0 0 va vh vf hf _ _ hP hS ls (lv_sub hl [3, 4, 5, 6, 2, 1, 0] rfl)
theorem cdL_storms : yL_storms.cls ≠ "java/lang/invoke/MethodHandle" ∧ yL_storms.cls ≠ "java/lang/invoke/VarHandle" ∧ (parseMethodDescriptor yL_storms.desc).map (fun d => d.parameters.length) = some 4 := by decide +kernel

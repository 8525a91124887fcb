set_option maxHeartbeats 8000000 in
set_option maxRecDepth 100000 in
theorem kL_areParcels (l : Launch) (hlS : l.stackTraces = false) (dC : Nat → ClassId) (dI : Nat → Nat → Nat) (cs : Nat → ClassId) (aa : Nat) (ah : Nat) (a : Nat → Nat) (sz : Nat) (va : Int → Int) (vh : Int → Int) (y : BrS) (res : Int × BrS) (hf : fL_areParcels va vh y = some res) : Met l yL_areParcels wsL_areParcels ({ frames := 8, cells := 356, slots := 2131, locals := 128 } : Room) (va_Pc [.ref (a 0), .ref aa, .ref ah] (xPL (dC, dI) vwCl (([[qcC cs aa 64 va], [qcC cs ah 8 vh]] ++ w4 cs a y).flatten) (xT cs) sz)) (xQi (dC, dI) vwCl (([[qcC cs aa 64 va], [qcC cs ah 8 vh]] ++ w4 cs a y).flatten) (([[qcC cs aa 64 va], [qcC cs ah 8 vh]] ++ w4 cs a res.2).flatten) sz res.1) 356 2131 (va_A (([[qcC cs aa 64 va], [qcC cs ah 8 vh]] ++ w4 cs a y).flatten) sz) := by
  refine Met.ofW (cc := cL_areParcels) (maxL := 5) (ret := (some .boolean)) (by decide) rfl ?_
  intro p e s m args below meth c s₁ B hml hv
  obtain ⟨rfl, ⟨⟨hsz, hP, hK, hD0⟩, hTh⟩, hN⟩ := hv
  have hx := B.exec
  have hb := B.bytes
  have hr := B.returns
  have hts := atoms_spec (ws := wsL_areParcels) B.pre
  have hown : s.vm.findClass RL = some m.cls := findClass_of_methodNamed B.named
  have hlocks := B.notSynchronized
  subst hsz
  have hD := hD0.self (sz := s.heap.size)
  have hA : ∀ z9 : Nat, s.heap.size ≤ z9 → va_A (([[qcC cs aa 64 va], [qcC cs ah 8 vh]] ++ w4 cs a y).flatten) s.heap.size z9 := fun z9 h => Or.inr h
  have hS : va_S (va_A (([[qcC cs aa 64 va], [qcC cs ah 8 vh]] ++ w4 cs a y).flatten) s.heap.size) s.heap s.heap [] := va_S.rf
  have hl := lv_entry [.ref (a 0), .ref aa, .ref ah] (n := 5) (Nat.le_of_ble_eq_true rfl)
  rw [lg_entry_eq]
  generalize (lg_sl [.ref (a 0), .ref aa, .ref ah] ++ List.replicate (5 - (lg_sl [.ref (a 0), .ref aa, .ref ah]).length) Slot.unset).toArray = ls at hl ⊢
  have hl : lv_has ls 5 [(0, .ref (a 0)), (1, .ref aa), (2, .ref ah)] := hl
  unfold fL_areParcels at hf
  refine xk_iconst hx hb dL_areParcels_0 ?_
  refine va_newa (atype := .int) (ty := .int) (N' := 1) (a0 := (1, .inl (xA (fun _ => 0)))) hx hb (hts (.arrayClass .int) (by decide +kernel)) rfl hK hP (x_addrF hD rfl) hS hA (fun cA => x_zero cA 1) (by decide) (by decide) (Nat.le_of_ble_eq_true rfl) (by show _ ≤ 356; omega) (by show _ ≤ 2131; omega) dL_areParcels_1 (fun ao cA H hK1 hP hD hS => ?_)
  obtain rfl := x_kind 0 hK1 (cB := cs 0) rfl (fun C h => by cases h)
  have hP : va_P (dC, dI) vwCl (([[qcC cs aa 64 va], [qcC cs ah 8 vh], [qcC cs ao 1 (fun _ => 0)]] ++ w4 cs a y).flatten) H := hP.sub (ws' := ([[qcC cs aa 64 va], [qcC cs ah 8 vh], [qcC cs ao 1 (fun _ => 0)]] ++ w4 cs a y).flatten) [0, 1, 104, 2, 3, 4, 5, 6, 7, 8, 9, 10, 11, 12, 13, 14, 15, 16, 17, 18, 19, 20, 21, 22, 23, 24, 25, 26, 27, 28, 29, 30, 31, 32, 33, 34, 35, 36, 37, 38, 39, 40, 41, 42, 43, 44, 45, 46, 47, 48, 49, 50, 51, 52, 53, 54, 55, 56, 57, 58, 59, 60, 61, 62, 63, 64, 65, 66, 67, 68, 69, 70, 71, 72, 73, 74, 75, 76, 77, 78, 79, 80, 81, 82, 83, 84, 85, 86, 87, 88, 89, 90, 91, 92, 93, 94, 95, 96, 97, 98, 99, 100, 101, 102, 103] rfl
  have hD : va_D (va_A (([[qcC cs aa 64 va], [qcC cs ah 8 vh]] ++ w4 cs a y).flatten) s.heap.size) (([[qcC cs aa 64 va], [qcC cs ah 8 vh], [qcC cs ao 1 (fun _ => 0)]] ++ w4 cs a y).flatten) := hD.sub (ws' := ([[qcC cs aa 64 va], [qcC cs ah 8 vh], [qcC cs ao 1 (fun _ => 0)]] ++ w4 cs a y).flatten) [0, 1, 104, 2, 3, 4, 5, 6, 7, 8, 9, 10, 11, 12, 13, 14, 15, 16, 17, 18, 19, 20, 21, 22, 23, 24, 25, 26, 27, 28, 29, 30, 31, 32, 33, 34, 35, 36, 37, 38, 39, 40, 41, 42, 43, 44, 45, 46, 47, 48, 49, 50, 51, 52, 53, 54, 55, 56, 57, 58, 59, 60, 61, 62, 63, 64, 65, 66, 67, 68, 69, 70, 71, 72, 73, 74, 75, 76, 77, 78, 79, 80, 81, 82, 83, 84, 85, 86, 87, 88, 89, 90, 91, 92, 93, 94, 95, 96, 97, 98, 99, 100, 101, 102, 103] (by decide +kernel) rfl
  refine lv_astore_n (lv' := [(3, .ref ao), (0, .ref (a 0)), (1, .ref aa), (2, .ref ah)]) hx hb dL_areParcels_3 rfl hl (by decide) rfl (fun ls hl => ?_)
  refine xk_iconst hx hb dL_areParcels_4 ?_
  refine lv_istore (lv' := [(4, .int (iI 0)), (3, .ref ao), (0, .ref (a 0)), (1, .ref aa), (2, .ref ah)]) hx hb dL_areParcels_5 hl (by decide) rfl (fun ls hl => ?_)
  have hL7 : ∀ (n3 : Nat) (l4 : Int) (g1 : Int → Int) (y2 : BrS), fL_areParcels_L7 va vh n3 l4 g1 y2 = some res → ∀ (cells slots : Nat), cells + n3 * 5 + 5 ≤ 356 ∧ slots + n3 * 30 + 30 ≤ 2131 → ∀ (H : Heap) (locs : List Loc), va_P (dC, dI) vwCl (([[qcC cs aa 64 va], [qcC cs ah 8 vh], [qcC cs ao 1 g1]] ++ w4 cs a y2).flatten) H → va_S (va_A (([[qcC cs aa 64 va], [qcC cs ah 8 vh]] ++ w4 cs a y).flatten) s.heap.size) s.heap H locs → ∀ (ls : Array Slot), lv_has ls 5 [(0, .ref (a 0)), (1, .ref aa), (2, .ref ah), (3, .ref ao), (4, .int (iI l4))] → W p l e (headSpec wsL_areParcels ({ frames := 8, cells := 356, slots := 2131, locals := 128 } : Room)).room s m ([.ref (a 0), .ref aa, .ref ah] : List Value).toArray below meth c H locs cells slots (MQ below (xQi (dC, dI) vwCl (([[qcC cs aa 64 va], [qcC cs ah 8 vh]] ++ w4 cs a y).flatten) (([[qcC cs aa 64 va], [qcC cs ah 8 vh]] ++ w4 cs a res.2).flatten) s.heap.size res.1) ([.ref (a 0), .ref aa, .ref ah] : List Value).toArray s 356 2131 (va_A (([[qcC cs aa 64 va], [qcC cs ah 8 vh]] ++ w4 cs a y).flatten) s.heap.size)) (F0 m 7 ls []) := by
    intro  n3
    induction n3 with
    | zero => intro l4 g1 y2 hf; have hf : (none : Option (Int × BrS)) = some res := hf; cases hf
    | succ n3 ih7 =>
      intro l4 g1 y2 hf cells slots hcb H locs hP hS ls hl
      rw [fL_areParcels_L7] at hf
      refine lv_iload hx hb dL_areParcels_7 (lv_at hl 4 rfl) ?_
      refine lv_aload_n hx hb dL_areParcels_9 rfl (lv_at hl 2 rfl) ?_
      refine xk_iconst hx hb dL_areParcels_10 ?_
      obtain ⟨v4, ev4, hf⟩ := x_bind hf
      refine xk_iald (f := vh) hx hb hK hP 1 0 ev4 (by decide) rfl rfl dL_areParcels_11 ?_
      obtain ⟨c5a, c5b, c5t, c5f⟩ := x_ltE hf
      refine xk_icmp_ge (tgt := 174) hx hb c5a c5b dL_areParcels_12 (by decide) (fun c5 => ?_) (fun c5 => ?_)
      · have hf := c5t c5
        refine lv_aload_n hx hb dL_areParcels_15 rfl (lv_at hl 0 rfl) ?_
        refine lv_iload hx hb dL_areParcels_16 (lv_at hl 4 rfl) ?_
        refine xk_iconst hx hb dL_areParcels_18 ?_
        refine lv_aload_n hx hb dL_areParcels_19 rfl (lv_at hl 3 rfl) ?_
        obtain ⟨⟨v8, g6, y7⟩, ev8, hf⟩ := x_bind hf
        refine xf_sw (As := [.ref (a 0), .int (iI l4), .int (iI 0), .ref ao]) (rest := []) (wcs := [[qcC cs ao 1 g1]] ++ w4 cs a y2) (w1s := [[qcC cs ao 1 g6]] ++ w4 cs a y7) ⟨hx, hb, hml, hown, hts⟩ (kL_parcel l hlS dC dI cs ao a H.size g1 y2 l4 0 _ ev8) (vx_cwSW 4 hts gL_areParcels_L_parcel rfl rfl rfl cdL_parcel ⟨Nat.le_of_ble_eq_true rfl, Nat.le_of_ble_eq_true rfl⟩) hK hP (x_addrF hD rfl) hS hA hTh hN [2, 3, 4, 5, 6, 7, 8, 9, 10, 11, 12] rfl rfl rfl (by decide) rfl rfl hl.1 rfl (Nat.le_of_ble_eq_true rfl) dL_areParcels_20 ⟨by show _ ≤ 356; omega, by show _ ≤ 2131; omega⟩ (fun H locs hP hS => ?_)
        have hP : va_P (dC, dI) vwCl (([[qcC cs aa 64 va], [qcC cs ah 8 vh], [qcC cs ao 1 g6]] ++ w4 cs a y7).flatten) H := hP
        obtain ⟨c9a, c9b, c9t, c9f⟩ := x_eqE hf
        refine xk_if_ne (tgt := 61) hx hb c9a dL_areParcels_23 (by decide) (fun c9 => ?_) (fun c9 => ?_)
        · have hf := c9t c9
          refine lv_aload_n hx hb dL_areParcels_26 rfl (lv_at hl 3 rfl) ?_
          refine xk_iconst hx hb dL_areParcels_27 ?_
          obtain ⟨v10, ev10, hf⟩ := x_bind hf
          refine xk_iald (f := g6) hx hb hK hP 2 0 ev10 (by decide) rfl rfl dL_areParcels_28 ?_
          refine lv_aload_n hx hb dL_areParcels_29 rfl (lv_at hl 1 rfl) ?_
          refine lv_iload hx hb dL_areParcels_30 (lv_at hl 4 rfl) ?_
          obtain ⟨v11, ev11, hf⟩ := x_bind hf
          refine xf_sri (As := [.ref aa, .int (iI l4)]) (rest := [.int (iI v10)]) (wcs := ([[qcC cs aa 64 va]] : List va_W)) ⟨hx, hb, hml, hown, hts⟩ (kL_key l dC dI cs aa va l4 _ ev11) (va_cwS 2 hts gL_areParcels_L_key rfl rfl rfl cdL_key ⟨Nat.le_of_ble_eq_true rfl, Nat.le_of_ble_eq_true rfl⟩) hK hP [0] rfl rfl rfl hl.1 rfl (Nat.le_of_ble_eq_true rfl) dL_areParcels_32 ⟨by show _ ≤ 356; omega, by show _ ≤ 2131; omega⟩ ?_
          obtain ⟨c12a, c12b, c12t, c12f⟩ := x_eqE hf
          refine xk_icmp_ne (tgt := 61) hx hb c12a c12b dL_areParcels_35 (by decide) (fun c12 => ?_) (fun c12 => ?_)
          · have hf := c12t c12
            refine lv_aload_n hx hb dL_areParcels_38 rfl (lv_at hl 0 rfl) ?_
            refine lv_iload hx hb dL_areParcels_39 (lv_at hl 4 rfl) ?_
            refine xk_iconst hx hb dL_areParcels_41 ?_
            refine lv_aload_n hx hb dL_areParcels_42 rfl (lv_at hl 3 rfl) ?_
            obtain ⟨⟨v15, g13, y14⟩, ev15, hf⟩ := x_bind hf
            refine xf_sw (As := [.ref (a 0), .int (iI l4), .int (iI 1), .ref ao]) (rest := []) (wcs := [[qcC cs ao 1 g6]] ++ w4 cs a y7) (w1s := [[qcC cs ao 1 g13]] ++ w4 cs a y14) ⟨hx, hb, hml, hown, hts⟩ (kL_parcel l hlS dC dI cs ao a H.size g6 y7 l4 1 _ ev15) (vx_cwSW 4 hts gL_areParcels_L_parcel rfl rfl rfl cdL_parcel ⟨Nat.le_of_ble_eq_true rfl, Nat.le_of_ble_eq_true rfl⟩) hK hP (x_addrF hD rfl) hS hA hTh hN [2, 3, 4, 5, 6, 7, 8, 9, 10, 11, 12] rfl rfl rfl (by decide) rfl rfl hl.1 rfl (Nat.le_of_ble_eq_true rfl) dL_areParcels_43 ⟨by show _ ≤ 356; omega, by show _ ≤ 2131; omega⟩ (fun H locs hP hS => ?_)
            have hP : va_P (dC, dI) vwCl (([[qcC cs aa 64 va], [qcC cs ah 8 vh], [qcC cs ao 1 g13]] ++ w4 cs a y14).flatten) H := hP
            obtain ⟨c16a, c16b, c16t, c16f⟩ := x_eqE hf
            refine xk_if_ne (tgt := 61) hx hb c16a dL_areParcels_46 (by decide) (fun c16 => ?_) (fun c16 => ?_)
            · have hf := c16t c16
              refine lv_aload_n hx hb dL_areParcels_49 rfl (lv_at hl 3 rfl) ?_
              refine xk_iconst hx hb dL_areParcels_50 ?_
              obtain ⟨v17, ev17, hf⟩ := x_bind hf
              refine xk_iald (f := g13) hx hb hK hP 2 0 ev17 (by decide) rfl rfl dL_areParcels_51 ?_
              refine lv_aload_n hx hb dL_areParcels_52 rfl (lv_at hl 1 rfl) ?_
              refine lv_iload hx hb dL_areParcels_53 (lv_at hl 4 rfl) ?_
              obtain ⟨v18, ev18, hf⟩ := x_bind hf
              refine xf_sri (As := [.ref aa, .int (iI l4)]) (rest := [.int (iI v17)]) (wcs := ([[qcC cs aa 64 va]] : List va_W)) ⟨hx, hb, hml, hown, hts⟩ (kL_weight l dC dI cs aa va l4 _ ev18) (va_cwS 2 hts gL_areParcels_L_weight rfl rfl rfl cdL_weight ⟨Nat.le_of_ble_eq_true rfl, Nat.le_of_ble_eq_true rfl⟩) hK hP [0] rfl rfl rfl hl.1 rfl (Nat.le_of_ble_eq_true rfl) dL_areParcels_55 ⟨by show _ ≤ 356; omega, by show _ ≤ 2131; omega⟩ ?_
              obtain ⟨c19a, c19b, c19t, c19f⟩ := x_eqE hf
              refine xk_icmp_eq (tgt := 63) hx hb c19a c19b dL_areParcels_58 (by decide) (fun c19 => ?_) (fun c19 => ?_)
              · have hf := c19t c19
                refine lv_aload_n hx hb dL_areParcels_63 rfl (lv_at hl 0 rfl) ?_
                refine lv_iload hx hb dL_areParcels_64 (lv_at hl 4 rfl) ?_
                refine xk_iconst hx hb dL_areParcels_66 ?_
                refine lv_aload_n hx hb dL_areParcels_67 rfl (lv_at hl 3 rfl) ?_
                obtain ⟨⟨v22, g20, y21⟩, ev22, hf⟩ := x_bind hf
                refine xf_sw (As := [.ref (a 0), .int (iI l4), .int (iI 2), .ref ao]) (rest := []) (wcs := [[qcC cs ao 1 g13]] ++ w4 cs a y14) (w1s := [[qcC cs ao 1 g20]] ++ w4 cs a y21) ⟨hx, hb, hml, hown, hts⟩ (kL_parcel l hlS dC dI cs ao a H.size g13 y14 l4 2 _ ev22) (vx_cwSW 4 hts gL_areParcels_L_parcel rfl rfl rfl cdL_parcel ⟨Nat.le_of_ble_eq_true rfl, Nat.le_of_ble_eq_true rfl⟩) hK hP (x_addrF hD rfl) hS hA hTh hN [2, 3, 4, 5, 6, 7, 8, 9, 10, 11, 12] rfl rfl rfl (by decide) rfl rfl hl.1 rfl (Nat.le_of_ble_eq_true rfl) dL_areParcels_68 ⟨by show _ ≤ 356; omega, by show _ ≤ 2131; omega⟩ (fun H locs hP hS => ?_)
                have hP : va_P (dC, dI) vwCl (([[qcC cs aa 64 va], [qcC cs ah 8 vh], [qcC cs ao 1 g20]] ++ w4 cs a y21).flatten) H := hP
                obtain ⟨c23a, c23b, c23t, c23f⟩ := x_eqE hf
                refine xk_if_ne (tgt := 120) hx hb c23a dL_areParcels_71 (by decide) (fun c23 => ?_) (fun c23 => ?_)
                · have hf := c23t c23
                  refine lv_aload_n hx hb dL_areParcels_74 rfl (lv_at hl 3 rfl) ?_
                  refine xk_iconst hx hb dL_areParcels_75 ?_
                  obtain ⟨v24, ev24, hf⟩ := x_bind hf
                  refine xk_iald (f := g20) hx hb hK hP 2 0 ev24 (by decide) rfl rfl dL_areParcels_76 ?_
                  refine lv_aload_n hx hb dL_areParcels_77 rfl (lv_at hl 1 rfl) ?_
                  refine lv_iload hx hb dL_areParcels_78 (lv_at hl 4 rfl) ?_
                  obtain ⟨v25, ev25, hf⟩ := x_bind hf
                  refine xf_sri (As := [.ref aa, .int (iI l4)]) (rest := [.int (iI v24)]) (wcs := ([[qcC cs aa 64 va]] : List va_W)) ⟨hx, hb, hml, hown, hts⟩ (kL_where l dC dI cs aa va l4 _ ev25) (va_cwS 2 hts gL_areParcels_L_where rfl rfl rfl cdL_where ⟨Nat.le_of_ble_eq_true rfl, Nat.le_of_ble_eq_true rfl⟩) hK hP [0] rfl rfl rfl hl.1 rfl (Nat.le_of_ble_eq_true rfl) dL_areParcels_80 ⟨by show _ ≤ 356; omega, by show _ ≤ 2131; omega⟩ ?_
                  obtain ⟨c26a, c26b, c26t, c26f⟩ := x_eqE hf
                  refine xk_icmp_ne (tgt := 120) hx hb c26a c26b dL_areParcels_83 (by decide) (fun c26 => ?_) (fun c26 => ?_)
                  · have hf := c26t c26
                    refine lv_aload_n hx hb dL_areParcels_86 rfl (lv_at hl 0 rfl) ?_
                    refine lv_iload hx hb dL_areParcels_87 (lv_at hl 4 rfl) ?_
                    refine xk_iconst hx hb dL_areParcels_89 ?_
                    refine lv_aload_n hx hb dL_areParcels_90 rfl (lv_at hl 3 rfl) ?_
                    obtain ⟨⟨v29, g27, y28⟩, ev29, hf⟩ := x_bind hf
                    refine xf_sw (As := [.ref (a 0), .int (iI l4), .int (iI 3), .ref ao]) (rest := []) (wcs := [[qcC cs ao 1 g20]] ++ w4 cs a y21) (w1s := [[qcC cs ao 1 g27]] ++ w4 cs a y28) ⟨hx, hb, hml, hown, hts⟩ (kL_parcel l hlS dC dI cs ao a H.size g20 y21 l4 3 _ ev29) (vx_cwSW 4 hts gL_areParcels_L_parcel rfl rfl rfl cdL_parcel ⟨Nat.le_of_ble_eq_true rfl, Nat.le_of_ble_eq_true rfl⟩) hK hP (x_addrF hD rfl) hS hA hTh hN [2, 3, 4, 5, 6, 7, 8, 9, 10, 11, 12] rfl rfl rfl (by decide) rfl rfl hl.1 rfl (Nat.le_of_ble_eq_true rfl) dL_areParcels_91 ⟨by show _ ≤ 356; omega, by show _ ≤ 2131; omega⟩ (fun H locs hP hS => ?_)
                    have hP : va_P (dC, dI) vwCl (([[qcC cs aa 64 va], [qcC cs ah 8 vh], [qcC cs ao 1 g27]] ++ w4 cs a y28).flatten) H := hP
                    obtain ⟨c30a, c30b, c30t, c30f⟩ := x_eqE hf
                    refine xk_if_ne (tgt := 120) hx hb c30a dL_areParcels_94 (by decide) (fun c30 => ?_) (fun c30 => ?_)
                    · have hf := c30t c30
                      refine lv_aload_n hx hb dL_areParcels_97 rfl (lv_at hl 3 rfl) ?_
                      refine xk_iconst hx hb dL_areParcels_98 ?_
                      obtain ⟨v31, ev31, hf⟩ := x_bind hf
                      refine xk_iald (f := g27) hx hb hK hP 2 0 ev31 (by decide) rfl rfl dL_areParcels_99 ?_
                      refine lv_aload_n hx hb dL_areParcels_100 rfl (lv_at hl 1 rfl) ?_
                      refine lv_iload hx hb dL_areParcels_101 (lv_at hl 4 rfl) ?_
                      obtain ⟨v32, ev32, hf⟩ := x_bind hf
                      refine xf_sri (As := [.ref aa, .int (iI l4)]) (rest := [.int (iI v31)]) (wcs := ([[qcC cs aa 64 va]] : List va_W)) ⟨hx, hb, hml, hown, hts⟩ (kL_run l dC dI cs aa va l4 _ ev32) (va_cwS 2 hts gL_areParcels_L_run rfl rfl rfl cdL_run ⟨Nat.le_of_ble_eq_true rfl, Nat.le_of_ble_eq_true rfl⟩) hK hP [0] rfl rfl rfl hl.1 rfl (Nat.le_of_ble_eq_true rfl) dL_areParcels_103 ⟨by show _ ≤ 356; omega, by show _ ≤ 2131; omega⟩ ?_
                      obtain ⟨c33a, c33b, c33t, c33f⟩ := x_eqE hf
                      refine xk_icmp_ne (tgt := 120) hx hb c33a c33b dL_areParcels_106 (by decide) (fun c33 => ?_) (fun c33 => ?_)
                      · have hf := c33t c33
                        refine lv_aload_n hx hb dL_areParcels_109 rfl (lv_at hl 0 rfl) ?_
                        refine lv_iload hx hb dL_areParcels_110 (lv_at hl 4 rfl) ?_
                        refine xk_iconst hx hb dL_areParcels_112 ?_
                        refine lv_aload_n hx hb dL_areParcels_113 rfl (lv_at hl 3 rfl) ?_
                        obtain ⟨⟨v36, g34, y35⟩, ev36, hf⟩ := x_bind hf
                        refine xf_sw (As := [.ref (a 0), .int (iI l4), .int (iI 4), .ref ao]) (rest := []) (wcs := [[qcC cs ao 1 g27]] ++ w4 cs a y28) (w1s := [[qcC cs ao 1 g34]] ++ w4 cs a y35) ⟨hx, hb, hml, hown, hts⟩ (kL_parcel l hlS dC dI cs ao a H.size g27 y28 l4 4 _ ev36) (vx_cwSW 4 hts gL_areParcels_L_parcel rfl rfl rfl cdL_parcel ⟨Nat.le_of_ble_eq_true rfl, Nat.le_of_ble_eq_true rfl⟩) hK hP (x_addrF hD rfl) hS hA hTh hN [2, 3, 4, 5, 6, 7, 8, 9, 10, 11, 12] rfl rfl rfl (by decide) rfl rfl hl.1 rfl (Nat.le_of_ble_eq_true rfl) dL_areParcels_114 ⟨by show _ ≤ 356; omega, by show _ ≤ 2131; omega⟩ (fun H locs hP hS => ?_)
                        have hP : va_P (dC, dI) vwCl (([[qcC cs aa 64 va], [qcC cs ah 8 vh], [qcC cs ao 1 g34]] ++ w4 cs a y35).flatten) H := hP
                        obtain ⟨c37a, c37b, c37t, c37f⟩ := x_eqE hf
                        refine xk_if_eq (tgt := 122) hx hb c37a dL_areParcels_117 (by decide) (fun c37 => ?_) (fun c37 => ?_)
                        · have hf := c37t c37
                          refine lv_aload_n hx hb dL_areParcels_122 rfl (lv_at hl 1 rfl) ?_
                          refine lv_iload hx hb dL_areParcels_123 (lv_at hl 4 rfl) ?_
                          obtain ⟨v38, ev38, hf⟩ := x_bind hf
                          refine xf_sri (As := [.ref aa, .int (iI l4)]) (rest := []) (wcs := ([[qcC cs aa 64 va]] : List va_W)) ⟨hx, hb, hml, hown, hts⟩ (kL_where l dC dI cs aa va l4 _ ev38) (va_cwS 2 hts gL_areParcels_L_where rfl rfl rfl cdL_where ⟨Nat.le_of_ble_eq_true rfl, Nat.le_of_ble_eq_true rfl⟩) hK hP [0] rfl rfl rfl hl.1 rfl (Nat.le_of_ble_eq_true rfl) dL_areParcels_125 ⟨by show _ ≤ 356; omega, by show _ ≤ 2131; omega⟩ ?_
                          obtain ⟨c39a, c39b, c39t, c39f⟩ := x_eqE hf
                          refine xk_if_ne (tgt := 141) hx hb c39a dL_areParcels_128 (by decide) (fun c39 => ?_) (fun c39 => ?_)
                          · have hf := c39t c39
                            refine lv_aload_n hx hb dL_areParcels_131 rfl (lv_at hl 3 rfl) ?_
                            refine xk_iconst hx hb dL_areParcels_132 ?_
                            obtain ⟨v40, ev40, hf⟩ := x_bind hf
                            refine xk_iald (f := g34) hx hb hK hP 2 0 ev40 (by decide) rfl rfl dL_areParcels_133 ?_
                            refine xk_iconst hx hb dL_areParcels_134 ?_
                            obtain ⟨c41a, c41b, c41t, c41f⟩ := x_eqE hf
                            refine xk_icmp_eq (tgt := 168) hx hb c41a c41b dL_areParcels_135 (by decide) (fun c41 => ?_) (fun c41 => ?_)
                            · have hf := c41t c41
                              refine xk_iinc (lv' := [(4, .int (iI (l4 + 1))), (0, .ref (a 0)), (1, .ref aa), (2, .ref ah), (3, .ref ao)]) hx hb dL_areParcels_168 hl (k := 4) rfl (by decide) rfl (fun ls hl => ?_)
                              refine lv_goto (tgt := 7) hx hb dL_areParcels_171 (by decide) ?_
                              exact ih7 (l4 + 1) g34 y35 hf _ _ ⟨by omega, by omega⟩ _ _ hP hS ls (lv_sub hl [1, 2, 3, 4, 0] rfl)
                            · have hf := c41f c41
                              refine lv_goto (tgt := 166) hx hb dL_areParcels_138 (by decide) ?_
                              refine xk_iconst hx hb dL_areParcels_166 ?_
                              obtain rfl := Option.some.inj hf
                              refine W.widen (k := 356) (n := 2131) (by omega) (by omega) ?_
                              have hP : va_P (dC, dI) vwCl (([[qcC cs aa 64 va], [qcC cs ah 8 vh]] ++ w4 cs a y35).flatten) H := hP.sub (ws' := ([[qcC cs aa 64 va], [qcC cs ah 8 vh]] ++ w4 cs a y35).flatten) [0, 1, 3, 4, 5, 6, 7, 8, 9, 10, 11, 12, 13, 14, 15, 16, 17, 18, 19, 20, 21, 22, 23, 24, 25, 26, 27, 28, 29, 30, 31, 32, 33, 34, 35, 36, 37, 38, 39, 40, 41, 42, 43, 44, 45, 46, 47, 48, 49, 50, 51, 52, 53, 54, 55, 56, 57, 58, 59, 60, 61, 62, 63, 64, 65, 66, 67, 68, 69, 70, 71, 72, 73, 74, 75, 76, 77, 78, 79, 80, 81, 82, 83, 84, 85, 86, 87, 88, 89, 90, 91, 92, 93, 94, 95, 96, 97, 98, 99, 100, 101, 102, 103, 104] rfl
                              exact xe_wz hx hb hr (Or.inl rfl) hlocks hS hP dL_areParcels_167
                          · have hf := c39f c39
                            refine lv_aload_n hx hb dL_areParcels_141 rfl (lv_at hl 1 rfl) ?_
                            refine lv_aload_n hx hb dL_areParcels_142 rfl (lv_at hl 2 rfl) ?_
                            refine lv_aload_n hx hb dL_areParcels_143 rfl (lv_at hl 1 rfl) ?_
                            refine lv_iload hx hb dL_areParcels_144 (lv_at hl 4 rfl) ?_
                            obtain ⟨v42, ev42, hf⟩ := x_bind hf
                            refine xf_sri (As := [.ref aa, .int (iI l4)]) (rest := [.ref ah, .ref aa]) (wcs := ([[qcC cs aa 64 va]] : List va_W)) ⟨hx, hb, hml, hown, hts⟩ (kL_where l dC dI cs aa va l4 _ ev42) (va_cwS 2 hts gL_areParcels_L_where rfl rfl rfl cdL_where ⟨Nat.le_of_ble_eq_true rfl, Nat.le_of_ble_eq_true rfl⟩) hK hP [0] rfl rfl rfl hl.1 rfl (Nat.le_of_ble_eq_true rfl) dL_areParcels_146 ⟨by show _ ≤ 356; omega, by show _ ≤ 2131; omega⟩ ?_
                            refine lv_aload_n hx hb dL_areParcels_149 rfl (lv_at hl 1 rfl) ?_
                            refine lv_iload hx hb dL_areParcels_150 (lv_at hl 4 rfl) ?_
                            obtain ⟨v43, ev43, hf⟩ := x_bind hf
                            refine xf_sri (As := [.ref aa, .int (iI l4)]) (rest := [.int (iI v42), .ref ah, .ref aa]) (wcs := ([[qcC cs aa 64 va]] : List va_W)) ⟨hx, hb, hml, hown, hts⟩ (kL_run l dC dI cs aa va l4 _ ev43) (va_cwS 2 hts gL_areParcels_L_run rfl rfl rfl cdL_run ⟨Nat.le_of_ble_eq_true rfl, Nat.le_of_ble_eq_true rfl⟩) hK hP [0] rfl rfl rfl hl.1 rfl (Nat.le_of_ble_eq_true rfl) dL_areParcels_152 ⟨by show _ ≤ 356; omega, by show _ ≤ 2131; omega⟩ ?_
                            refine lv_aload_n hx hb dL_areParcels_155 rfl (lv_at hl 3 rfl) ?_
                            refine xk_iconst hx hb dL_areParcels_156 ?_
                            obtain ⟨v44, ev44, hf⟩ := x_bind hf
                            refine xk_iald (f := g34) hx hb hK hP 2 0 ev44 (by decide) rfl rfl dL_areParcels_157 ?_
                            obtain ⟨v45, ev45, hf⟩ := x_bind hf
                            refine xf_sri (As := [.ref aa, .ref ah, .int (iI v42), .int (iI v43), .int (iI v44)]) (rest := []) (wcs := ([[qcC cs aa 64 va], [qcC cs ah 8 vh]] : List va_W)) ⟨hx, hb, hml, hown, hts⟩ (kL_ranked l dC dI cs aa ah va vh v42 v43 v44 _ ev45) (va_cwS 5 hts gL_areParcels_L_ranked rfl rfl rfl cdL_ranked ⟨Nat.le_of_ble_eq_true rfl, Nat.le_of_ble_eq_true rfl⟩) hK hP [0, 1] rfl rfl rfl hl.1 rfl (Nat.le_of_ble_eq_true rfl) dL_areParcels_158 ⟨by show _ ≤ 356; omega, by show _ ≤ 2131; omega⟩ ?_
                            refine lv_iload hx hb dL_areParcels_161 (lv_at hl 4 rfl) ?_
                            obtain ⟨c46a, c46b, c46t, c46f⟩ := x_eqE hf
                            refine xk_icmp_eq (tgt := 168) hx hb c46a c46b dL_areParcels_163 (by decide) (fun c46 => ?_) (fun c46 => ?_)
                            · have hf := c46t c46
                              refine xk_iinc (lv' := [(4, .int (iI (l4 + 1))), (0, .ref (a 0)), (1, .ref aa), (2, .ref ah), (3, .ref ao)]) hx hb dL_areParcels_168 hl (k := 4) rfl (by decide) rfl (fun ls hl => ?_)
                              refine lv_goto (tgt := 7) hx hb dL_areParcels_171 (by decide) ?_
                              exact ih7 (l4 + 1) g34 y35 hf _ _ ⟨by omega, by omega⟩ _ _ hP hS ls (lv_sub hl [1, 2, 3, 4, 0] rfl)
                            · have hf := c46f c46
                              refine xk_iconst hx hb dL_areParcels_166 ?_
                              obtain rfl := Option.some.inj hf
                              refine W.widen (k := 356) (n := 2131) (by omega) (by omega) ?_
                              have hP : va_P (dC, dI) vwCl (([[qcC cs aa 64 va], [qcC cs ah 8 vh]] ++ w4 cs a y35).flatten) H := hP.sub (ws' := ([[qcC cs aa 64 va], [qcC cs ah 8 vh]] ++ w4 cs a y35).flatten) [0, 1, 3, 4, 5, 6, 7, 8, 9, 10, 11, 12, 13, 14, 15, 16, 17, 18, 19, 20, 21, 22, 23, 24, 25, 26, 27, 28, 29, 30, 31, 32, 33, 34, 35, 36, 37, 38, 39, 40, 41, 42, 43, 44, 45, 46, 47, 48, 49, 50, 51, 52, 53, 54, 55, 56, 57, 58, 59, 60, 61, 62, 63, 64, 65, 66, 67, 68, 69, 70, 71, 72, 73, 74, 75, 76, 77, 78, 79, 80, 81, 82, 83, 84, 85, 86, 87, 88, 89, 90, 91, 92, 93, 94, 95, 96, 97, 98, 99, 100, 101, 102, 103, 104] rfl
                              exact xe_wz hx hb hr (Or.inl rfl) hlocks hS hP dL_areParcels_167
                        · have hf := c37f c37
                          refine xk_iconst hx hb dL_areParcels_120 ?_
                          obtain rfl := Option.some.inj hf
                          refine W.widen (k := 356) (n := 2131) (by omega) (by omega) ?_
                          have hP : va_P (dC, dI) vwCl (([[qcC cs aa 64 va], [qcC cs ah 8 vh]] ++ w4 cs a y35).flatten) H := hP.sub (ws' := ([[qcC cs aa 64 va], [qcC cs ah 8 vh]] ++ w4 cs a y35).flatten) [0, 1, 3, 4, 5, 6, 7, 8, 9, 10, 11, 12, 13, 14, 15, 16, 17, 18, 19, 20, 21, 22, 23, 24, 25, 26, 27, 28, 29, 30, 31, 32, 33, 34, 35, 36, 37, 38, 39, 40, 41, 42, 43, 44, 45, 46, 47, 48, 49, 50, 51, 52, 53, 54, 55, 56, 57, 58, 59, 60, 61, 62, 63, 64, 65, 66, 67, 68, 69, 70, 71, 72, 73, 74, 75, 76, 77, 78, 79, 80, 81, 82, 83, 84, 85, 86, 87, 88, 89, 90, 91, 92, 93, 94, 95, 96, 97, 98, 99, 100, 101, 102, 103, 104] rfl
                          exact xe_wz hx hb hr (Or.inl rfl) hlocks hS hP dL_areParcels_121
                      · have hf := c33f c33
                        refine xk_iconst hx hb dL_areParcels_120 ?_
                        obtain rfl := Option.some.inj hf
                        refine W.widen (k := 356) (n := 2131) (by omega) (by omega) ?_
                        have hP : va_P (dC, dI) vwCl (([[qcC cs aa 64 va], [qcC cs ah 8 vh]] ++ w4 cs a y28).flatten) H := hP.sub (ws' := ([[qcC cs aa 64 va], [qcC cs ah 8 vh]] ++ w4 cs a y28).flatten) [0, 1, 3, 4, 5, 6, 7, 8, 9, 10, 11, 12, 13, 14, 15, 16, 17, 18, 19, 20, 21, 22, 23, 24, 25, 26, 27, 28, 29, 30, 31, 32, 33, 34, 35, 36, 37, 38, 39, 40, 41, 42, 43, 44, 45, 46, 47, 48, 49, 50, 51, 52, 53, 54, 55, 56, 57, 58, 59, 60, 61, 62, 63, 64, 65, 66, 67, 68, 69, 70, 71, 72, 73, 74, 75, 76, 77, 78, 79, 80, 81, 82, 83, 84, 85, 86, 87, 88, 89, 90, 91, 92, 93, 94, 95, 96, 97, 98, 99, 100, 101, 102, 103, 104] rfl
                        exact xe_wz hx hb hr (Or.inl rfl) hlocks hS hP dL_areParcels_121
                    · have hf := c30f c30
                      refine xk_iconst hx hb dL_areParcels_120 ?_
                      obtain rfl := Option.some.inj hf
                      refine W.widen (k := 356) (n := 2131) (by omega) (by omega) ?_
                      have hP : va_P (dC, dI) vwCl (([[qcC cs aa 64 va], [qcC cs ah 8 vh]] ++ w4 cs a y28).flatten) H := hP.sub (ws' := ([[qcC cs aa 64 va], [qcC cs ah 8 vh]] ++ w4 cs a y28).flatten) [0, 1, 3, 4, 5, 6, 7, 8, 9, 10, 11, 12, 13, 14, 15, 16, 17, 18, 19, 20, 21, 22, 23, 24, 25, 26, 27, 28, 29, 30, 31, 32, 33, 34, 35, 36, 37, 38, 39, 40, 41, 42, 43, 44, 45, 46, 47, 48, 49, 50, 51, 52, 53, 54, 55, 56, 57, 58, 59, 60, 61, 62, 63, 64, 65, 66, 67, 68, 69, 70, 71, 72, 73, 74, 75, 76, 77, 78, 79, 80, 81, 82, 83, 84, 85, 86, 87, 88, 89, 90, 91, 92, 93, 94, 95, 96, 97, 98, 99, 100, 101, 102, 103, 104] rfl
                      exact xe_wz hx hb hr (Or.inl rfl) hlocks hS hP dL_areParcels_121
                  · have hf := c26f c26
                    refine xk_iconst hx hb dL_areParcels_120 ?_
                    obtain rfl := Option.some.inj hf
                    refine W.widen (k := 356) (n := 2131) (by omega) (by omega) ?_
                    have hP : va_P (dC, dI) vwCl (([[qcC cs aa 64 va], [qcC cs ah 8 vh]] ++ w4 cs a y21).flatten) H := hP.sub (ws' := ([[qcC cs aa 64 va], [qcC cs ah 8 vh]] ++ w4 cs a y21).flatten) [0, 1, 3, 4, 5, 6, 7, 8, 9, 10, 11, 12, 13, 14, 15, 16, 17, 18, 19, 20, 21, 22, 23, 24, 25, 26, 27, 28, 29, 30, 31, 32, 33, 34, 35, 36, 37, 38, 39, 40, 41, 42, 43, 44, 45, 46, 47, 48, 49, 50, 51, 52, 53, 54, 55, 56, 57, 58, 59, 60, 61, 62, 63, 64, 65, 66, 67, 68, 69, 70, 71, 72, 73, 74, 75, 76, 77, 78, 79, 80, 81, 82, 83, 84, 85, 86, 87, 88, 89, 90, 91, 92, 93, 94, 95, 96, 97, 98, 99, 100, 101, 102, 103, 104] rfl
                    exact xe_wz hx hb hr (Or.inl rfl) hlocks hS hP dL_areParcels_121
                · have hf := c23f c23
                  refine xk_iconst hx hb dL_areParcels_120 ?_
                  obtain rfl := Option.some.inj hf
                  refine W.widen (k := 356) (n := 2131) (by omega) (by omega) ?_
                  have hP : va_P (dC, dI) vwCl (([[qcC cs aa 64 va], [qcC cs ah 8 vh]] ++ w4 cs a y21).flatten) H := hP.sub (ws' := ([[qcC cs aa 64 va], [qcC cs ah 8 vh]] ++ w4 cs a y21).flatten) [0, 1, 3, 4, 5, 6, 7, 8, 9, 10, 11, 12, 13, 14, 15, 16, 17, 18, 19, 20, 21, 22, 23, 24, 25, 26, 27, 28, 29, 30, 31, 32, 33, 34, 35, 36, 37, 38, 39, 40, 41, 42, 43, 44, 45, 46, 47, 48, 49, 50, 51, 52, 53, 54, 55, 56, 57, 58, 59, 60, 61, 62, 63, 64, 65, 66, 67, 68, 69, 70, 71, 72, 73, 74, 75, 76, 77, 78, 79, 80, 81, 82, 83, 84, 85, 86, 87, 88, 89, 90, 91, 92, 93, 94, 95, 96, 97, 98, 99, 100, 101, 102, 103, 104] rfl
                  exact xe_wz hx hb hr (Or.inl rfl) hlocks hS hP dL_areParcels_121
              · have hf := c19f c19
                refine xk_iconst hx hb dL_areParcels_61 ?_
                obtain rfl := Option.some.inj hf
                refine W.widen (k := 356) (n := 2131) (by omega) (by omega) ?_
                have hP : va_P (dC, dI) vwCl (([[qcC cs aa 64 va], [qcC cs ah 8 vh]] ++ w4 cs a y14).flatten) H := hP.sub (ws' := ([[qcC cs aa 64 va], [qcC cs ah 8 vh]] ++ w4 cs a y14).flatten) [0, 1, 3, 4, 5, 6, 7, 8, 9, 10, 11, 12, 13, 14, 15, 16, 17, 18, 19, 20, 21, 22, 23, 24, 25, 26, 27, 28, 29, 30, 31, 32, 33, 34, 35, 36, 37, 38, 39, 40, 41, 42, 43, 44, 45, 46, 47, 48, 49, 50, 51, 52, 53, 54, 55, 56, 57, 58, 59, 60, 61, 62, 63, 64, 65, 66, 67, 68, 69, 70, 71, 72, 73, 74, 75, 76, 77, 78, 79, 80, 81, 82, 83, 84, 85, 86, 87, 88, 89, 90, 91, 92, 93, 94, 95, 96, 97, 98, 99, 100, 101, 102, 103, 104] rfl
                exact xe_wz hx hb hr (Or.inl rfl) hlocks hS hP dL_areParcels_62
            · have hf := c16f c16
              refine xk_iconst hx hb dL_areParcels_61 ?_
              obtain rfl := Option.some.inj hf
              refine W.widen (k := 356) (n := 2131) (by omega) (by omega) ?_
              have hP : va_P (dC, dI) vwCl (([[qcC cs aa 64 va], [qcC cs ah 8 vh]] ++ w4 cs a y14).flatten) H := hP.sub (ws' := ([[qcC cs aa 64 va], [qcC cs ah 8 vh]] ++ w4 cs a y14).flatten) [0, 1, 3, 4, 5, 6, 7, 8, 9, 10, 11, 12, 13, 14, 15, 16, 17, 18, 19, 20, 21, 22, 23, 24, 25, 26, 27, 28, 29, 30, 31, 32, 33, 34, 35, 36, 37, 38, 39, 40, 41, 42, 43, 44, 45, 46, 47, 48, 49, 50, 51, 52, 53, 54, 55, 56, 57, 58, 59, 60, 61, 62, 63, 64, 65, 66, 67, 68, 69, 70, 71, 72, 73, 74, 75, 76, 77, 78, 79, 80, 81, 82, 83, 84, 85, 86, 87, 88, 89, 90, 91, 92, 93, 94, 95, 96, 97, 98, 99, 100, 101, 102, 103, 104] rfl
              exact xe_wz hx hb hr (Or.inl rfl) hlocks hS hP dL_areParcels_62
          · have hf := c12f c12
            refine xk_iconst hx hb dL_areParcels_61 ?_
            obtain rfl := Option.some.inj hf
            refine W.widen (k := 356) (n := 2131) (by omega) (by omega) ?_
            have hP : va_P (dC, dI) vwCl (([[qcC cs aa 64 va], [qcC cs ah 8 vh]] ++ w4 cs a y7).flatten) H := hP.sub (ws' := ([[qcC cs aa 64 va], [qcC cs ah 8 vh]] ++ w4 cs a y7).flatten) [0, 1, 3, 4, 5, 6, 7, 8, 9, 10, 11, 12, 13, 14, 15, 16, 17, 18, 19, 20, 21, 22, 23, 24, 25, 26, 27, 28, 29, 30, 31, 32, 33, 34, 35, 36, 37, 38, 39, 40, 41, 42, 43, 44, 45, 46, 47, 48, 49, 50, 51, 52, 53, 54, 55, 56, 57, 58, 59, 60, 61, 62, 63, 64, 65, 66, 67, 68, 69, 70, 71, 72, 73, 74, 75, 76, 77, 78, 79, 80, 81, 82, 83, 84, 85, 86, 87, 88, 89, 90, 91, 92, 93, 94, 95, 96, 97, 98, 99, 100, 101, 102, 103, 104] rfl
            exact xe_wz hx hb hr (Or.inl rfl) hlocks hS hP dL_areParcels_62
        · have hf := c9f c9
          refine xk_iconst hx hb dL_areParcels_61 ?_
          obtain rfl := Option.some.inj hf
          refine W.widen (k := 356) (n := 2131) (by omega) (by omega) ?_
          have hP : va_P (dC, dI) vwCl (([[qcC cs aa 64 va], [qcC cs ah 8 vh]] ++ w4 cs a y7).flatten) H := hP.sub (ws' := ([[qcC cs aa 64 va], [qcC cs ah 8 vh]] ++ w4 cs a y7).flatten) [0, 1, 3, 4, 5, 6, 7, 8, 9, 10, 11, 12, 13, 14, 15, 16, 17, 18, 19, 20, 21, 22, 23, 24, 25, 26, 27, 28, 29, 30, 31, 32, 33, 34, 35, 36, 37, 38, 39, 40, 41, 42, 43, 44, 45, 46, 47, 48, 49, 50, 51, 52, 53, 54, 55, 56, 57, 58, 59, 60, 61, 62, 63, 64, 65, 66, 67, 68, 69, 70, 71, 72, 73, 74, 75, 76, 77, 78, 79, 80, 81, 82, 83, 84, 85, 86, 87, 88, 89, 90, 91, 92, 93, 94, 95, 96, 97, 98, 99, 100, 101, 102, 103, 104] rfl
          exact xe_wz hx hb hr (Or.inl rfl) hlocks hS hP dL_areParcels_62
      · have hf := c5f c5
        refine lv_aload_n hx hb dL_areParcels_174 rfl (lv_at hl 0 rfl) ?_
        refine lv_aload_n hx hb dL_areParcels_175 rfl (lv_at hl 2 rfl) ?_
        refine xk_iconst hx hb dL_areParcels_176 ?_
        obtain ⟨v47, ev47, hf⟩ := x_bind hf
        refine xk_iald (f := vh) hx hb hK hP 1 0 ev47 (by decide) rfl rfl dL_areParcels_177 ?_
        refine xk_iconst hx hb dL_areParcels_178 ?_
        refine lv_aload_n hx hb dL_areParcels_179 rfl (lv_at hl 3 rfl) ?_
        obtain ⟨⟨v50, g48, y49⟩, ev50, hf⟩ := x_bind hf
        refine xf_sw (As := [.ref (a 0), .int (iI v47), .int (iI 0), .ref ao]) (rest := []) (wcs := [[qcC cs ao 1 g1]] ++ w4 cs a y2) (w1s := [[qcC cs ao 1 g48]] ++ w4 cs a y49) ⟨hx, hb, hml, hown, hts⟩ (kL_parcel l hlS dC dI cs ao a H.size g1 y2 v47 0 _ ev50) (vx_cwSW 4 hts gL_areParcels_L_parcel rfl rfl rfl cdL_parcel ⟨Nat.le_of_ble_eq_true rfl, Nat.le_of_ble_eq_true rfl⟩) hK hP (x_addrF hD rfl) hS hA hTh hN [2, 3, 4, 5, 6, 7, 8, 9, 10, 11, 12] rfl rfl rfl (by decide) rfl rfl hl.1 rfl (Nat.le_of_ble_eq_true rfl) dL_areParcels_180 ⟨by show _ ≤ 356; omega, by show _ ≤ 2131; omega⟩ (fun H locs hP hS => ?_)
        have hP : va_P (dC, dI) vwCl (([[qcC cs aa 64 va], [qcC cs ah 8 vh], [qcC cs ao 1 g48]] ++ w4 cs a y49).flatten) H := hP
        refine xk_iconst hx hb dL_areParcels_183 ?_
        obtain ⟨c51a, c51b, c51t, c51f⟩ := x_eqE hf
        refine xk_icmp_ne (tgt := 219) hx hb c51a c51b dL_areParcels_184 (by decide) (fun c51 => ?_) (fun c51 => ?_)
        · have hf := c51t c51
          refine lv_aload_n hx hb dL_areParcels_187 rfl (lv_at hl 0 rfl) ?_
          refine xk_iconst hx hb dL_areParcels_188 ?_
          refine xk_iconst hx hb dL_areParcels_189 ?_
          refine lv_aload_n hx hb dL_areParcels_190 rfl (lv_at hl 3 rfl) ?_
          obtain ⟨⟨v54, g52, y53⟩, ev54, hf⟩ := x_bind hf
          refine xf_sw (As := [.ref (a 0), .int (iI (-1)), .int (iI 5), .ref ao]) (rest := []) (wcs := [[qcC cs ao 1 g48]] ++ w4 cs a y49) (w1s := [[qcC cs ao 1 g52]] ++ w4 cs a y53) ⟨hx, hb, hml, hown, hts⟩ (kL_parcel l hlS dC dI cs ao a H.size g48 y49 (-1) 5 _ ev54) (vx_cwSW 4 hts gL_areParcels_L_parcel rfl rfl rfl cdL_parcel ⟨Nat.le_of_ble_eq_true rfl, Nat.le_of_ble_eq_true rfl⟩) hK hP (x_addrF hD rfl) hS hA hTh hN [2, 3, 4, 5, 6, 7, 8, 9, 10, 11, 12] rfl rfl rfl (by decide) rfl rfl hl.1 rfl (Nat.le_of_ble_eq_true rfl) dL_areParcels_191 ⟨by show _ ≤ 356; omega, by show _ ≤ 2131; omega⟩ (fun H locs hP hS => ?_)
          have hP : va_P (dC, dI) vwCl (([[qcC cs aa 64 va], [qcC cs ah 8 vh], [qcC cs ao 1 g52]] ++ w4 cs a y53).flatten) H := hP
          refine xk_iconst hx hb dL_areParcels_194 ?_
          obtain ⟨c55a, c55b, c55t, c55f⟩ := x_eqE hf
          refine xk_icmp_ne (tgt := 219) hx hb c55a c55b dL_areParcels_195 (by decide) (fun c55 => ?_) (fun c55 => ?_)
          · have hf := c55t c55
            refine lv_aload_n hx hb dL_areParcels_198 rfl (lv_at hl 2 rfl) ?_
            refine xk_iconst hx hb dL_areParcels_199 ?_
            obtain ⟨v56, ev56, hf⟩ := x_bind hf
            refine xk_iald (f := vh) hx hb hK hP 1 0 ev56 (by decide) rfl rfl dL_areParcels_200 ?_
            obtain ⟨c57a, c57b, c57t, c57f⟩ := x_eqE hf
            refine xk_if_eq (tgt := 215) hx hb c57a dL_areParcels_201 (by decide) (fun c57 => ?_) (fun c57 => ?_)
            · have hf := c57t c57
              refine xk_iconst hx hb dL_areParcels_215 ?_
              refine lv_goto (tgt := 220) hx hb dL_areParcels_216 (by decide) ?_
              obtain rfl := Option.some.inj hf
              refine W.widen (k := 356) (n := 2131) (by omega) (by omega) ?_
              have hP : va_P (dC, dI) vwCl (([[qcC cs aa 64 va], [qcC cs ah 8 vh]] ++ w4 cs a y53).flatten) H := hP.sub (ws' := ([[qcC cs aa 64 va], [qcC cs ah 8 vh]] ++ w4 cs a y53).flatten) [0, 1, 3, 4, 5, 6, 7, 8, 9, 10, 11, 12, 13, 14, 15, 16, 17, 18, 19, 20, 21, 22, 23, 24, 25, 26, 27, 28, 29, 30, 31, 32, 33, 34, 35, 36, 37, 38, 39, 40, 41, 42, 43, 44, 45, 46, 47, 48, 49, 50, 51, 52, 53, 54, 55, 56, 57, 58, 59, 60, 61, 62, 63, 64, 65, 66, 67, 68, 69, 70, 71, 72, 73, 74, 75, 76, 77, 78, 79, 80, 81, 82, 83, 84, 85, 86, 87, 88, 89, 90, 91, 92, 93, 94, 95, 96, 97, 98, 99, 100, 101, 102, 103, 104] rfl
              exact xe_wz hx hb hr (Or.inr rfl) hlocks hS hP dL_areParcels_220
            · have hf := c57f c57
              refine lv_aload_n hx hb dL_areParcels_204 rfl (lv_at hl 0 rfl) ?_
              refine xk_iconst hx hb dL_areParcels_205 ?_
              refine xk_iconst hx hb dL_areParcels_206 ?_
              refine lv_aload_n hx hb dL_areParcels_207 rfl (lv_at hl 3 rfl) ?_
              obtain ⟨⟨v60, g58, y59⟩, ev60, hf⟩ := x_bind hf
              refine xf_sw (As := [.ref (a 0), .int (iI 0), .int (iI 5), .ref ao]) (rest := []) (wcs := [[qcC cs ao 1 g52]] ++ w4 cs a y53) (w1s := [[qcC cs ao 1 g58]] ++ w4 cs a y59) ⟨hx, hb, hml, hown, hts⟩ (kL_parcel l hlS dC dI cs ao a H.size g52 y53 0 5 _ ev60) (vx_cwSW 4 hts gL_areParcels_L_parcel rfl rfl rfl cdL_parcel ⟨Nat.le_of_ble_eq_true rfl, Nat.le_of_ble_eq_true rfl⟩) hK hP (x_addrF hD rfl) hS hA hTh hN [2, 3, 4, 5, 6, 7, 8, 9, 10, 11, 12] rfl rfl rfl (by decide) rfl rfl hl.1 rfl (Nat.le_of_ble_eq_true rfl) dL_areParcels_208 ⟨by show _ ≤ 356; omega, by show _ ≤ 2131; omega⟩ (fun H locs hP hS => ?_)
              have hP : va_P (dC, dI) vwCl (([[qcC cs aa 64 va], [qcC cs ah 8 vh], [qcC cs ao 1 g58]] ++ w4 cs a y59).flatten) H := hP
              refine xk_iconst hx hb dL_areParcels_211 ?_
              obtain ⟨c61a, c61b, c61t, c61f⟩ := x_eqE hf
              refine xk_icmp_ne (tgt := 219) hx hb c61a c61b dL_areParcels_212 (by decide) (fun c61 => ?_) (fun c61 => ?_)
              · have hf := c61t c61
                refine xk_iconst hx hb dL_areParcels_215 ?_
                refine lv_goto (tgt := 220) hx hb dL_areParcels_216 (by decide) ?_
                obtain rfl := Option.some.inj hf
                refine W.widen (k := 356) (n := 2131) (by omega) (by omega) ?_
                have hP : va_P (dC, dI) vwCl (([[qcC cs aa 64 va], [qcC cs ah 8 vh]] ++ w4 cs a y59).flatten) H := hP.sub (ws' := ([[qcC cs aa 64 va], [qcC cs ah 8 vh]] ++ w4 cs a y59).flatten) [0, 1, 3, 4, 5, 6, 7, 8, 9, 10, 11, 12, 13, 14, 15, 16, 17, 18, 19, 20, 21, 22, 23, 24, 25, 26, 27, 28, 29, 30, 31, 32, 33, 34, 35, 36, 37, 38, 39, 40, 41, 42, 43, 44, 45, 46, 47, 48, 49, 50, 51, 52, 53, 54, 55, 56, 57, 58, 59, 60, 61, 62, 63, 64, 65, 66, 67, 68, 69, 70, 71, 72, 73, 74, 75, 76, 77, 78, 79, 80, 81, 82, 83, 84, 85, 86, 87, 88, 89, 90, 91, 92, 93, 94, 95, 96, 97, 98, 99, 100, 101, 102, 103, 104] rfl
                exact xe_wz hx hb hr (Or.inr rfl) hlocks hS hP dL_areParcels_220
              · have hf := c61f c61
                refine xk_iconst hx hb dL_areParcels_219 ?_
                obtain rfl := Option.some.inj hf
                refine W.widen (k := 356) (n := 2131) (by omega) (by omega) ?_
                have hP : va_P (dC, dI) vwCl (([[qcC cs aa 64 va], [qcC cs ah 8 vh]] ++ w4 cs a y59).flatten) H := hP.sub (ws' := ([[qcC cs aa 64 va], [qcC cs ah 8 vh]] ++ w4 cs a y59).flatten) [0, 1, 3, 4, 5, 6, 7, 8, 9, 10, 11, 12, 13, 14, 15, 16, 17, 18, 19, 20, 21, 22, 23, 24, 25, 26, 27, 28, 29, 30, 31, 32, 33, 34, 35, 36, 37, 38, 39, 40, 41, 42, 43, 44, 45, 46, 47, 48, 49, 50, 51, 52, 53, 54, 55, 56, 57, 58, 59, 60, 61, 62, 63, 64, 65, 66, 67, 68, 69, 70, 71, 72, 73, 74, 75, 76, 77, 78, 79, 80, 81, 82, 83, 84, 85, 86, 87, 88, 89, 90, 91, 92, 93, 94, 95, 96, 97, 98, 99, 100, 101, 102, 103, 104] rfl
                exact xe_wz hx hb hr (Or.inl rfl) hlocks hS hP dL_areParcels_220
          · have hf := c55f c55
            refine xk_iconst hx hb dL_areParcels_219 ?_
            obtain rfl := Option.some.inj hf
            refine W.widen (k := 356) (n := 2131) (by omega) (by omega) ?_
            have hP : va_P (dC, dI) vwCl (([[qcC cs aa 64 va], [qcC cs ah 8 vh]] ++ w4 cs a y53).flatten) H := hP.sub (ws' := ([[qcC cs aa 64 va], [qcC cs ah 8 vh]] ++ w4 cs a y53).flatten) [0, 1, 3, 4, 5, 6, 7, 8, 9, 10, 11, 12, 13, 14, 15, 16, 17, 18, 19, 20, 21, 22, 23, 24, 25, 26, 27, 28, 29, 30, 31, 32, 33, 34, 35, 36, 37, 38, 39, 40, 41, 42, 43, 44, 45, 46, 47, 48, 49, 50, 51, 52, 53, 54, 55, 56, 57, 58, 59, 60, 61, 62, 63, 64, 65, 66, 67, 68, 69, 70, 71, 72, 73, 74, 75, 76, 77, 78, 79, 80, 81, 82, 83, 84, 85, 86, 87, 88, 89, 90, 91, 92, 93, 94, 95, 96, 97, 98, 99, 100, 101, 102, 103, 104] rfl
            exact xe_wz hx hb hr (Or.inl rfl) hlocks hS hP dL_areParcels_220
        · have hf := c51f c51
          refine xk_iconst hx hb dL_areParcels_219 ?_
          obtain rfl := Option.some.inj hf
          refine W.widen (k := 356) (n := 2131) (by omega) (by omega) ?_
          have hP : va_P (dC, dI) vwCl (([[qcC cs aa 64 va], [qcC cs ah 8 vh]] ++ w4 cs a y49).flatten) H := hP.sub (ws' := ([[qcC cs aa 64 va], [qcC cs ah 8 vh]] ++ w4 cs a y49).flatten) [0, 1, 3, 4, 5, 6, 7, 8, 9, 10, 11, 12, 13, 14, 15, 16, 17, 18, 19, 20, 21, 22, 23, 24, 25, 26, 27, 28, 29, 30, 31, 32, 33, 34, 35, 36, 37, 38, 39, 40, 41, 42, 43, 44, 45, 46, 47, 48, 49, 50, 51, 52, 53, 54, 55, 56, 57, 58, 59, 60, 61, 62, 63, 64, 65, 66, 67, 68, 69, 70, 71, 72, 73, 74, 75, 76, 77, 78, 79, 80, 81, 82, 83, 84, 85, 86, 87, 88, 89, 90, 91, 92, 93, 94, 95, 96, 97, 98, 99, 100, 101, 102, 103, 104] rfl
          exact xe_wz hx hb hr (Or.inl rfl) hlocks hS hP dL_areParcels_220
  exact hL7  70 0 (fun _ => 0) y hf _ _ ⟨by omega, by omega⟩ _ _ hP hS ls (lv_sub hl [2, 3, 4, 1, 0] rfl)
theorem cdL_areParcels : yL_areParcels.cls ≠ "java/lang/invoke/MethodHandle" ∧ yL_areParcels.cls ≠ "java/lang/invoke/VarHandle" ∧ (parseMethodDescriptor yL_areParcels.desc).map (fun d => d.parameters.length) = some 3 := by decide +kernel

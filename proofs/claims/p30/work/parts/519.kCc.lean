set_option maxHeartbeats 8000000 in
set_option maxRecDepth 100000 in
theorem kL_areValues (l : Launch) (hlS : l.stackTraces = false) (dC : Nat → ClassId) (dI : Nat → Nat → Nat) (cs : Nat → ClassId) (aa : Nat) (ah : Nat) (af : Nat) (a : Nat → Nat) (sz : Nat) (va : Int → Int) (vh : Int → Int) (vf : Int → Int) (y : BrS) (res : Int × BrS) (hf : fL_areValues va vh vf y = some res) : Met l yL_areValues wsL_areValues ({ frames := 8, cells := 84, slots := 499, locals := 126 } : Room) (va_Pc [.ref (a 0), .ref aa, .ref ah, .ref af] (xPL (dC, dI) vwCl (([[qcC cs aa 64 va], [qcC cs ah 8 vh], [qcC cs af 64 vf]] ++ w4 cs a y).flatten) (xT cs) sz)) (xQi (dC, dI) vwCl (([[qcC cs aa 64 va], [qcC cs ah 8 vh], [qcC cs af 64 vf]] ++ w4 cs a y).flatten) (([[qcC cs aa 64 va], [qcC cs ah 8 vh], [qcC cs af 64 vf]] ++ w4 cs a res.2).flatten) sz res.1) 84 499 (va_A (([[qcC cs aa 64 va], [qcC cs ah 8 vh], [qcC cs af 64 vf]] ++ w4 cs a y).flatten) sz) := by
  refine Met.ofW (cc := cL_areValues) (maxL := 8) (ret := (some .boolean)) (by decide) rfl ?_
  intro p e s m args below meth c s₁ B hml hv
  obtain ⟨rfl, ⟨⟨hsz, hP, hK, hD0⟩, hTh⟩, hN⟩ := hv
  have hx := B.exec
  have hb := B.bytes
  have hr := B.returns
  have hts := atoms_spec (ws := wsL_areValues) B.pre
  have hown : s.vm.findClass RL = some m.cls := findClass_of_methodNamed B.named
  have hlocks := B.notSynchronized
  subst hsz
  have hD := hD0.self (sz := s.heap.size)
  have hA : ∀ z9 : Nat, s.heap.size ≤ z9 → va_A (([[qcC cs aa 64 va], [qcC cs ah 8 vh], [qcC cs af 64 vf]] ++ w4 cs a y).flatten) s.heap.size z9 := fun z9 h => Or.inr h
  have hS : va_S (va_A (([[qcC cs aa 64 va], [qcC cs ah 8 vh], [qcC cs af 64 vf]] ++ w4 cs a y).flatten) s.heap.size) s.heap s.heap [] := va_S.rf
  have hl := lv_entry [.ref (a 0), .ref aa, .ref ah, .ref af] (n := 8) (Nat.le_of_ble_eq_true rfl)
  rw [lg_entry_eq]
  generalize (lg_sl [.ref (a 0), .ref aa, .ref ah, .ref af] ++ List.replicate (8 - (lg_sl [.ref (a 0), .ref aa, .ref ah, .ref af]).length) Slot.unset).toArray = ls at hl ⊢
  have hl : lv_has ls 8 [(0, .ref (a 0)), (1, .ref aa), (2, .ref ah), (3, .ref af)] := hl
  unfold fL_areValues at hf
  refine xk_iconst hx hb dL_areValues_0 ?_
  refine va_newa (atype := .int) (ty := .int) (N' := 1) (a0 := (1, .inl (xA (fun _ => 0)))) hx hb (hts (.arrayClass .int) (by decide +kernel)) rfl hK hP (x_addrF hD rfl) hS hA (fun cA => x_zero cA 1) (by decide) (by decide) (Nat.le_of_ble_eq_true rfl) (by show _ ≤ 84; omega) (by show _ ≤ 499; omega) dL_areValues_1 (fun ao cA H hK1 hP hD hS => ?_)
  obtain rfl := x_kind 0 hK1 (cB := cs 0) rfl (fun C h => by cases h)
  have hP : va_P (dC, dI) vwCl (([[qcC cs aa 64 va], [qcC cs ah 8 vh], [qcC cs af 64 vf], [qcC cs ao 1 (fun _ => 0)]] ++ w4 cs a y).flatten) H := hP.sub (ws' := ([[qcC cs aa 64 va], [qcC cs ah 8 vh], [qcC cs af 64 vf], [qcC cs ao 1 (fun _ => 0)]] ++ w4 cs a y).flatten) [0, 1, 2, 105, 3, 4, 5, 6, 7, 8, 9, 10, 11, 12, 13, 14, 15, 16, 17, 18, 19, 20, 21, 22, 23, 24, 25, 26, 27, 28, 29, 30, 31, 32, 33, 34, 35, 36, 37, 38, 39, 40, 41, 42, 43, 44, 45, 46, 47, 48, 49, 50, 51, 52, 53, 54, 55, 56, 57, 58, 59, 60, 61, 62, 63, 64, 65, 66, 67, 68, 69, 70, 71, 72, 73, 74, 75, 76, 77, 78, 79, 80, 81, 82, 83, 84, 85, 86, 87, 88, 89, 90, 91, 92, 93, 94, 95, 96, 97, 98, 99, 100, 101, 102, 103, 104] rfl
  have hD : va_D (va_A (([[qcC cs aa 64 va], [qcC cs ah 8 vh], [qcC cs af 64 vf]] ++ w4 cs a y).flatten) s.heap.size) (([[qcC cs aa 64 va], [qcC cs ah 8 vh], [qcC cs af 64 vf], [qcC cs ao 1 (fun _ => 0)]] ++ w4 cs a y).flatten) := hD.sub (ws' := ([[qcC cs aa 64 va], [qcC cs ah 8 vh], [qcC cs af 64 vf], [qcC cs ao 1 (fun _ => 0)]] ++ w4 cs a y).flatten) [0, 1, 2, 105, 3, 4, 5, 6, 7, 8, 9, 10, 11, 12, 13, 14, 15, 16, 17, 18, 19, 20, 21, 22, 23, 24, 25, 26, 27, 28, 29, 30, 31, 32, 33, 34, 35, 36, 37, 38, 39, 40, 41, 42, 43, 44, 45, 46, 47, 48, 49, 50, 51, 52, 53, 54, 55, 56, 57, 58, 59, 60, 61, 62, 63, 64, 65, 66, 67, 68, 69, 70, 71, 72, 73, 74, 75, 76, 77, 78, 79, 80, 81, 82, 83, 84, 85, 86, 87, 88, 89, 90, 91, 92, 93, 94, 95, 96, 97, 98, 99, 100, 101, 102, 103, 104] (by decide +kernel) rfl
  refine lv_astore (lv' := [(4, .ref ao), (0, .ref (a 0)), (1, .ref aa), (2, .ref ah), (3, .ref af)]) hx hb dL_areValues_3 hl (by decide) rfl (fun ls hl => ?_)
  refine lv_aload_n hx hb dL_areValues_5 rfl (lv_at hl 2 rfl) ?_
  refine lv_aload_n hx hb dL_areValues_6 rfl (lv_at hl 3 rfl) ?_
  refine xk_iconst hx hb dL_areValues_7 ?_
  refine xk_iconst hx hb dL_areValues_8 ?_
  obtain ⟨v1, ev1, hf⟩ := x_bind hf
  refine xf_sri (As := [.ref aa, .ref ah, .int (iI 0), .int (iI (-1))]) (rest := []) (wcs := ([[qcC cs aa 64 va], [qcC cs ah 8 vh]] : List va_W)) ⟨hx, hb, hml, hown, hts⟩ (kL_many l dC dI cs aa ah va vh 0 (-1) _ ev1) (va_cwS 4 hts gL_areValues_L_many rfl rfl rfl cdL_many ⟨Nat.le_of_ble_eq_true rfl, Nat.le_of_ble_eq_true rfl⟩) hK hP [0, 1] rfl rfl rfl hl.1 rfl (Nat.le_of_ble_eq_true rfl) dL_areValues_9 ⟨by show _ ≤ 84; omega, by show _ ≤ 499; omega⟩ ?_
  refine lv_istore (lv' := [(5, .int (iI v1)), (4, .ref ao), (0, .ref (a 0)), (1, .ref aa), (2, .ref ah), (3, .ref af)]) hx hb dL_areValues_12 hl (by decide) rfl (fun ls hl => ?_)
  refine lv_aload_n hx hb dL_areValues_14 rfl (lv_at hl 3 rfl) ?_
  refine lv_aload_n hx hb dL_areValues_15 rfl (lv_at hl 4 rfl) ?_
  refine xk_iconst hx hb dL_areValues_16 ?_
  refine xk_iconst hx hb dL_areValues_17 ?_
  obtain ⟨v2, ev2, hf⟩ := x_bind hf
  refine xf_sri (As := [.ref aa, .ref ah, .int (iI 2), .int (iI (-1))]) (rest := []) (wcs := ([[qcC cs aa 64 va], [qcC cs ah 8 vh]] : List va_W)) ⟨hx, hb, hml, hown, hts⟩ (kL_many l dC dI cs aa ah va vh 2 (-1) _ ev2) (va_cwS 4 hts gL_areValues_L_many rfl rfl rfl cdL_many ⟨Nat.le_of_ble_eq_true rfl, Nat.le_of_ble_eq_true rfl⟩) hK hP [0, 1] rfl rfl rfl hl.1 rfl (Nat.le_of_ble_eq_true rfl) dL_areValues_18 ⟨by show _ ≤ 84; omega, by show _ ≤ 499; omega⟩ ?_
  refine lv_istore (lv' := [(6, .int (iI v2)), (5, .int (iI v1)), (4, .ref ao), (0, .ref (a 0)), (1, .ref aa), (2, .ref ah), (3, .ref af)]) hx hb dL_areValues_21 hl (by decide) rfl (fun ls hl => ?_)
  refine xk_iconst hx hb dL_areValues_23 ?_
  refine lv_istore (lv' := [(7, .int (iI 0)), (6, .int (iI v2)), (5, .int (iI v1)), (4, .ref ao), (0, .ref (a 0)), (1, .ref aa), (2, .ref ah), (3, .ref af)]) hx hb dL_areValues_24 hl (by decide) rfl (fun ls hl => ?_)
  have hL26 : ∀ (n5 : Nat) (l7 : Int) (g3 : Int → Int) (y4 : BrS), fL_areValues_L26 va vh vf v1 v2 n5 l7 g3 y4 = some res → ∀ (cells slots : Nat), cells + n5 * 1 + 13 ≤ 84 ∧ slots + n5 * 6 + 78 ≤ 499 → ∀ (H : Heap) (locs : List Loc), va_P (dC, dI) vwCl (([[qcC cs aa 64 va], [qcC cs ah 8 vh], [qcC cs af 64 vf], [qcC cs ao 1 g3]] ++ w4 cs a y4).flatten) H → va_S (va_A (([[qcC cs aa 64 va], [qcC cs ah 8 vh], [qcC cs af 64 vf]] ++ w4 cs a y).flatten) s.heap.size) s.heap H locs → ∀ (ls : Array Slot), lv_has ls 8 [(0, .ref (a 0)), (1, .ref aa), (2, .ref ah), (3, .ref af), (4, .ref ao), (5, .int (iI v1)), (6, .int (iI v2)), (7, .int (iI l7))] → W p l e (headSpec wsL_areValues ({ frames := 8, cells := 84, slots := 499, locals := 126 } : Room)).room s m ([.ref (a 0), .ref aa, .ref ah, .ref af] : List Value).toArray below meth c H locs cells slots (MQ below (xQi (dC, dI) vwCl (([[qcC cs aa 64 va], [qcC cs ah 8 vh], [qcC cs af 64 vf]] ++ w4 cs a y).flatten) (([[qcC cs aa 64 va], [qcC cs ah 8 vh], [qcC cs af 64 vf]] ++ w4 cs a res.2).flatten) s.heap.size res.1) ([.ref (a 0), .ref aa, .ref ah, .ref af] : List Value).toArray s 84 499 (va_A (([[qcC cs aa 64 va], [qcC cs ah 8 vh], [qcC cs af 64 vf]] ++ w4 cs a y).flatten) s.heap.size)) (F0 m 26 ls []) := by
    intro  n5
    induction n5 with
    | zero => intro l7 g3 y4 hf; have hf : (none : Option (Int × BrS)) = some res := hf; cases hf
    | succ n5 ih26 =>
      intro l7 g3 y4 hf cells slots hcb H locs hP hS ls hl
      rw [fL_areValues_L26] at hf
      refine lv_iload hx hb dL_areValues_26 (lv_at hl 7 rfl) ?_
      refine lv_iload hx hb dL_areValues_28 (lv_at hl 6 rfl) ?_
      obtain ⟨c6a, c6b, c6t, c6f⟩ := x_ltE hf
      refine xk_icmp_ge (tgt := 68) hx hb c6a c6b dL_areValues_30 (by decide) (fun c6 => ?_) (fun c6 => ?_)
      · have hf := c6t c6
        refine lv_aload_n hx hb dL_areValues_33 rfl (lv_at hl 0 rfl) ?_
        refine lv_iload hx hb dL_areValues_34 (lv_at hl 7 rfl) ?_
        refine lv_aload hx hb dL_areValues_36 (lv_at hl 4 rfl) ?_
        obtain ⟨⟨v9, g7, y8⟩, ev9, hf⟩ := x_bind hf
        refine xf_sw (As := [.ref (a 0), .int (iI l7), .ref ao]) (rest := []) (wcs := [[qcC cs ao 1 g3]] ++ w4 cs a y4) (w1s := [[qcC cs ao 1 g7]] ++ w4 cs a y8) ⟨hx, hb, hml, hown, hts⟩ (kL_ashore l hlS dC dI cs ao a H.size g3 y4 l7 _ ev9) (vx_cwSW 3 hts gL_areValues_L_ashore rfl rfl rfl cdL_ashore ⟨Nat.le_of_ble_eq_true rfl, Nat.le_of_ble_eq_true rfl⟩) hK hP (x_addrF hD rfl) hS hA hTh hN [3, 4, 5, 6, 7, 8, 9, 10, 11, 12, 13] rfl rfl rfl (by decide) rfl rfl hl.1 rfl (Nat.le_of_ble_eq_true rfl) dL_areValues_38 ⟨by show _ ≤ 84; omega, by show _ ≤ 499; omega⟩ (fun H locs hP hS => ?_)
        have hP : va_P (dC, dI) vwCl (([[qcC cs aa 64 va], [qcC cs ah 8 vh], [qcC cs af 64 vf], [qcC cs ao 1 g7]] ++ w4 cs a y8).flatten) H := hP
        obtain ⟨c10a, c10b, c10t, c10f⟩ := x_eqE hf
        refine xk_if_ne (tgt := 60) hx hb c10a dL_areValues_41 (by decide) (fun c10 => ?_) (fun c10 => ?_)
        · have hf := c10t c10
          refine lv_aload hx hb dL_areValues_44 (lv_at hl 4 rfl) ?_
          refine xk_iconst hx hb dL_areValues_46 ?_
          obtain ⟨v11, ev11, hf⟩ := x_bind hf
          refine xk_iald (f := g7) hx hb hK hP 3 0 ev11 (by decide) rfl rfl dL_areValues_47 ?_
          refine lv_aload_n hx hb dL_areValues_48 rfl (lv_at hl 1 rfl) ?_
          refine lv_aload_n hx hb dL_areValues_49 rfl (lv_at hl 2 rfl) ?_
          refine xk_iconst hx hb dL_areValues_50 ?_
          refine xk_iconst hx hb dL_areValues_51 ?_
          refine lv_iload hx hb dL_areValues_52 (lv_at hl 7 rfl) ?_
          obtain ⟨v12, ev12, hf⟩ := x_bind hf
          refine xf_sri (As := [.ref aa, .ref ah, .int (iI 2), .int (iI (-1)), .int (iI l7)]) (rest := [.int (iI v11)]) (wcs := ([[qcC cs aa 64 va], [qcC cs ah 8 vh]] : List va_W)) ⟨hx, hb, hml, hown, hts⟩ (kL_ranked l dC dI cs aa ah va vh 2 (-1) l7 _ ev12) (va_cwS 5 hts gL_areValues_L_ranked rfl rfl rfl cdL_ranked ⟨Nat.le_of_ble_eq_true rfl, Nat.le_of_ble_eq_true rfl⟩) hK hP [0, 1] rfl rfl rfl hl.1 rfl (Nat.le_of_ble_eq_true rfl) dL_areValues_54 ⟨by show _ ≤ 84; omega, by show _ ≤ 499; omega⟩ ?_
          obtain ⟨c13a, c13b, c13t, c13f⟩ := x_eqE hf
          refine xk_icmp_eq (tgt := 62) hx hb c13a c13b dL_areValues_57 (by decide) (fun c13 => ?_) (fun c13 => ?_)
          · have hf := c13t c13
            refine xk_iinc (lv' := [(7, .int (iI (l7 + 1))), (0, .ref (a 0)), (1, .ref aa), (2, .ref ah), (3, .ref af), (4, .ref ao), (5, .int (iI v1)), (6, .int (iI v2))]) hx hb dL_areValues_62 hl (k := 7) rfl (by decide) rfl (fun ls hl => ?_)
            refine lv_goto (tgt := 26) hx hb dL_areValues_65 (by decide) ?_
            exact ih26 (l7 + 1) g7 y8 hf _ _ ⟨by omega, by omega⟩ _ _ hP hS ls (lv_sub hl [1, 2, 3, 4, 5, 6, 7, 0] rfl)
          · have hf := c13f c13
            refine xk_iconst hx hb dL_areValues_60 ?_
            obtain rfl := Option.some.inj hf
            refine W.widen (k := 84) (n := 499) (by omega) (by omega) ?_
            have hP : va_P (dC, dI) vwCl (([[qcC cs aa 64 va], [qcC cs ah 8 vh], [qcC cs af 64 vf]] ++ w4 cs a y8).flatten) H := hP.sub (ws' := ([[qcC cs aa 64 va], [qcC cs ah 8 vh], [qcC cs af 64 vf]] ++ w4 cs a y8).flatten) [0, 1, 2, 4, 5, 6, 7, 8, 9, 10, 11, 12, 13, 14, 15, 16, 17, 18, 19, 20, 21, 22, 23, 24, 25, 26, 27, 28, 29, 30, 31, 32, 33, 34, 35, 36, 37, 38, 39, 40, 41, 42, 43, 44, 45, 46, 47, 48, 49, 50, 51, 52, 53, 54, 55, 56, 57, 58, 59, 60, 61, 62, 63, 64, 65, 66, 67, 68, 69, 70, 71, 72, 73, 74, 75, 76, 77, 78, 79, 80, 81, 82, 83, 84, 85, 86, 87, 88, 89, 90, 91, 92, 93, 94, 95, 96, 97, 98, 99, 100, 101, 102, 103, 104, 105] rfl
            exact xe_wz hx hb hr (Or.inl rfl) hlocks hS hP dL_areValues_61
        · have hf := c10f c10
          refine xk_iconst hx hb dL_areValues_60 ?_
          obtain rfl := Option.some.inj hf
          refine W.widen (k := 84) (n := 499) (by omega) (by omega) ?_
          have hP : va_P (dC, dI) vwCl (([[qcC cs aa 64 va], [qcC cs ah 8 vh], [qcC cs af 64 vf]] ++ w4 cs a y8).flatten) H := hP.sub (ws' := ([[qcC cs aa 64 va], [qcC cs ah 8 vh], [qcC cs af 64 vf]] ++ w4 cs a y8).flatten) [0, 1, 2, 4, 5, 6, 7, 8, 9, 10, 11, 12, 13, 14, 15, 16, 17, 18, 19, 20, 21, 22, 23, 24, 25, 26, 27, 28, 29, 30, 31, 32, 33, 34, 35, 36, 37, 38, 39, 40, 41, 42, 43, 44, 45, 46, 47, 48, 49, 50, 51, 52, 53, 54, 55, 56, 57, 58, 59, 60, 61, 62, 63, 64, 65, 66, 67, 68, 69, 70, 71, 72, 73, 74, 75, 76, 77, 78, 79, 80, 81, 82, 83, 84, 85, 86, 87, 88, 89, 90, 91, 92, 93, 94, 95, 96, 97, 98, 99, 100, 101, 102, 103, 104, 105] rfl
          exact xe_wz hx hb hr (Or.inl rfl) hlocks hS hP dL_areValues_61
      · have hf := c6f c6
        refine lv_aload_n hx hb dL_areValues_68 rfl (lv_at hl 0 rfl) ?_
        refine lv_iload hx hb dL_areValues_69 (lv_at hl 6 rfl) ?_
        refine lv_aload hx hb dL_areValues_71 (lv_at hl 4 rfl) ?_
        obtain ⟨⟨v16, g14, y15⟩, ev16, hf⟩ := x_bind hf
        refine xf_sw (As := [.ref (a 0), .int (iI v2), .ref ao]) (rest := []) (wcs := [[qcC cs ao 1 g3]] ++ w4 cs a y4) (w1s := [[qcC cs ao 1 g14]] ++ w4 cs a y15) ⟨hx, hb, hml, hown, hts⟩ (kL_ashore l hlS dC dI cs ao a H.size g3 y4 v2 _ ev16) (vx_cwSW 3 hts gL_areValues_L_ashore rfl rfl rfl cdL_ashore ⟨Nat.le_of_ble_eq_true rfl, Nat.le_of_ble_eq_true rfl⟩) hK hP (x_addrF hD rfl) hS hA hTh hN [3, 4, 5, 6, 7, 8, 9, 10, 11, 12, 13] rfl rfl rfl (by decide) rfl rfl hl.1 rfl (Nat.le_of_ble_eq_true rfl) dL_areValues_73 ⟨by show _ ≤ 84; omega, by show _ ≤ 499; omega⟩ (fun H locs hP hS => ?_)
        have hP : va_P (dC, dI) vwCl (([[qcC cs aa 64 va], [qcC cs ah 8 vh], [qcC cs af 64 vf], [qcC cs ao 1 g14]] ++ w4 cs a y15).flatten) H := hP
        refine xk_iconst hx hb dL_areValues_76 ?_
        obtain ⟨c17a, c17b, c17t, c17f⟩ := x_eqE hf
        refine xk_icmp_ne (tgt := 146) hx hb c17a c17b dL_areValues_77 (by decide) (fun c17 => ?_) (fun c17 => ?_)
        · have hf := c17t c17
          refine lv_aload_n hx hb dL_areValues_80 rfl (lv_at hl 0 rfl) ?_
          refine xk_iconst hx hb dL_areValues_81 ?_
          obtain ⟨⟨c20, v18, y19⟩, ev18, hf⟩ := x_bind hf
          obtain ⟨zc20, hf⟩ := x_zrE hf
          refine xf_xi (As := [.int (iI 0)]) (rest := []) (wcs := w4 cs a y15) (w1s := w4 cs a y19) ⟨hx, hb, hml, hown, hts⟩ (c4_value l hlS dC dI cs a _ y15 0 _ ev18) (cwV 1 hts gL_areValues_X4_value rfl rfl rfl cdX4_value ⟨Nat.le_of_ble_eq_true rfl, Nat.le_of_ble_eq_true rfl⟩) hK hP (x_addrF hD rfl) hS hA hTh [4, 5, 6, 7, 8, 9, 10, 11, 12, 13] rfl rfl rfl (by decide) rfl rfl rfl rfl hl.1 rfl (Nat.le_of_ble_eq_true rfl) dL_areValues_82 ⟨by show _ ≤ 84; omega, by show _ ≤ 499; omega⟩ (fun _ H locs hP hS => ?_) (fun hk => absurd zc20 hk)
          have hP : va_P (dC, dI) vwCl (([[qcC cs aa 64 va], [qcC cs ah 8 vh], [qcC cs af 64 vf], [qcC cs ao 1 g14]] ++ w4 cs a y19).flatten) H := hP
          refine lv_aload_n hx hb dL_areValues_85 rfl (lv_at hl 2 rfl) ?_
          refine xk_iconst hx hb dL_areValues_86 ?_
          obtain ⟨v21, ev21, hf⟩ := x_bind hf
          refine xk_iald (f := vh) hx hb hK hP 1 0 ev21 (by decide) rfl rfl dL_areValues_87 ?_
          obtain ⟨c22a, c22b, c22t, c22f⟩ := x_eqE hf
          refine xk_icmp_ne (tgt := 146) hx hb c22a c22b dL_areValues_88 (by decide) (fun c22 => ?_) (fun c22 => ?_)
          · have hf := c22t c22
            refine lv_aload_n hx hb dL_areValues_91 rfl (lv_at hl 0 rfl) ?_
            refine xk_iconst hx hb dL_areValues_92 ?_
            obtain ⟨⟨c25, v23, y24⟩, ev23, hf⟩ := x_bind hf
            obtain ⟨zc25, hf⟩ := x_zrE hf
            refine xf_xi (As := [.int (iI 1)]) (rest := []) (wcs := w4 cs a y19) (w1s := w4 cs a y24) ⟨hx, hb, hml, hown, hts⟩ (c4_value l hlS dC dI cs a _ y19 1 _ ev23) (cwV 1 hts gL_areValues_X4_value rfl rfl rfl cdX4_value ⟨Nat.le_of_ble_eq_true rfl, Nat.le_of_ble_eq_true rfl⟩) hK hP (x_addrF hD rfl) hS hA hTh [4, 5, 6, 7, 8, 9, 10, 11, 12, 13] rfl rfl rfl (by decide) rfl rfl rfl rfl hl.1 rfl (Nat.le_of_ble_eq_true rfl) dL_areValues_93 ⟨by show _ ≤ 84; omega, by show _ ≤ 499; omega⟩ (fun _ H locs hP hS => ?_) (fun hk => absurd zc25 hk)
            have hP : va_P (dC, dI) vwCl (([[qcC cs aa 64 va], [qcC cs ah 8 vh], [qcC cs af 64 vf], [qcC cs ao 1 g14]] ++ w4 cs a y24).flatten) H := hP
            refine lv_iload hx hb dL_areValues_96 (lv_at hl 5 rfl) ?_
            obtain ⟨c26a, c26b, c26t, c26f⟩ := x_eqE hf
            refine xk_icmp_ne (tgt := 146) hx hb c26a c26b dL_areValues_98 (by decide) (fun c26 => ?_) (fun c26 => ?_)
            · have hf := c26t c26
              refine lv_aload_n hx hb dL_areValues_101 rfl (lv_at hl 0 rfl) ?_
              refine xk_iconst hx hb dL_areValues_102 ?_
              obtain ⟨⟨c29, v27, y28⟩, ev27, hf⟩ := x_bind hf
              obtain ⟨zc29, hf⟩ := x_zrE hf
              refine xf_xi (As := [.int (iI 2)]) (rest := []) (wcs := w4 cs a y24) (w1s := w4 cs a y28) ⟨hx, hb, hml, hown, hts⟩ (c4_value l hlS dC dI cs a _ y24 2 _ ev27) (cwV 1 hts gL_areValues_X4_value rfl rfl rfl cdX4_value ⟨Nat.le_of_ble_eq_true rfl, Nat.le_of_ble_eq_true rfl⟩) hK hP (x_addrF hD rfl) hS hA hTh [4, 5, 6, 7, 8, 9, 10, 11, 12, 13] rfl rfl rfl (by decide) rfl rfl rfl rfl hl.1 rfl (Nat.le_of_ble_eq_true rfl) dL_areValues_103 ⟨by show _ ≤ 84; omega, by show _ ≤ 499; omega⟩ (fun _ H locs hP hS => ?_) (fun hk => absurd zc29 hk)
              have hP : va_P (dC, dI) vwCl (([[qcC cs aa 64 va], [qcC cs ah 8 vh], [qcC cs af 64 vf], [qcC cs ao 1 g14]] ++ w4 cs a y28).flatten) H := hP
              refine lv_aload_n hx hb dL_areValues_106 rfl (lv_at hl 2 rfl) ?_
              refine xk_iconst hx hb dL_areValues_107 ?_
              obtain ⟨v30, ev30, hf⟩ := x_bind hf
              refine xk_iald (f := vh) hx hb hK hP 1 0 ev30 (by decide) rfl rfl dL_areValues_108 ?_
              obtain ⟨c31a, c31b, c31t, c31f⟩ := x_eqE hf
              refine xk_icmp_ne (tgt := 146) hx hb c31a c31b dL_areValues_109 (by decide) (fun c31 => ?_) (fun c31 => ?_)
              · have hf := c31t c31
                refine lv_aload_n hx hb dL_areValues_112 rfl (lv_at hl 0 rfl) ?_
                refine xk_iconst hx hb dL_areValues_113 ?_
                obtain ⟨⟨c34, v32, y33⟩, ev32, hf⟩ := x_bind hf
                obtain ⟨zc34, hf⟩ := x_zrE hf
                refine xf_xi (As := [.int (iI 3)]) (rest := []) (wcs := w4 cs a y28) (w1s := w4 cs a y33) ⟨hx, hb, hml, hown, hts⟩ (c4_value l hlS dC dI cs a _ y28 3 _ ev32) (cwV 1 hts gL_areValues_X4_value rfl rfl rfl cdX4_value ⟨Nat.le_of_ble_eq_true rfl, Nat.le_of_ble_eq_true rfl⟩) hK hP (x_addrF hD rfl) hS hA hTh [4, 5, 6, 7, 8, 9, 10, 11, 12, 13] rfl rfl rfl (by decide) rfl rfl rfl rfl hl.1 rfl (Nat.le_of_ble_eq_true rfl) dL_areValues_114 ⟨by show _ ≤ 84; omega, by show _ ≤ 499; omega⟩ (fun _ H locs hP hS => ?_) (fun hk => absurd zc34 hk)
                have hP : va_P (dC, dI) vwCl (([[qcC cs aa 64 va], [qcC cs ah 8 vh], [qcC cs af 64 vf], [qcC cs ao 1 g14]] ++ w4 cs a y33).flatten) H := hP
                refine lv_aload_n hx hb dL_areValues_117 rfl (lv_at hl 2 rfl) ?_
                refine lv_aload_n hx hb dL_areValues_118 rfl (lv_at hl 3 rfl) ?_
                obtain ⟨v35, ev35, hf⟩ := x_bind hf
                refine xf_sri (As := [.ref ah, .ref af]) (rest := [.int (iI v32)]) (wcs := ([[qcC cs ah 8 vh], [qcC cs af 64 vf]] : List va_W)) ⟨hx, hb, hml, hown, hts⟩ (kL_runs l dC dI cs ah af vh vf _ ev35) (va_cwS 2 hts gL_areValues_L_runs rfl rfl rfl cdL_runs ⟨Nat.le_of_ble_eq_true rfl, Nat.le_of_ble_eq_true rfl⟩) hK hP [1, 2] rfl rfl rfl hl.1 rfl (Nat.le_of_ble_eq_true rfl) dL_areValues_119 ⟨by show _ ≤ 84; omega, by show _ ≤ 499; omega⟩ ?_
                obtain ⟨c36a, c36b, c36t, c36f⟩ := x_eqE hf
                refine xk_icmp_ne (tgt := 146) hx hb c36a c36b dL_areValues_122 (by decide) (fun c36 => ?_) (fun c36 => ?_)
                · have hf := c36t c36
                  refine lv_aload_n hx hb dL_areValues_125 rfl (lv_at hl 0 rfl) ?_
                  refine xk_iconst hx hb dL_areValues_126 ?_
                  obtain ⟨⟨c39, v37, y38⟩, ev37, hf⟩ := x_bind hf
                  obtain ⟨zc39, hf⟩ := x_zrE hf
                  refine xf_xi (As := [.int (iI 4)]) (rest := []) (wcs := w4 cs a y33) (w1s := w4 cs a y38) ⟨hx, hb, hml, hown, hts⟩ (c4_value l hlS dC dI cs a _ y33 4 _ ev37) (cwV 1 hts gL_areValues_X4_value rfl rfl rfl cdX4_value ⟨Nat.le_of_ble_eq_true rfl, Nat.le_of_ble_eq_true rfl⟩) hK hP (x_addrF hD rfl) hS hA hTh [4, 5, 6, 7, 8, 9, 10, 11, 12, 13] rfl rfl rfl (by decide) rfl rfl rfl rfl hl.1 rfl (Nat.le_of_ble_eq_true rfl) dL_areValues_127 ⟨by show _ ≤ 84; omega, by show _ ≤ 499; omega⟩ (fun _ H locs hP hS => ?_) (fun hk => absurd zc39 hk)
                  have hP : va_P (dC, dI) vwCl (([[qcC cs aa 64 va], [qcC cs ah 8 vh], [qcC cs af 64 vf], [qcC cs ao 1 g14]] ++ w4 cs a y38).flatten) H := hP
                  refine lv_aload_n hx hb dL_areValues_130 rfl (lv_at hl 2 rfl) ?_
                  refine xk_iconst hx hb dL_areValues_131 ?_
                  obtain ⟨v40, ev40, hf⟩ := x_bind hf
                  refine xk_iald (f := vh) hx hb hK hP 1 0 ev40 (by decide) rfl rfl dL_areValues_132 ?_
                  refine lv_iload hx hb dL_areValues_133 (lv_at hl 5 rfl) ?_
                  refine xk_isub hx hb dL_areValues_135 ?_
                  refine lv_iload hx hb dL_areValues_136 (lv_at hl 6 rfl) ?_
                  refine xk_isub hx hb dL_areValues_138 ?_
                  obtain ⟨c41a, c41b, c41t, c41f⟩ := x_eqE hf
                  refine xk_icmp_ne (tgt := 146) hx hb c41a c41b dL_areValues_139 (by decide) (fun c41 => ?_) (fun c41 => ?_)
                  · have hf := c41t c41
                    refine xk_iconst hx hb dL_areValues_142 ?_
                    refine lv_goto (tgt := 147) hx hb dL_areValues_143 (by decide) ?_
                    refine lv_istore (lv' := [(7, .int (iI 1)), (0, .ref (a 0)), (1, .ref aa), (2, .ref ah), (3, .ref af), (4, .ref ao), (5, .int (iI v1)), (6, .int (iI v2))]) hx hb dL_areValues_147 hl (by decide) rfl (fun ls hl => ?_)
                    refine lv_iload hx hb dL_areValues_149 (lv_at hl 0 rfl) ?_
                    refine xk_if_eq (tgt := 242) hx hb (by decide) dL_areValues_151 (by decide) (fun c42 => ?_) (fun c42 => ?_)
                    · exact absurd c42 (by decide)
                    · refine lv_aload_n hx hb dL_areValues_154 rfl (lv_at hl 1 rfl) ?_
                      refine xk_iconst hx hb dL_areValues_155 ?_
                      obtain ⟨⟨c45, v43, y44⟩, ev43, hf⟩ := x_bind hf
                      obtain ⟨zc45, hf⟩ := x_zrE hf
                      refine xf_xi (As := [.int (iI 5)]) (rest := []) (wcs := w4 cs a y38) (w1s := w4 cs a y44) ⟨hx, hb, hml, hown, hts⟩ (c4_value l hlS dC dI cs a _ y38 5 _ ev43) (cwV 1 hts gL_areValues_X4_value rfl rfl rfl cdX4_value ⟨Nat.le_of_ble_eq_true rfl, Nat.le_of_ble_eq_true rfl⟩) hK hP (x_addrF hD rfl) hS hA hTh [4, 5, 6, 7, 8, 9, 10, 11, 12, 13] rfl rfl rfl (by decide) rfl rfl rfl rfl hl.1 rfl (Nat.le_of_ble_eq_true rfl) dL_areValues_156 ⟨by show _ ≤ 84; omega, by show _ ≤ 499; omega⟩ (fun _ H locs hP hS => ?_) (fun hk => absurd zc45 hk)
                      have hP : va_P (dC, dI) vwCl (([[qcC cs aa 64 va], [qcC cs ah 8 vh], [qcC cs af 64 vf], [qcC cs ao 1 g14]] ++ w4 cs a y44).flatten) H := hP
                      refine lv_iload hx hb dL_areValues_159 (lv_at hl 7 rfl) ?_
                      obtain ⟨c46a, c46b, c46t, c46f⟩ := x_eqE hf
                      refine xk_icmp_ne (tgt := 242) hx hb c46a c46b dL_areValues_161 (by decide) (fun c46 => ?_) (fun c46 => ?_)
                      · have hf := c46t c46
                        refine lv_aload_n hx hb dL_areValues_164 rfl (lv_at hl 1 rfl) ?_
                        refine xk_bipush hx hb dL_areValues_165 (by decide) ?_
                        obtain ⟨⟨c49, v47, y48⟩, ev47, hf⟩ := x_bind hf
                        obtain ⟨zc49, hf⟩ := x_zrE hf
                        refine xf_xi (As := [.int (iI 6)]) (rest := []) (wcs := w4 cs a y44) (w1s := w4 cs a y48) ⟨hx, hb, hml, hown, hts⟩ (c4_value l hlS dC dI cs a _ y44 6 _ ev47) (cwV 1 hts gL_areValues_X4_value rfl rfl rfl cdX4_value ⟨Nat.le_of_ble_eq_true rfl, Nat.le_of_ble_eq_true rfl⟩) hK hP (x_addrF hD rfl) hS hA hTh [4, 5, 6, 7, 8, 9, 10, 11, 12, 13] rfl rfl rfl (by decide) rfl rfl rfl rfl hl.1 rfl (Nat.le_of_ble_eq_true rfl) dL_areValues_167 ⟨by show _ ≤ 84; omega, by show _ ≤ 499; omega⟩ (fun _ H locs hP hS => ?_) (fun hk => absurd zc49 hk)
                        have hP : va_P (dC, dI) vwCl (([[qcC cs aa 64 va], [qcC cs ah 8 vh], [qcC cs af 64 vf], [qcC cs ao 1 g14]] ++ w4 cs a y48).flatten) H := hP
                        refine lv_aload_n hx hb dL_areValues_170 rfl (lv_at hl 3 rfl) ?_
                        refine xk_iconst hx hb dL_areValues_171 ?_
                        obtain ⟨v50, ev50, hf⟩ := x_bind hf
                        refine xk_iald (f := vh) hx hb hK hP 1 0 ev50 (by decide) rfl rfl dL_areValues_172 ?_
                        obtain ⟨c51a, c51b, c51t, c51f⟩ := x_eqE hf
                        refine xk_icmp_ne (tgt := 242) hx hb c51a c51b dL_areValues_173 (by decide) (fun c51 => ?_) (fun c51 => ?_)
                        · have hf := c51t c51
                          refine lv_aload_n hx hb dL_areValues_176 rfl (lv_at hl 1 rfl) ?_
                          refine xk_bipush hx hb dL_areValues_177 (by decide) ?_
                          obtain ⟨⟨c54, v52, y53⟩, ev52, hf⟩ := x_bind hf
                          obtain ⟨zc54, hf⟩ := x_zrE hf
                          refine xf_xi (As := [.int (iI 7)]) (rest := []) (wcs := w4 cs a y48) (w1s := w4 cs a y53) ⟨hx, hb, hml, hown, hts⟩ (c4_value l hlS dC dI cs a _ y48 7 _ ev52) (cwV 1 hts gL_areValues_X4_value rfl rfl rfl cdX4_value ⟨Nat.le_of_ble_eq_true rfl, Nat.le_of_ble_eq_true rfl⟩) hK hP (x_addrF hD rfl) hS hA hTh [4, 5, 6, 7, 8, 9, 10, 11, 12, 13] rfl rfl rfl (by decide) rfl rfl rfl rfl hl.1 rfl (Nat.le_of_ble_eq_true rfl) dL_areValues_179 ⟨by show _ ≤ 84; omega, by show _ ≤ 499; omega⟩ (fun _ H locs hP hS => ?_) (fun hk => absurd zc54 hk)
                          have hP : va_P (dC, dI) vwCl (([[qcC cs aa 64 va], [qcC cs ah 8 vh], [qcC cs af 64 vf], [qcC cs ao 1 g14]] ++ w4 cs a y53).flatten) H := hP
                          refine lv_aload_n hx hb dL_areValues_182 rfl (lv_at hl 3 rfl) ?_
                          refine xk_iconst hx hb dL_areValues_183 ?_
                          obtain ⟨v55, ev55, hf⟩ := x_bind hf
                          refine xk_iald (f := vh) hx hb hK hP 1 0 ev55 (by decide) rfl rfl dL_areValues_184 ?_
                          obtain ⟨c56a, c56b, c56t, c56f⟩ := x_eqE hf
                          refine xk_icmp_ne (tgt := 242) hx hb c56a c56b dL_areValues_185 (by decide) (fun c56 => ?_) (fun c56 => ?_)
                          · have hf := c56t c56
                            refine lv_aload_n hx hb dL_areValues_188 rfl (lv_at hl 1 rfl) ?_
                            refine xk_bipush hx hb dL_areValues_189 (by decide) ?_
                            obtain ⟨⟨c59, v57, y58⟩, ev57, hf⟩ := x_bind hf
                            obtain ⟨zc59, hf⟩ := x_zrE hf
                            refine xf_xi (As := [.int (iI 8)]) (rest := []) (wcs := w4 cs a y53) (w1s := w4 cs a y58) ⟨hx, hb, hml, hown, hts⟩ (c4_value l hlS dC dI cs a _ y53 8 _ ev57) (cwV 1 hts gL_areValues_X4_value rfl rfl rfl cdX4_value ⟨Nat.le_of_ble_eq_true rfl, Nat.le_of_ble_eq_true rfl⟩) hK hP (x_addrF hD rfl) hS hA hTh [4, 5, 6, 7, 8, 9, 10, 11, 12, 13] rfl rfl rfl (by decide) rfl rfl rfl rfl hl.1 rfl (Nat.le_of_ble_eq_true rfl) dL_areValues_191 ⟨by show _ ≤ 84; omega, by show _ ≤ 499; omega⟩ (fun _ H locs hP hS => ?_) (fun hk => absurd zc59 hk)
                            have hP : va_P (dC, dI) vwCl (([[qcC cs aa 64 va], [qcC cs ah 8 vh], [qcC cs af 64 vf], [qcC cs ao 1 g14]] ++ w4 cs a y58).flatten) H := hP
                            refine lv_aload_n hx hb dL_areValues_194 rfl (lv_at hl 3 rfl) ?_
                            refine xk_bipush hx hb dL_areValues_195 (by decide) ?_
                            obtain ⟨v60, ev60, hf⟩ := x_bind hf
                            refine xk_iald (f := vh) hx hb hK hP 1 0 ev60 (by decide) rfl rfl dL_areValues_197 ?_
                            obtain ⟨c61a, c61b, c61t, c61f⟩ := x_eqE hf
                            refine xk_icmp_ne (tgt := 242) hx hb c61a c61b dL_areValues_198 (by decide) (fun c61 => ?_) (fun c61 => ?_)
                            · have hf := c61t c61
                              refine lv_aload_n hx hb dL_areValues_201 rfl (lv_at hl 1 rfl) ?_
                              refine xk_bipush hx hb dL_areValues_202 (by decide) ?_
                              obtain ⟨⟨c64, v62, y63⟩, ev62, hf⟩ := x_bind hf
                              obtain ⟨zc64, hf⟩ := x_zrE hf
                              refine xf_xi (As := [.int (iI 9)]) (rest := []) (wcs := w4 cs a y58) (w1s := w4 cs a y63) ⟨hx, hb, hml, hown, hts⟩ (c4_value l hlS dC dI cs a _ y58 9 _ ev62) (cwV 1 hts gL_areValues_X4_value rfl rfl rfl cdX4_value ⟨Nat.le_of_ble_eq_true rfl, Nat.le_of_ble_eq_true rfl⟩) hK hP (x_addrF hD rfl) hS hA hTh [4, 5, 6, 7, 8, 9, 10, 11, 12, 13] rfl rfl rfl (by decide) rfl rfl rfl rfl hl.1 rfl (Nat.le_of_ble_eq_true rfl) dL_areValues_204 ⟨by show _ ≤ 84; omega, by show _ ≤ 499; omega⟩ (fun _ H locs hP hS => ?_) (fun hk => absurd zc64 hk)
                              have hP : va_P (dC, dI) vwCl (([[qcC cs aa 64 va], [qcC cs ah 8 vh], [qcC cs af 64 vf], [qcC cs ao 1 g14]] ++ w4 cs a y63).flatten) H := hP
                              refine lv_aload_n hx hb dL_areValues_207 rfl (lv_at hl 3 rfl) ?_
                              refine xk_bipush hx hb dL_areValues_208 (by decide) ?_
                              obtain ⟨v65, ev65, hf⟩ := x_bind hf
                              refine xk_iald (f := vh) hx hb hK hP 1 0 ev65 (by decide) rfl rfl dL_areValues_210 ?_
                              obtain ⟨c66a, c66b, c66t, c66f⟩ := x_eqE hf
                              refine xk_icmp_ne (tgt := 242) hx hb c66a c66b dL_areValues_211 (by decide) (fun c66 => ?_) (fun c66 => ?_)
                              · have hf := c66t c66
                                refine lv_aload_n hx hb dL_areValues_214 rfl (lv_at hl 1 rfl) ?_
                                refine xk_bipush hx hb dL_areValues_215 (by decide) ?_
                                obtain ⟨⟨c69, v67, y68⟩, ev67, hf⟩ := x_bind hf
                                obtain ⟨zc69, hf⟩ := x_zrE hf
                                refine xf_xi (As := [.int (iI 10)]) (rest := []) (wcs := w4 cs a y63) (w1s := w4 cs a y68) ⟨hx, hb, hml, hown, hts⟩ (c4_value l hlS dC dI cs a _ y63 10 _ ev67) (cwV 1 hts gL_areValues_X4_value rfl rfl rfl cdX4_value ⟨Nat.le_of_ble_eq_true rfl, Nat.le_of_ble_eq_true rfl⟩) hK hP (x_addrF hD rfl) hS hA hTh [4, 5, 6, 7, 8, 9, 10, 11, 12, 13] rfl rfl rfl (by decide) rfl rfl rfl rfl hl.1 rfl (Nat.le_of_ble_eq_true rfl) dL_areValues_217 ⟨by show _ ≤ 84; omega, by show _ ≤ 499; omega⟩ (fun _ H locs hP hS => ?_) (fun hk => absurd zc69 hk)
                                have hP : va_P (dC, dI) vwCl (([[qcC cs aa 64 va], [qcC cs ah 8 vh], [qcC cs af 64 vf], [qcC cs ao 1 g14]] ++ w4 cs a y68).flatten) H := hP
                                refine lv_aload_n hx hb dL_areValues_220 rfl (lv_at hl 3 rfl) ?_
                                refine xk_iconst hx hb dL_areValues_221 ?_
                                obtain ⟨v70, ev70, hf⟩ := x_bind hf
                                refine xk_iald (f := vh) hx hb hK hP 1 0 ev70 (by decide) rfl rfl dL_areValues_222 ?_
                                obtain ⟨c71a, c71b, c71t, c71f⟩ := x_eqE hf
                                refine xk_icmp_ne (tgt := 242) hx hb c71a c71b dL_areValues_223 (by decide) (fun c71 => ?_) (fun c71 => ?_)
                                · have hf := c71t c71
                                  refine lv_aload_n hx hb dL_areValues_226 rfl (lv_at hl 1 rfl) ?_
                                  refine xk_bipush hx hb dL_areValues_227 (by decide) ?_
                                  obtain ⟨⟨c74, v72, y73⟩, ev72, hf⟩ := x_bind hf
                                  obtain ⟨zc74, hf⟩ := x_zrE hf
                                  refine xf_xi (As := [.int (iI 11)]) (rest := []) (wcs := w4 cs a y68) (w1s := w4 cs a y73) ⟨hx, hb, hml, hown, hts⟩ (c4_value l hlS dC dI cs a _ y68 11 _ ev72) (cwV 1 hts gL_areValues_X4_value rfl rfl rfl cdX4_value ⟨Nat.le_of_ble_eq_true rfl, Nat.le_of_ble_eq_true rfl⟩) hK hP (x_addrF hD rfl) hS hA hTh [4, 5, 6, 7, 8, 9, 10, 11, 12, 13] rfl rfl rfl (by decide) rfl rfl rfl rfl hl.1 rfl (Nat.le_of_ble_eq_true rfl) dL_areValues_229 ⟨by show _ ≤ 84; omega, by show _ ≤ 499; omega⟩ (fun _ H locs hP hS => ?_) (fun hk => absurd zc74 hk)
                                  have hP : va_P (dC, dI) vwCl (([[qcC cs aa 64 va], [qcC cs ah 8 vh], [qcC cs af 64 vf], [qcC cs ao 1 g14]] ++ w4 cs a y73).flatten) H := hP
                                  refine lv_aload_n hx hb dL_areValues_232 rfl (lv_at hl 3 rfl) ?_
                                  refine xk_iconst hx hb dL_areValues_233 ?_
                                  obtain ⟨v75, ev75, hf⟩ := x_bind hf
                                  refine xk_iald (f := vh) hx hb hK hP 1 0 ev75 (by decide) rfl rfl dL_areValues_234 ?_
                                  obtain ⟨c76a, c76b, c76t, c76f⟩ := x_eqE hf
                                  refine xk_icmp_ne (tgt := 242) hx hb c76a c76b dL_areValues_235 (by decide) (fun c76 => ?_) (fun c76 => ?_)
                                  · have hf := c76t c76
                                    refine xk_iconst hx hb dL_areValues_238 ?_
                                    refine lv_goto (tgt := 243) hx hb dL_areValues_239 (by decide) ?_
                                    refine lv_istore (lv' := [(7, .int (iI 1)), (0, .ref (a 0)), (1, .ref aa), (2, .ref ah), (3, .ref af), (4, .ref ao), (5, .int (iI v1)), (6, .int (iI v2))]) hx hb dL_areValues_243 hl (by decide) rfl (fun ls hl => ?_)
                                    refine lv_iload hx hb dL_areValues_245 (lv_at hl 0 rfl) ?_
                                    refine xk_if_eq (tgt := 266) hx hb (by decide) dL_areValues_247 (by decide) (fun c77 => ?_) (fun c77 => ?_)
                                    · exact absurd c77 (by decide)
                                    · refine lv_aload_n hx hb dL_areValues_250 rfl (lv_at hl 1 rfl) ?_
                                      obtain ⟨v78, ev78, hf⟩ := x_bind hf
                                      refine xf_ri (As := []) (rest := []) (wcs := w4 cs a y73) ⟨hx, hb, hml, hown, hts⟩ (c4_nextThrown l dC dI cs a y73 _ ev78) (cwV 0 hts gL_areValues_X4_nextThrown rfl rfl rfl cdX4_nextThrown ⟨Nat.le_of_ble_eq_true rfl, Nat.le_of_ble_eq_true rfl⟩) hK hP [4, 5, 6, 7, 8, 9, 10, 11, 12, 13] rfl rfl rfl rfl rfl hl.1 rfl (Nat.le_of_ble_eq_true rfl) dL_areValues_251 ⟨by show _ ≤ 84; omega, by show _ ≤ 499; omega⟩ ?_
                                      refine lv_aload_n hx hb dL_areValues_254 rfl (lv_at hl 2 rfl) ?_
                                      refine lv_aload_n hx hb dL_areValues_255 rfl (lv_at hl 3 rfl) ?_
                                      obtain ⟨v79, ev79, hf⟩ := x_bind hf
                                      refine xf_sri (As := [.ref aa, .ref ah]) (rest := [.int (iI v78)]) (wcs := ([[qcC cs aa 64 va], [qcC cs ah 8 vh]] : List va_W)) ⟨hx, hb, hml, hown, hts⟩ (kL_next l dC dI cs aa ah va vh _ ev79) (va_cwS 2 hts gL_areValues_L_next rfl rfl rfl cdL_next ⟨Nat.le_of_ble_eq_true rfl, Nat.le_of_ble_eq_true rfl⟩) hK hP [0, 1] rfl rfl rfl hl.1 rfl (Nat.le_of_ble_eq_true rfl) dL_areValues_256 ⟨by show _ ≤ 84; omega, by show _ ≤ 499; omega⟩ ?_
                                      obtain ⟨c80a, c80b, c80t, c80f⟩ := x_eqE hf
                                      refine xk_icmp_ne (tgt := 266) hx hb c80a c80b dL_areValues_259 (by decide) (fun c80 => ?_) (fun c80 => ?_)
                                      · have hf := c80t c80
                                        refine xk_iconst hx hb dL_areValues_262 ?_
                                        refine lv_goto (tgt := 267) hx hb dL_areValues_263 (by decide) ?_
                                        obtain rfl := Option.some.inj hf
                                        refine W.widen (k := 84) (n := 499) (by omega) (by omega) ?_
                                        have hP : va_P (dC, dI) vwCl (([[qcC cs aa 64 va], [qcC cs ah 8 vh], [qcC cs af 64 vf]] ++ w4 cs a y73).flatten) H := hP.sub (ws' := ([[qcC cs aa 64 va], [qcC cs ah 8 vh], [qcC cs af 64 vf]] ++ w4 cs a y73).flatten) [0, 1, 2, 4, 5, 6, 7, 8, 9, 10, 11, 12, 13, 14, 15, 16, 17, 18, 19, 20, 21, 22, 23, 24, 25, 26, 27, 28, 29, 30, 31, 32, 33, 34, 35, 36, 37, 38, 39, 40, 41, 42, 43, 44, 45, 46, 47, 48, 49, 50, 51, 52, 53, 54, 55, 56, 57, 58, 59, 60, 61, 62, 63, 64, 65, 66, 67, 68, 69, 70, 71, 72, 73, 74, 75, 76, 77, 78, 79, 80, 81, 82, 83, 84, 85, 86, 87, 88, 89, 90, 91, 92, 93, 94, 95, 96, 97, 98, 99, 100, 101, 102, 103, 104, 105] rfl
                                        exact xe_wz hx hb hr (Or.inr rfl) hlocks hS hP dL_areValues_267
                                      · have hf := c80f c80
                                        refine xk_iconst hx hb dL_areValues_266 ?_
                                        obtain rfl := Option.some.inj hf
                                        refine W.widen (k := 84) (n := 499) (by omega) (by omega) ?_
                                        have hP : va_P (dC, dI) vwCl (([[qcC cs aa 64 va], [qcC cs ah 8 vh], [qcC cs af 64 vf]] ++ w4 cs a y73).flatten) H := hP.sub (ws' := ([[qcC cs aa 64 va], [qcC cs ah 8 vh], [qcC cs af 64 vf]] ++ w4 cs a y73).flatten) [0, 1, 2, 4, 5, 6, 7, 8, 9, 10, 11, 12, 13, 14, 15, 16, 17, 18, 19, 20, 21, 22, 23, 24, 25, 26, 27, 28, 29, 30, 31, 32, 33, 34, 35, 36, 37, 38, 39, 40, 41, 42, 43, 44, 45, 46, 47, 48, 49, 50, 51, 52, 53, 54, 55, 56, 57, 58, 59, 60, 61, 62, 63, 64, 65, 66, 67, 68, 69, 70, 71, 72, 73, 74, 75, 76, 77, 78, 79, 80, 81, 82, 83, 84, 85, 86, 87, 88, 89, 90, 91, 92, 93, 94, 95, 96, 97, 98, 99, 100, 101, 102, 103, 104, 105] rfl
                                        exact xe_wz hx hb hr (Or.inl rfl) hlocks hS hP dL_areValues_267
                                  · have hf := c76f c76
                                    refine xk_iconst hx hb dL_areValues_242 ?_
                                    refine lv_istore (lv' := [(7, .int (iI 0)), (0, .ref (a 0)), (1, .ref aa), (2, .ref ah), (3, .ref af), (4, .ref ao), (5, .int (iI v1)), (6, .int (iI v2))]) hx hb dL_areValues_243 hl (by decide) rfl (fun ls hl => ?_)
                                    refine lv_iload hx hb dL_areValues_245 (lv_at hl 0 rfl) ?_
                                    refine xk_if_eq (tgt := 266) hx hb (by decide) dL_areValues_247 (by decide) (fun c81 => ?_) (fun c81 => ?_)
                                    · refine xk_iconst hx hb dL_areValues_266 ?_
                                      obtain rfl := Option.some.inj hf
                                      refine W.widen (k := 84) (n := 499) (by omega) (by omega) ?_
                                      have hP : va_P (dC, dI) vwCl (([[qcC cs aa 64 va], [qcC cs ah 8 vh], [qcC cs af 64 vf]] ++ w4 cs a y73).flatten) H := hP.sub (ws' := ([[qcC cs aa 64 va], [qcC cs ah 8 vh], [qcC cs af 64 vf]] ++ w4 cs a y73).flatten) [0, 1, 2, 4, 5, 6, 7, 8, 9, 10, 11, 12, 13, 14, 15, 16, 17, 18, 19, 20, 21, 22, 23, 24, 25, 26, 27, 28, 29, 30, 31, 32, 33, 34, 35, 36, 37, 38, 39, 40, 41, 42, 43, 44, 45, 46, 47, 48, 49, 50, 51, 52, 53, 54, 55, 56, 57, 58, 59, 60, 61, 62, 63, 64, 65, 66, 67, 68, 69, 70, 71, 72, 73, 74, 75, 76, 77, 78, 79, 80, 81, 82, 83, 84, 85, 86, 87, 88, 89, 90, 91, 92, 93, 94, 95, 96, 97, 98, 99, 100, 101, 102, 103, 104, 105] rfl
                                      exact xe_wz hx hb hr (Or.inl rfl) hlocks hS hP dL_areValues_267
                                    · exact absurd c81 (by decide)
                                · have hf := c71f c71
                                  refine xk_iconst hx hb dL_areValues_242 ?_
                                  refine lv_istore (lv' := [(7, .int (iI 0)), (0, .ref (a 0)), (1, .ref aa), (2, .ref ah), (3, .ref af), (4, .ref ao), (5, .int (iI v1)), (6, .int (iI v2))]) hx hb dL_areValues_243 hl (by decide) rfl (fun ls hl => ?_)
                                  refine lv_iload hx hb dL_areValues_245 (lv_at hl 0 rfl) ?_
                                  refine xk_if_eq (tgt := 266) hx hb (by decide) dL_areValues_247 (by decide) (fun c82 => ?_) (fun c82 => ?_)
                                  · refine xk_iconst hx hb dL_areValues_266 ?_
                                    obtain rfl := Option.some.inj hf
                                    refine W.widen (k := 84) (n := 499) (by omega) (by omega) ?_
                                    have hP : va_P (dC, dI) vwCl (([[qcC cs aa 64 va], [qcC cs ah 8 vh], [qcC cs af 64 vf]] ++ w4 cs a y68).flatten) H := hP.sub (ws' := ([[qcC cs aa 64 va], [qcC cs ah 8 vh], [qcC cs af 64 vf]] ++ w4 cs a y68).flatten) [0, 1, 2, 4, 5, 6, 7, 8, 9, 10, 11, 12, 13, 14, 15, 16, 17, 18, 19, 20, 21, 22, 23, 24, 25, 26, 27, 28, 29, 30, 31, 32, 33, 34, 35, 36, 37, 38, 39, 40, 41, 42, 43, 44, 45, 46, 47, 48, 49, 50, 51, 52, 53, 54, 55, 56, 57, 58, 59, 60, 61, 62, 63, 64, 65, 66, 67, 68, 69, 70, 71, 72, 73, 74, 75, 76, 77, 78, 79, 80, 81, 82, 83, 84, 85, 86, 87, 88, 89, 90, 91, 92, 93, 94, 95, 96, 97, 98, 99, 100, 101, 102, 103, 104, 105] rfl
                                    exact xe_wz hx hb hr (Or.inl rfl) hlocks hS hP dL_areValues_267
                                  · exact absurd c82 (by decide)
                              · have hf := c66f c66
                                refine xk_iconst hx hb dL_areValues_242 ?_
                                refine lv_istore (lv' := [(7, .int (iI 0)), (0, .ref (a 0)), (1, .ref aa), (2, .ref ah), (3, .ref af), (4, .ref ao), (5, .int (iI v1)), (6, .int (iI v2))]) hx hb dL_areValues_243 hl (by decide) rfl (fun ls hl => ?_)
                                refine lv_iload hx hb dL_areValues_245 (lv_at hl 0 rfl) ?_
                                refine xk_if_eq (tgt := 266) hx hb (by decide) dL_areValues_247 (by decide) (fun c83 => ?_) (fun c83 => ?_)
                                · refine xk_iconst hx hb dL_areValues_266 ?_
                                  obtain rfl := Option.some.inj hf
                                  refine W.widen (k := 84) (n := 499) (by omega) (by omega) ?_
                                  have hP : va_P (dC, dI) vwCl (([[qcC cs aa 64 va], [qcC cs ah 8 vh], [qcC cs af 64 vf]] ++ w4 cs a y63).flatten) H := hP.sub (ws' := ([[qcC cs aa 64 va], [qcC cs ah 8 vh], [qcC cs af 64 vf]] ++ w4 cs a y63).flatten) [0, 1, 2, 4, 5, 6, 7, 8, 9, 10, 11, 12, 13, 14, 15, 16, 17, 18, 19, 20, 21, 22, 23, 24, 25, 26, 27, 28, 29, 30, 31, 32, 33, 34, 35, 36, 37, 38, 39, 40, 41, 42, 43, 44, 45, 46, 47, 48, 49, 50, 51, 52, 53, 54, 55, 56, 57, 58, 59, 60, 61, 62, 63, 64, 65, 66, 67, 68, 69, 70, 71, 72, 73, 74, 75, 76, 77, 78, 79, 80, 81, 82, 83, 84, 85, 86, 87, 88, 89, 90, 91, 92, 93, 94, 95, 96, 97, 98, 99, 100, 101, 102, 103, 104, 105] rfl
                                  exact xe_wz hx hb hr (Or.inl rfl) hlocks hS hP dL_areValues_267
                                · exact absurd c83 (by decide)
                            · have hf := c61f c61
                              refine xk_iconst hx hb dL_areValues_242 ?_
                              refine lv_istore (lv' := [(7, .int (iI 0)), (0, .ref (a 0)), (1, .ref aa), (2, .ref ah), (3, .ref af), (4, .ref ao), (5, .int (iI v1)), (6, .int (iI v2))]) hx hb dL_areValues_243 hl (by decide) rfl (fun ls hl => ?_)
                              refine lv_iload hx hb dL_areValues_245 (lv_at hl 0 rfl) ?_
                              refine xk_if_eq (tgt := 266) hx hb (by decide) dL_areValues_247 (by decide) (fun c84 => ?_) (fun c84 => ?_)
                              · refine xk_iconst hx hb dL_areValues_266 ?_
                                obtain rfl := Option.some.inj hf
                                refine W.widen (k := 84) (n := 499) (by omega) (by omega) ?_
                                have hP : va_P (dC, dI) vwCl (([[qcC cs aa 64 va], [qcC cs ah 8 vh], [qcC cs af 64 vf]] ++ w4 cs a y58).flatten) H := hP.sub (ws' := ([[qcC cs aa 64 va], [qcC cs ah 8 vh], [qcC cs af 64 vf]] ++ w4 cs a y58).flatten) [0, 1, 2, 4, 5, 6, 7, 8, 9, 10, 11, 12, 13, 14, 15, 16, 17, 18, 19, 20, 21, 22, 23, 24, 25, 26, 27, 28, 29, 30, 31, 32, 33, 34, 35, 36, 37, 38, 39, 40, 41, 42, 43, 44, 45, 46, 47, 48, 49, 50, 51, 52, 53, 54, 55, 56, 57, 58, 59, 60, 61, 62, 63, 64, 65, 66, 67, 68, 69, 70, 71, 72, 73, 74, 75, 76, 77, 78, 79, 80, 81, 82, 83, 84, 85, 86, 87, 88, 89, 90, 91, 92, 93, 94, 95, 96, 97, 98, 99, 100, 101, 102, 103, 104, 105] rfl
                                exact xe_wz hx hb hr (Or.inl rfl) hlocks hS hP dL_areValues_267
                              · exact absurd c84 (by decide)
                          · have hf := c56f c56
                            refine xk_iconst hx hb dL_areValues_242 ?_
                            refine lv_istore (lv' := [(7, .int (iI 0)), (0, .ref (a 0)), (1, .ref aa), (2, .ref ah), (3, .ref af), (4, .ref ao), (5, .int (iI v1)), (6, .int (iI v2))]) hx hb dL_areValues_243 hl (by decide) rfl (fun ls hl => ?_)
                            refine lv_iload hx hb dL_areValues_245 (lv_at hl 0 rfl) ?_
                            refine xk_if_eq (tgt := 266) hx hb (by decide) dL_areValues_247 (by decide) (fun c85 => ?_) (fun c85 => ?_)
                            · refine xk_iconst hx hb dL_areValues_266 ?_
                              obtain rfl := Option.some.inj hf
                              refine W.widen (k := 84) (n := 499) (by omega) (by omega) ?_
                              have hP : va_P (dC, dI) vwCl (([[qcC cs aa 64 va], [qcC cs ah 8 vh], [qcC cs af 64 vf]] ++ w4 cs a y53).flatten) H := hP.sub (ws' := ([[qcC cs aa 64 va], [qcC cs ah 8 vh], [qcC cs af 64 vf]] ++ w4 cs a y53).flatten) [0, 1, 2, 4, 5, 6, 7, 8, 9, 10, 11, 12, 13, 14, 15, 16, 17, 18, 19, 20, 21, 22, 23, 24, 25, 26, 27, 28, 29, 30, 31, 32, 33, 34, 35, 36, 37, 38, 39, 40, 41, 42, 43, 44, 45, 46, 47, 48, 49, 50, 51, 52, 53, 54, 55, 56, 57, 58, 59, 60, 61, 62, 63, 64, 65, 66, 67, 68, 69, 70, 71, 72, 73, 74, 75, 76, 77, 78, 79, 80, 81, 82, 83, 84, 85, 86, 87, 88, 89, 90, 91, 92, 93, 94, 95, 96, 97, 98, 99, 100, 101, 102, 103, 104, 105] rfl
                              exact xe_wz hx hb hr (Or.inl rfl) hlocks hS hP dL_areValues_267
                            · exact absurd c85 (by decide)
                        · have hf := c51f c51
                          refine xk_iconst hx hb dL_areValues_242 ?_
                          refine lv_istore (lv' := [(7, .int (iI 0)), (0, .ref (a 0)), (1, .ref aa), (2, .ref ah), (3, .ref af), (4, .ref ao), (5, .int (iI v1)), (6, .int (iI v2))]) hx hb dL_areValues_243 hl (by decide) rfl (fun ls hl => ?_)
                          refine lv_iload hx hb dL_areValues_245 (lv_at hl 0 rfl) ?_
                          refine xk_if_eq (tgt := 266) hx hb (by decide) dL_areValues_247 (by decide) (fun c86 => ?_) (fun c86 => ?_)
                          · refine xk_iconst hx hb dL_areValues_266 ?_
                            obtain rfl := Option.some.inj hf
                            refine W.widen (k := 84) (n := 499) (by omega) (by omega) ?_
                            have hP : va_P (dC, dI) vwCl (([[qcC cs aa 64 va], [qcC cs ah 8 vh], [qcC cs af 64 vf]] ++ w4 cs a y48).flatten) H := hP.sub (ws' := ([[qcC cs aa 64 va], [qcC cs ah 8 vh], [qcC cs af 64 vf]] ++ w4 cs a y48).flatten) [0, 1, 2, 4, 5, 6, 7, 8, 9, 10, 11, 12, 13, 14, 15, 16, 17, 18, 19, 20, 21, 22, 23, 24, 25, 26, 27, 28, 29, 30, 31, 32, 33, 34, 35, 36, 37, 38, 39, 40, 41, 42, 43, 44, 45, 46, 47, 48, 49, 50, 51, 52, 53, 54, 55, 56, 57, 58, 59, 60, 61, 62, 63, 64, 65, 66, 67, 68, 69, 70, 71, 72, 73, 74, 75, 76, 77, 78, 79, 80, 81, 82, 83, 84, 85, 86, 87, 88, 89, 90, 91, 92, 93, 94, 95, 96, 97, 98, 99, 100, 101, 102, 103, 104, 105] rfl
                            exact xe_wz hx hb hr (Or.inl rfl) hlocks hS hP dL_areValues_267
                          · exact absurd c86 (by decide)
                      · have hf := c46f c46
                        refine xk_iconst hx hb dL_areValues_242 ?_
                        refine lv_istore (lv' := [(7, .int (iI 0)), (0, .ref (a 0)), (1, .ref aa), (2, .ref ah), (3, .ref af), (4, .ref ao), (5, .int (iI v1)), (6, .int (iI v2))]) hx hb dL_areValues_243 hl (by decide) rfl (fun ls hl => ?_)
                        refine lv_iload hx hb dL_areValues_245 (lv_at hl 0 rfl) ?_
                        refine xk_if_eq (tgt := 266) hx hb (by decide) dL_areValues_247 (by decide) (fun c87 => ?_) (fun c87 => ?_)
                        · refine xk_iconst hx hb dL_areValues_266 ?_
                          obtain rfl := Option.some.inj hf
                          refine W.widen (k := 84) (n := 499) (by omega) (by omega) ?_
                          have hP : va_P (dC, dI) vwCl (([[qcC cs aa 64 va], [qcC cs ah 8 vh], [qcC cs af 64 vf]] ++ w4 cs a y44).flatten) H := hP.sub (ws' := ([[qcC cs aa 64 va], [qcC cs ah 8 vh], [qcC cs af 64 vf]] ++ w4 cs a y44).flatten) [0, 1, 2, 4, 5, 6, 7, 8, 9, 10, 11, 12, 13, 14, 15, 16, 17, 18, 19, 20, 21, 22, 23, 24, 25, 26, 27, 28, 29, 30, 31, 32, 33, 34, 35, 36, 37, 38, 39, 40, 41, 42, 43, 44, 45, 46, 47, 48, 49, 50, 51, 52, 53, 54, 55, 56, 57, 58, 59, 60, 61, 62, 63, 64, 65, 66, 67, 68, 69, 70, 71, 72, 73, 74, 75, 76, 77, 78, 79, 80, 81, 82, 83, 84, 85, 86, 87, 88, 89, 90, 91, 92, 93, 94, 95, 96, 97, 98, 99, 100, 101, 102, 103, 104, 105] rfl
                          exact xe_wz hx hb hr (Or.inl rfl) hlocks hS hP dL_areValues_267
                        · exact absurd c87 (by decide)
                  · have hf := c41f c41
                    refine xk_iconst hx hb dL_areValues_146 ?_
                    refine lv_istore (lv' := [(7, .int (iI 0)), (0, .ref (a 0)), (1, .ref aa), (2, .ref ah), (3, .ref af), (4, .ref ao), (5, .int (iI v1)), (6, .int (iI v2))]) hx hb dL_areValues_147 hl (by decide) rfl (fun ls hl => ?_)
                    refine lv_iload hx hb dL_areValues_149 (lv_at hl 0 rfl) ?_
                    refine xk_if_eq (tgt := 242) hx hb (by decide) dL_areValues_151 (by decide) (fun c88 => ?_) (fun c88 => ?_)
                    · refine xk_iconst hx hb dL_areValues_242 ?_
                      refine lv_istore (lv' := [(7, .int (iI 0)), (0, .ref (a 0)), (1, .ref aa), (2, .ref ah), (3, .ref af), (4, .ref ao), (5, .int (iI v1)), (6, .int (iI v2))]) hx hb dL_areValues_243 hl (by decide) rfl (fun ls hl => ?_)
                      refine lv_iload hx hb dL_areValues_245 (lv_at hl 0 rfl) ?_
                      refine xk_if_eq (tgt := 266) hx hb (by decide) dL_areValues_247 (by decide) (fun c89 => ?_) (fun c89 => ?_)
                      · refine xk_iconst hx hb dL_areValues_266 ?_
                        obtain rfl := Option.some.inj hf
                        refine W.widen (k := 84) (n := 499) (by omega) (by omega) ?_
                        have hP : va_P (dC, dI) vwCl (([[qcC cs aa 64 va], [qcC cs ah 8 vh], [qcC cs af 64 vf]] ++ w4 cs a y38).flatten) H := hP.sub (ws' := ([[qcC cs aa 64 va], [qcC cs ah 8 vh], [qcC cs af 64 vf]] ++ w4 cs a y38).flatten) [0, 1, 2, 4, 5, 6, 7, 8, 9, 10, 11, 12, 13, 14, 15, 16, 17, 18, 19, 20, 21, 22, 23, 24, 25, 26, 27, 28, 29, 30, 31, 32, 33, 34, 35, 36, 37, 38, 39, 40, 41, 42, 43, 44, 45, 46, 47, 48, 49, 50, 51, 52, 53, 54, 55, 56, 57, 58, 59, 60, 61, 62, 63, 64, 65, 66, 67, 68, 69, 70, 71, 72, 73, 74, 75, 76, 77, 78, 79, 80, 81, 82, 83, 84, 85, 86, 87, 88, 89, 90, 91, 92, 93, 94, 95, 96, 97, 98, 99, 100, 101, 102, 103, 104, 105] rfl
                        exact xe_wz hx hb hr (Or.inl rfl) hlocks hS hP dL_areValues_267
                      · exact absurd c89 (by decide)
                    · exact absurd c88 (by decide)
                · have hf := c36f c36
                  refine xk_iconst hx hb dL_areValues_146 ?_
                  refine lv_istore (lv' := [(7, .int (iI 0)), (0, .ref (a 0)), (1, .ref aa), (2, .ref ah), (3, .ref af), (4, .ref ao), (5, .int (iI v1)), (6, .int (iI v2))]) hx hb dL_areValues_147 hl (by decide) rfl (fun ls hl => ?_)
                  refine lv_iload hx hb dL_areValues_149 (lv_at hl 0 rfl) ?_
                  refine xk_if_eq (tgt := 242) hx hb (by decide) dL_areValues_151 (by decide) (fun c90 => ?_) (fun c90 => ?_)
                  · refine xk_iconst hx hb dL_areValues_242 ?_
                    refine lv_istore (lv' := [(7, .int (iI 0)), (0, .ref (a 0)), (1, .ref aa), (2, .ref ah), (3, .ref af), (4, .ref ao), (5, .int (iI v1)), (6, .int (iI v2))]) hx hb dL_areValues_243 hl (by decide) rfl (fun ls hl => ?_)
                    refine lv_iload hx hb dL_areValues_245 (lv_at hl 0 rfl) ?_
                    refine xk_if_eq (tgt := 266) hx hb (by decide) dL_areValues_247 (by decide) (fun c91 => ?_) (fun c91 => ?_)
                    · refine xk_iconst hx hb dL_areValues_266 ?_
                      obtain rfl := Option.some.inj hf
                      refine W.widen (k := 84) (n := 499) (by omega) (by omega) ?_
                      have hP : va_P (dC, dI) vwCl (([[qcC cs aa 64 va], [qcC cs ah 8 vh], [qcC cs af 64 vf]] ++ w4 cs a y33).flatten) H := hP.sub (ws' := ([[qcC cs aa 64 va], [qcC cs ah 8 vh], [qcC cs af 64 vf]] ++ w4 cs a y33).flatten) [0, 1, 2, 4, 5, 6, 7, 8, 9, 10, 11, 12, 13, 14, 15, 16, 17, 18, 19, 20, 21, 22, 23, 24, 25, 26, 27, 28, 29, 30, 31, 32, 33, 34, 35, 36, 37, 38, 39, 40, 41, 42, 43, 44, 45, 46, 47, 48, 49, 50, 51, 52, 53, 54, 55, 56, 57, 58, 59, 60, 61, 62, 63, 64, 65, 66, 67, 68, 69, 70, 71, 72, 73, 74, 75, 76, 77, 78, 79, 80, 81, 82, 83, 84, 85, 86, 87, 88, 89, 90, 91, 92, 93, 94, 95, 96, 97, 98, 99, 100, 101, 102, 103, 104, 105] rfl
                      exact xe_wz hx hb hr (Or.inl rfl) hlocks hS hP dL_areValues_267
                    · exact absurd c91 (by decide)
                  · exact absurd c90 (by decide)
              · have hf := c31f c31
                refine xk_iconst hx hb dL_areValues_146 ?_
                refine lv_istore (lv' := [(7, .int (iI 0)), (0, .ref (a 0)), (1, .ref aa), (2, .ref ah), (3, .ref af), (4, .ref ao), (5, .int (iI v1)), (6, .int (iI v2))]) hx hb dL_areValues_147 hl (by decide) rfl (fun ls hl => ?_)
                refine lv_iload hx hb dL_areValues_149 (lv_at hl 0 rfl) ?_
                refine xk_if_eq (tgt := 242) hx hb (by decide) dL_areValues_151 (by decide) (fun c92 => ?_) (fun c92 => ?_)
                · refine xk_iconst hx hb dL_areValues_242 ?_
                  refine lv_istore (lv' := [(7, .int (iI 0)), (0, .ref (a 0)), (1, .ref aa), (2, .ref ah), (3, .ref af), (4, .ref ao), (5, .int (iI v1)), (6, .int (iI v2))]) hx hb dL_areValues_243 hl (by decide) rfl (fun ls hl => ?_)
                  refine lv_iload hx hb dL_areValues_245 (lv_at hl 0 rfl) ?_
                  refine xk_if_eq (tgt := 266) hx hb (by decide) dL_areValues_247 (by decide) (fun c93 => ?_) (fun c93 => ?_)
                  · refine xk_iconst hx hb dL_areValues_266 ?_
                    obtain rfl := Option.some.inj hf
                    refine W.widen (k := 84) (n := 499) (by omega) (by omega) ?_
                    have hP : va_P (dC, dI) vwCl (([[qcC cs aa 64 va], [qcC cs ah 8 vh], [qcC cs af 64 vf]] ++ w4 cs a y28).flatten) H := hP.sub (ws' := ([[qcC cs aa 64 va], [qcC cs ah 8 vh], [qcC cs af 64 vf]] ++ w4 cs a y28).flatten) [0, 1, 2, 4, 5, 6, 7, 8, 9, 10, 11, 12, 13, 14, 15, 16, 17, 18, 19, 20, 21, 22, 23, 24, 25, 26, 27, 28, 29, 30, 31, 32, 33, 34, 35, 36, 37, 38, 39, 40, 41, 42, 43, 44, 45, 46, 47, 48, 49, 50, 51, 52, 53, 54, 55, 56, 57, 58, 59, 60, 61, 62, 63, 64, 65, 66, 67, 68, 69, 70, 71, 72, 73, 74, 75, 76, 77, 78, 79, 80, 81, 82, 83, 84, 85, 86, 87, 88, 89, 90, 91, 92, 93, 94, 95, 96, 97, 98, 99, 100, 101, 102, 103, 104, 105] rfl
                    exact xe_wz hx hb hr (Or.inl rfl) hlocks hS hP dL_areValues_267
                  · exact absurd c93 (by decide)
                · exact absurd c92 (by decide)
            · have hf := c26f c26
              refine xk_iconst hx hb dL_areValues_146 ?_
              refine lv_istore (lv' := [(7, .int (iI 0)), (0, .ref (a 0)), (1, .ref aa), (2, .ref ah), (3, .ref af), (4, .ref ao), (5, .int (iI v1)), (6, .int (iI v2))]) hx hb dL_areValues_147 hl (by decide) rfl (fun ls hl => ?_)
              refine lv_iload hx hb dL_areValues_149 (lv_at hl 0 rfl) ?_
              refine xk_if_eq (tgt := 242) hx hb (by decide) dL_areValues_151 (by decide) (fun c94 => ?_) (fun c94 => ?_)
              · refine xk_iconst hx hb dL_areValues_242 ?_
                refine lv_istore (lv' := [(7, .int (iI 0)), (0, .ref (a 0)), (1, .ref aa), (2, .ref ah), (3, .ref af), (4, .ref ao), (5, .int (iI v1)), (6, .int (iI v2))]) hx hb dL_areValues_243 hl (by decide) rfl (fun ls hl => ?_)
                refine lv_iload hx hb dL_areValues_245 (lv_at hl 0 rfl) ?_
                refine xk_if_eq (tgt := 266) hx hb (by decide) dL_areValues_247 (by decide) (fun c95 => ?_) (fun c95 => ?_)
                · refine xk_iconst hx hb dL_areValues_266 ?_
                  obtain rfl := Option.some.inj hf
                  refine W.widen (k := 84) (n := 499) (by omega) (by omega) ?_
                  have hP : va_P (dC, dI) vwCl (([[qcC cs aa 64 va], [qcC cs ah 8 vh], [qcC cs af 64 vf]] ++ w4 cs a y24).flatten) H := hP.sub (ws' := ([[qcC cs aa 64 va], [qcC cs ah 8 vh], [qcC cs af 64 vf]] ++ w4 cs a y24).flatten) [0, 1, 2, 4, 5, 6, 7, 8, 9, 10, 11, 12, 13, 14, 15, 16, 17, 18, 19, 20, 21, 22, 23, 24, 25, 26, 27, 28, 29, 30, 31, 32, 33, 34, 35, 36, 37, 38, 39, 40, 41, 42, 43, 44, 45, 46, 47, 48, 49, 50, 51, 52, 53, 54, 55, 56, 57, 58, 59, 60, 61, 62, 63, 64, 65, 66, 67, 68, 69, 70, 71, 72, 73, 74, 75, 76, 77, 78, 79, 80, 81, 82, 83, 84, 85, 86, 87, 88, 89, 90, 91, 92, 93, 94, 95, 96, 97, 98, 99, 100, 101, 102, 103, 104, 105] rfl
                  exact xe_wz hx hb hr (Or.inl rfl) hlocks hS hP dL_areValues_267
                · exact absurd c95 (by decide)
              · exact absurd c94 (by decide)
          · have hf := c22f c22
            refine xk_iconst hx hb dL_areValues_146 ?_
            refine lv_istore (lv' := [(7, .int (iI 0)), (0, .ref (a 0)), (1, .ref aa), (2, .ref ah), (3, .ref af), (4, .ref ao), (5, .int (iI v1)), (6, .int (iI v2))]) hx hb dL_areValues_147 hl (by decide) rfl (fun ls hl => ?_)
            refine lv_iload hx hb dL_areValues_149 (lv_at hl 0 rfl) ?_
            refine xk_if_eq (tgt := 242) hx hb (by decide) dL_areValues_151 (by decide) (fun c96 => ?_) (fun c96 => ?_)
            · refine xk_iconst hx hb dL_areValues_242 ?_
              refine lv_istore (lv' := [(7, .int (iI 0)), (0, .ref (a 0)), (1, .ref aa), (2, .ref ah), (3, .ref af), (4, .ref ao), (5, .int (iI v1)), (6, .int (iI v2))]) hx hb dL_areValues_243 hl (by decide) rfl (fun ls hl => ?_)
              refine lv_iload hx hb dL_areValues_245 (lv_at hl 0 rfl) ?_
              refine xk_if_eq (tgt := 266) hx hb (by decide) dL_areValues_247 (by decide) (fun c97 => ?_) (fun c97 => ?_)
              · refine xk_iconst hx hb dL_areValues_266 ?_
                obtain rfl := Option.some.inj hf
                refine W.widen (k := 84) (n := 499) (by omega) (by omega) ?_
                have hP : va_P (dC, dI) vwCl (([[qcC cs aa 64 va], [qcC cs ah 8 vh], [qcC cs af 64 vf]] ++ w4 cs a y19).flatten) H := hP.sub (ws' := ([[qcC cs aa 64 va], [qcC cs ah 8 vh], [qcC cs af 64 vf]] ++ w4 cs a y19).flatten) [0, 1, 2, 4, 5, 6, 7, 8, 9, 10, 11, 12, 13, 14, 15, 16, 17, 18, 19, 20, 21, 22, 23, 24, 25, 26, 27, 28, 29, 30, 31, 32, 33, 34, 35, 36, 37, 38, 39, 40, 41, 42, 43, 44, 45, 46, 47, 48, 49, 50, 51, 52, 53, 54, 55, 56, 57, 58, 59, 60, 61, 62, 63, 64, 65, 66, 67, 68, 69, 70, 71, 72, 73, 74, 75, 76, 77, 78, 79, 80, 81, 82, 83, 84, 85, 86, 87, 88, 89, 90, 91, 92, 93, 94, 95, 96, 97, 98, 99, 100, 101, 102, 103, 104, 105] rfl
                exact xe_wz hx hb hr (Or.inl rfl) hlocks hS hP dL_areValues_267
              · exact absurd c97 (by decide)
            · exact absurd c96 (by decide)
        · have hf := c17f c17
          refine xk_iconst hx hb dL_areValues_146 ?_
          refine lv_istore (lv' := [(7, .int (iI 0)), (0, .ref (a 0)), (1, .ref aa), (2, .ref ah), (3, .ref af), (4, .ref ao), (5, .int (iI v1)), (6, .int (iI v2))]) hx hb dL_areValues_147 hl (by decide) rfl (fun ls hl => ?_)
          refine lv_iload hx hb dL_areValues_149 (lv_at hl 0 rfl) ?_
          refine xk_if_eq (tgt := 242) hx hb (by decide) dL_areValues_151 (by decide) (fun c98 => ?_) (fun c98 => ?_)
          · refine xk_iconst hx hb dL_areValues_242 ?_
            refine lv_istore (lv' := [(7, .int (iI 0)), (0, .ref (a 0)), (1, .ref aa), (2, .ref ah), (3, .ref af), (4, .ref ao), (5, .int (iI v1)), (6, .int (iI v2))]) hx hb dL_areValues_243 hl (by decide) rfl (fun ls hl => ?_)
            refine lv_iload hx hb dL_areValues_245 (lv_at hl 0 rfl) ?_
            refine xk_if_eq (tgt := 266) hx hb (by decide) dL_areValues_247 (by decide) (fun c99 => ?_) (fun c99 => ?_)
            · refine xk_iconst hx hb dL_areValues_266 ?_
              obtain rfl := Option.some.inj hf
              refine W.widen (k := 84) (n := 499) (by omega) (by omega) ?_
              have hP : va_P (dC, dI) vwCl (([[qcC cs aa 64 va], [qcC cs ah 8 vh], [qcC cs af 64 vf]] ++ w4 cs a y15).flatten) H := hP.sub (ws' := ([[qcC cs aa 64 va], [qcC cs ah 8 vh], [qcC cs af 64 vf]] ++ w4 cs a y15).flatten) [0, 1, 2, 4, 5, 6, 7, 8, 9, 10, 11, 12, 13, 14, 15, 16, 17, 18, 19, 20, 21, 22, 23, 24, 25, 26, 27, 28, 29, 30, 31, 32, 33, 34, 35, 36, 37, 38, 39, 40, 41, 42, 43, 44, 45, 46, 47, 48, 49, 50, 51, 52, 53, 54, 55, 56, 57, 58, 59, 60, 61, 62, 63, 64, 65, 66, 67, 68, 69, 70, 71, 72, 73, 74, 75, 76, 77, 78, 79, 80, 81, 82, 83, 84, 85, 86, 87, 88, 89, 90, 91, 92, 93, 94, 95, 96, 97, 98, 99, 100, 101, 102, 103, 104, 105] rfl
              exact xe_wz hx hb hr (Or.inl rfl) hlocks hS hP dL_areValues_267
            · exact absurd c99 (by decide)
          · exact absurd c98 (by decide)
  exact hL26  70 0 (fun _ => 0) y hf _ _ ⟨by omega, by omega⟩ _ _ hP hS ls (lv_sub hl [4, 5, 6, 7, 3, 2, 1, 0] rfl)
theorem cdL_areValues : yL_areValues.cls ≠ "java/lang/invoke/MethodHandle" ∧ yL_areValues.cls ≠ "java/lang/invoke/VarHandle" ∧ (parseMethodDescriptor yL_areValues.desc).map (fun d => d.parameters.length) = some 4 := by decide +kernel

set_option maxHeartbeats 8000000 in
set_option maxRecDepth 100000 in
theorem kL_isMerged (l : Launch) (hlS : l.stackTraces = false) (dC : Nat → ClassId) (dI : Nat → Nat → Nat) (cs : Nat → ClassId) (aa : Nat) (ah : Nat) (af : Nat) (a : Nat → Nat) (sz : Nat) (va : Int → Int) (vh : Int → Int) (vf : Int → Int) (y : BrS) (p4 : Int) (res : Int × (Int → Int) × (Int → Int) × (Int → Int) × BrS) (hf : fL_isMerged va vh vf y p4 = some res) : Met l yL_isMerged wsL_isMerged ({ frames := 8, cells := 3, slots := 13, locals := 138 } : Room) (va_Pc [.ref (a 0), .ref aa, .ref ah, .ref af, .int (iI p4)] (xPL (dC, dI) vwCl (([[qcC cs aa 64 va], [qcC cs ah 8 vh], [qcC cs af 64 vf]] ++ w4 cs a y).flatten) (xT cs) sz)) (xQi (dC, dI) vwCl (([[qcC cs aa 64 va], [qcC cs ah 8 vh], [qcC cs af 64 vf]] ++ w4 cs a y).flatten) (([[qcC cs aa 64 res.2.1], [qcC cs ah 8 res.2.2.1], [qcC cs af 64 res.2.2.2.1]] ++ w4 cs a res.2.2.2.2).flatten) sz res.1) 3 13 (va_A (([[qcC cs aa 64 va], [qcC cs ah 8 vh], [qcC cs af 64 vf]] ++ w4 cs a y).flatten) sz) := by
  refine Met.ofW (cc := cL_isMerged) (maxL := 9) (ret := (some .boolean)) (by decide) rfl ?_
  intro p e s m args below meth c s₁ B hml hv
  obtain ⟨rfl, ⟨⟨hsz, hP, hK, hD0⟩, hTh⟩, hN⟩ := hv
  have hx := B.exec
  have hb := B.bytes
  have hr := B.returns
  have hts := atoms_spec (ws := wsL_isMerged) B.pre
  have hown : s.vm.findClass RL = some m.cls := findClass_of_methodNamed B.named
  have hlocks := B.notSynchronized
  subst hsz
  have hD := hD0.self (sz := s.heap.size)
  have hA : ∀ z9 : Nat, s.heap.size ≤ z9 → va_A (([[qcC cs aa 64 va], [qcC cs ah 8 vh], [qcC cs af 64 vf]] ++ w4 cs a y).flatten) s.heap.size z9 := fun z9 h => Or.inr h
  have hS : va_S (va_A (([[qcC cs aa 64 va], [qcC cs ah 8 vh], [qcC cs af 64 vf]] ++ w4 cs a y).flatten) s.heap.size) s.heap s.heap [] := va_S.rf
  have hl := lv_entry [.ref (a 0), .ref aa, .ref ah, .ref af, .int (iI p4)] (n := 9) (Nat.le_of_ble_eq_true rfl)
  rw [lg_entry_eq]
  generalize (lg_sl [.ref (a 0), .ref aa, .ref ah, .ref af, .int (iI p4)] ++ List.replicate (9 - (lg_sl [.ref (a 0), .ref aa, .ref ah, .ref af, .int (iI p4)]).length) Slot.unset).toArray = ls at hl ⊢
  have hl : lv_has ls 9 [(0, .ref (a 0)), (1, .ref aa), (2, .ref ah), (3, .ref af), (4, .int (iI p4))] := hl
  unfold fL_isMerged at hf
  refine xk_iconst hx hb dL_isMerged_0 ?_
  refine va_newa (atype := .int) (ty := .int) (N' := 1) (a0 := (1, .inl (xA (fun _ => 0)))) hx hb (hts (.arrayClass .int) (by decide +kernel)) rfl hK hP (x_addrF hD rfl) hS hA (fun cA => x_zero cA 1) (by decide) (by decide) (Nat.le_of_ble_eq_true rfl) (by show _ ≤ 3; omega) (by show _ ≤ 13; omega) dL_isMerged_1 (fun ao cA H hK1 hP hD hS => ?_)
  obtain rfl := x_kind 0 hK1 (cB := cs 0) rfl (fun C h => by cases h)
  have hP : va_P (dC, dI) vwCl (([[qcC cs aa 64 va], [qcC cs ah 8 vh], [qcC cs af 64 vf], [qcC cs ao 1 (fun _ => 0)]] ++ w4 cs a y).flatten) H := hP.sub (ws' := ([[qcC cs aa 64 va], [qcC cs ah 8 vh], [qcC cs af 64 vf], [qcC cs ao 1 (fun _ => 0)]] ++ w4 cs a y).flatten) [0, 1, 2, 105, 3, 4, 5, 6, 7, 8, 9, 10, 11, 12, 13, 14, 15, 16, 17, 18, 19, 20, 21, 22, 23, 24, 25, 26, 27, 28, 29, 30, 31, 32, 33, 34, 35, 36, 37, 38, 39, 40, 41, 42, 43, 44, 45, 46, 47, 48, 49, 50, 51, 52, 53, 54, 55, 56, 57, 58, 59, 60, 61, 62, 63, 64, 65, 66, 67, 68, 69, 70, 71, 72, 73, 74, 75, 76, 77, 78, 79, 80, 81, 82, 83, 84, 85, 86, 87, 88, 89, 90, 91, 92, 93, 94, 95, 96, 97, 98, 99, 100, 101, 102, 103, 104] rfl
  have hD : va_D (va_A (([[qcC cs aa 64 va], [qcC cs ah 8 vh], [qcC cs af 64 vf]] ++ w4 cs a y).flatten) s.heap.size) (([[qcC cs aa 64 va], [qcC cs ah 8 vh], [qcC cs af 64 vf], [qcC cs ao 1 (fun _ => 0)]] ++ w4 cs a y).flatten) := hD.sub (ws' := ([[qcC cs aa 64 va], [qcC cs ah 8 vh], [qcC cs af 64 vf], [qcC cs ao 1 (fun _ => 0)]] ++ w4 cs a y).flatten) [0, 1, 2, 105, 3, 4, 5, 6, 7, 8, 9, 10, 11, 12, 13, 14, 15, 16, 17, 18, 19, 20, 21, 22, 23, 24, 25, 26, 27, 28, 29, 30, 31, 32, 33, 34, 35, 36, 37, 38, 39, 40, 41, 42, 43, 44, 45, 46, 47, 48, 49, 50, 51, 52, 53, 54, 55, 56, 57, 58, 59, 60, 61, 62, 63, 64, 65, 66, 67, 68, 69, 70, 71, 72, 73, 74, 75, 76, 77, 78, 79, 80, 81, 82, 83, 84, 85, 86, 87, 88, 89, 90, 91, 92, 93, 94, 95, 96, 97, 98, 99, 100, 101, 102, 103, 104] (by decide +kernel) rfl
  refine lv_astore (lv' := [(5, .ref ao), (0, .ref (a 0)), (1, .ref aa), (2, .ref ah), (3, .ref af), (4, .int (iI p4))]) hx hb dL_isMerged_3 hl (by decide) rfl (fun ls hl => ?_)
  refine lv_aload_n hx hb dL_isMerged_5 rfl (lv_at hl 3 rfl) ?_
  refine lv_aload_n hx hb dL_isMerged_6 rfl (lv_at hl 4 rfl) ?_
  obtain ⟨v1, ev1, hf⟩ := x_bind hf
  refine xf_sri (As := [.ref ah, .ref af]) (rest := []) (wcs := ([[qcC cs ah 8 vh], [qcC cs af 64 vf]] : List va_W)) ⟨hx, hb, hml, hown, hts⟩ (kL_runs l dC dI cs ah af vh vf _ ev1) (va_cwS 2 hts gL_isMerged_L_runs rfl rfl rfl cdL_runs ⟨Nat.le_of_ble_eq_true rfl, Nat.le_of_ble_eq_true rfl⟩) hK hP [1, 2] rfl rfl rfl hl.1 rfl (Nat.le_of_ble_eq_true rfl) dL_isMerged_7 ⟨by show _ ≤ 3; omega, by show _ ≤ 13; omega⟩ ?_
  refine lv_istore (lv' := [(6, .int (iI v1)), (5, .ref ao), (0, .ref (a 0)), (1, .ref aa), (2, .ref ah), (3, .ref af), (4, .int (iI p4))]) hx hb dL_isMerged_10 hl (by decide) rfl (fun ls hl => ?_)
  refine lv_iload hx hb dL_isMerged_12 (lv_at hl 0 rfl) ?_
  refine xk_iconst hx hb dL_isMerged_14 ?_
  obtain ⟨c2a, c2b, c2t, c2f⟩ := x_ltE hf
  refine xk_icmp_ge (tgt := 50) hx hb c2a c2b dL_isMerged_15 (by decide) (fun c2 => ?_) (fun c2 => ?_)
  · have hf := c2t c2
    refine lv_aload_n hx hb dL_isMerged_18 rfl (lv_at hl 2 rfl) ?_
    refine lv_aload hx hb dL_isMerged_19 (lv_at hl 1 rfl) ?_
    obtain ⟨⟨v5, g3, y4⟩, ev5, hf⟩ := x_bind hf
    refine xf_sw (As := [.ref (a 0), .ref ao]) (rest := []) (wcs := [[qcC cs ao 1 (fun _ => 0)]] ++ w4 cs a y) (w1s := [[qcC cs ao 1 g3]] ++ w4 cs a y4) ⟨hx, hb, hml, hown, hts⟩ (kL_mergeLightest l hlS dC dI cs ao a H.size (fun _ => 0) y _ ev5) (vx_cwSW 2 hts gL_isMerged_L_mergeLightest rfl rfl rfl cdL_mergeLightest ⟨Nat.le_of_ble_eq_true rfl, Nat.le_of_ble_eq_true rfl⟩) hK hP (x_addrF hD rfl) hS hA hTh hN [3, 4, 5, 6, 7, 8, 9, 10, 11, 12, 13] rfl rfl rfl (by decide) rfl rfl hl.1 rfl (Nat.le_of_ble_eq_true rfl) dL_isMerged_21 ⟨by show _ ≤ 3; omega, by show _ ≤ 13; omega⟩ (fun H locs hP hS => ?_)
    have hP : va_P (dC, dI) vwCl (([[qcC cs aa 64 va], [qcC cs ah 8 vh], [qcC cs af 64 vf], [qcC cs ao 1 g3]] ++ w4 cs a y4).flatten) H := hP
    refine xk_iconst hx hb dL_isMerged_24 ?_
    obtain ⟨c6a, c6b, c6t, c6f⟩ := x_eqE hf
    refine xk_icmp_ne (tgt := 48) hx hb c6a c6b dL_isMerged_25 (by decide) (fun c6 => ?_) (fun c6 => ?_)
    · have hf := c6t c6
      refine lv_aload_n hx hb dL_isMerged_28 rfl (lv_at hl 2 rfl) ?_
      refine lv_aload_n hx hb dL_isMerged_29 rfl (lv_at hl 4 rfl) ?_
      refine xk_iconst hx hb dL_isMerged_30 ?_
      obtain ⟨v7, ev7, hf⟩ := x_bind hf
      refine xk_iald (f := vh) hx hb hK hP 1 0 ev7 (by decide) rfl rfl dL_isMerged_31 ?_
      refine lv_aload_n hx hb dL_isMerged_32 rfl (lv_at hl 4 rfl) ?_
      refine xk_iconst hx hb dL_isMerged_33 ?_
      obtain ⟨v8, ev8, hf⟩ := x_bind hf
      refine xk_iald (f := vh) hx hb hK hP 1 0 ev8 (by decide) rfl rfl dL_isMerged_34 ?_
      refine lv_aload hx hb dL_isMerged_35 (lv_at hl 1 rfl) ?_
      obtain ⟨⟨v11, g9, y10⟩, ev11, hf⟩ := x_bind hf
      refine xf_sw (As := [.ref (a 0), .int (iI v7), .int (iI v8), .ref ao]) (rest := []) (wcs := [[qcC cs ao 1 g3]] ++ w4 cs a y4) (w1s := [[qcC cs ao 1 g9]] ++ w4 cs a y10) ⟨hx, hb, hml, hown, hts⟩ (kL_merge l hlS dC dI cs ao a H.size g3 y4 v7 v8 _ ev11) (vx_cwSW 4 hts gL_isMerged_L_merge rfl rfl rfl cdL_merge ⟨Nat.le_of_ble_eq_true rfl, Nat.le_of_ble_eq_true rfl⟩) hK hP (x_addrF hD rfl) hS hA hTh hN [3, 4, 5, 6, 7, 8, 9, 10, 11, 12, 13] rfl rfl rfl (by decide) rfl rfl hl.1 rfl (Nat.le_of_ble_eq_true rfl) dL_isMerged_37 ⟨by show _ ≤ 3; omega, by show _ ≤ 13; omega⟩ (fun H locs hP hS => ?_)
      have hP : va_P (dC, dI) vwCl (([[qcC cs aa 64 va], [qcC cs ah 8 vh], [qcC cs af 64 vf], [qcC cs ao 1 g9]] ++ w4 cs a y10).flatten) H := hP
      refine xk_iconst hx hb dL_isMerged_40 ?_
      obtain ⟨c12a, c12b, c12t, c12f⟩ := x_eqE hf
      refine xk_icmp_ne (tgt := 48) hx hb c12a c12b dL_isMerged_41 (by decide) (fun c12 => ?_) (fun c12 => ?_)
      · have hf := c12t c12
        refine xk_iconst hx hb dL_isMerged_44 ?_
        refine lv_goto (tgt := 49) hx hb dL_isMerged_45 (by decide) ?_
        obtain rfl := Option.some.inj hf
        refine W.widen (k := 3) (n := 13) (by omega) (by omega) ?_
        have hP : va_P (dC, dI) vwCl (([[qcC cs aa 64 va], [qcC cs ah 8 vh], [qcC cs af 64 vf]] ++ w4 cs a y10).flatten) H := hP.sub (ws' := ([[qcC cs aa 64 va], [qcC cs ah 8 vh], [qcC cs af 64 vf]] ++ w4 cs a y10).flatten) [0, 1, 2, 4, 5, 6, 7, 8, 9, 10, 11, 12, 13, 14, 15, 16, 17, 18, 19, 20, 21, 22, 23, 24, 25, 26, 27, 28, 29, 30, 31, 32, 33, 34, 35, 36, 37, 38, 39, 40, 41, 42, 43, 44, 45, 46, 47, 48, 49, 50, 51, 52, 53, 54, 55, 56, 57, 58, 59, 60, 61, 62, 63, 64, 65, 66, 67, 68, 69, 70, 71, 72, 73, 74, 75, 76, 77, 78, 79, 80, 81, 82, 83, 84, 85, 86, 87, 88, 89, 90, 91, 92, 93, 94, 95, 96, 97, 98, 99, 100, 101, 102, 103, 104, 105] rfl
        exact xe_wz hx hb hr (Or.inr rfl) hlocks hS hP dL_isMerged_49
      · have hf := c12f c12
        refine xk_iconst hx hb dL_isMerged_48 ?_
        obtain rfl := Option.some.inj hf
        refine W.widen (k := 3) (n := 13) (by omega) (by omega) ?_
        have hP : va_P (dC, dI) vwCl (([[qcC cs aa 64 va], [qcC cs ah 8 vh], [qcC cs af 64 vf]] ++ w4 cs a y10).flatten) H := hP.sub (ws' := ([[qcC cs aa 64 va], [qcC cs ah 8 vh], [qcC cs af 64 vf]] ++ w4 cs a y10).flatten) [0, 1, 2, 4, 5, 6, 7, 8, 9, 10, 11, 12, 13, 14, 15, 16, 17, 18, 19, 20, 21, 22, 23, 24, 25, 26, 27, 28, 29, 30, 31, 32, 33, 34, 35, 36, 37, 38, 39, 40, 41, 42, 43, 44, 45, 46, 47, 48, 49, 50, 51, 52, 53, 54, 55, 56, 57, 58, 59, 60, 61, 62, 63, 64, 65, 66, 67, 68, 69, 70, 71, 72, 73, 74, 75, 76, 77, 78, 79, 80, 81, 82, 83, 84, 85, 86, 87, 88, 89, 90, 91, 92, 93, 94, 95, 96, 97, 98, 99, 100, 101, 102, 103, 104, 105] rfl
        exact xe_wz hx hb hr (Or.inl rfl) hlocks hS hP dL_isMerged_49
    · have hf := c6f c6
      refine xk_iconst hx hb dL_isMerged_48 ?_
      obtain rfl := Option.some.inj hf
      refine W.widen (k := 3) (n := 13) (by omega) (by omega) ?_
      have hP : va_P (dC, dI) vwCl (([[qcC cs aa 64 va], [qcC cs ah 8 vh], [qcC cs af 64 vf]] ++ w4 cs a y4).flatten) H := hP.sub (ws' := ([[qcC cs aa 64 va], [qcC cs ah 8 vh], [qcC cs af 64 vf]] ++ w4 cs a y4).flatten) [0, 1, 2, 4, 5, 6, 7, 8, 9, 10, 11, 12, 13, 14, 15, 16, 17, 18, 19, 20, 21, 22, 23, 24, 25, 26, 27, 28, 29, 30, 31, 32, 33, 34, 35, 36, 37, 38, 39, 40, 41, 42, 43, 44, 45, 46, 47, 48, 49, 50, 51, 52, 53, 54, 55, 56, 57, 58, 59, 60, 61, 62, 63, 64, 65, 66, 67, 68, 69, 70, 71, 72, 73, 74, 75, 76, 77, 78, 79, 80, 81, 82, 83, 84, 85, 86, 87, 88, 89, 90, 91, 92, 93, 94, 95, 96, 97, 98, 99, 100, 101, 102, 103, 104, 105] rfl
      exact xe_wz hx hb hr (Or.inl rfl) hlocks hS hP dL_isMerged_49
  · have hf := c2f c2
    refine lv_iload hx hb dL_isMerged_50 (lv_at hl 6 rfl) ?_
    refine xk_iconst hx hb dL_isMerged_52 ?_
    obtain ⟨v13, ev13, hf⟩ := x_bind hf
    refine xc_si (As := [.int (iI p4), .int (iI 2)]) (rest := []) ⟨hx, hb, hml, hown, hts⟩ (kL_low l p4 2 _ ev13) (va_cwS 2 hts gL_isMerged_L_low rfl rfl rfl cdL_low ⟨Nat.le_of_ble_eq_true rfl, Nat.le_of_ble_eq_true rfl⟩) rfl hl.1 rfl (Nat.le_of_ble_eq_true rfl) dL_isMerged_53 ⟨by show _ ≤ 3; omega, by show _ ≤ 13; omega⟩ ?_
    obtain ⟨c14a, c14b, c14t, c14f⟩ := x_eqE hf
    refine xk_if_ne (tgt := 125) hx hb c14a dL_isMerged_56 (by decide) (fun c14 => ?_) (fun c14 => ?_)
    · have hf := c14t c14
      refine lv_aload_n hx hb dL_isMerged_59 rfl (lv_at hl 3 rfl) ?_
      refine lv_aload_n hx hb dL_isMerged_60 rfl (lv_at hl 4 rfl) ?_
      refine lv_aload_n hx hb dL_isMerged_61 rfl (lv_at hl 5 rfl) ?_
      refine xk_iconst hx hb dL_isMerged_62 ?_
      obtain ⟨v15, ev15, hf⟩ := x_bind hf
      refine xf_sri (As := [.ref aa, .ref ah, .ref af, .int (iI (-1))]) (rest := []) (wcs := ([[qcC cs aa 64 va], [qcC cs ah 8 vh], [qcC cs af 64 vf]] : List va_W)) ⟨hx, hb, hml, hown, hts⟩ (kL_lightest l dC dI cs aa ah af va vh vf (-1) _ ev15) (va_cwS 4 hts gL_isMerged_L_lightest rfl rfl rfl cdL_lightest ⟨Nat.le_of_ble_eq_true rfl, Nat.le_of_ble_eq_true rfl⟩) hK hP [0, 1, 2] rfl rfl rfl hl.1 rfl (Nat.le_of_ble_eq_true rfl) dL_isMerged_63 ⟨by show _ ≤ 3; omega, by show _ ≤ 13; omega⟩ ?_
      refine lv_istore (lv' := [(7, .int (iI v15)), (6, .int (iI v1)), (5, .ref ao), (0, .ref (a 0)), (1, .ref aa), (2, .ref ah), (3, .ref af), (4, .int (iI p4))]) hx hb dL_isMerged_66 hl (by decide) rfl (fun ls hl => ?_)
      refine lv_aload_n hx hb dL_isMerged_68 rfl (lv_at hl 4 rfl) ?_
      refine lv_aload_n hx hb dL_isMerged_69 rfl (lv_at hl 5 rfl) ?_
      refine lv_aload_n hx hb dL_isMerged_70 rfl (lv_at hl 6 rfl) ?_
      refine lv_iload hx hb dL_isMerged_71 (lv_at hl 0 rfl) ?_
      obtain ⟨v16, ev16, hf⟩ := x_bind hf
      refine xf_sri (As := [.ref aa, .ref ah, .ref af, .int (iI v15)]) (rest := []) (wcs := ([[qcC cs aa 64 va], [qcC cs ah 8 vh], [qcC cs af 64 vf]] : List va_W)) ⟨hx, hb, hml, hown, hts⟩ (kL_lightest l dC dI cs aa ah af va vh vf v15 _ ev16) (va_cwS 4 hts gL_isMerged_L_lightest rfl rfl rfl cdL_lightest ⟨Nat.le_of_ble_eq_true rfl, Nat.le_of_ble_eq_true rfl⟩) hK hP [0, 1, 2] rfl rfl rfl hl.1 rfl (Nat.le_of_ble_eq_true rfl) dL_isMerged_73 ⟨by show _ ≤ 3; omega, by show _ ≤ 13; omega⟩ ?_
      refine lv_istore (lv' := [(8, .int (iI v16)), (7, .int (iI v15)), (6, .int (iI v1)), (5, .ref ao), (0, .ref (a 0)), (1, .ref aa), (2, .ref ah), (3, .ref af), (4, .int (iI p4))]) hx hb dL_isMerged_76 hl (by decide) rfl (fun ls hl => ?_)
      refine lv_aload_n hx hb dL_isMerged_78 rfl (lv_at hl 5 rfl) ?_
      refine lv_aload_n hx hb dL_isMerged_79 rfl (lv_at hl 6 rfl) ?_
      refine lv_aload_n hx hb dL_isMerged_80 rfl (lv_at hl 7 rfl) ?_
      refine lv_iload hx hb dL_isMerged_81 (lv_at hl 1 rfl) ?_
      refine lv_iload hx hb dL_isMerged_83 (lv_at hl 0 rfl) ?_
      obtain ⟨⟨v20, g17, g18, g19⟩, ev20, hf⟩ := x_bind hf
      refine xf_swi (As := [.ref aa, .ref ah, .ref af, .int (iI v15), .int (iI v16)]) (rest := []) (wcs := ([[qcC cs aa 64 va], [qcC cs ah 8 vh], [qcC cs af 64 vf]] : List va_W)) (w1s := ([[qcC cs aa 64 g17], [qcC cs ah 8 g18], [qcC cs af 64 g19]] : List va_W)) ⟨hx, hb, hml, hown, hts⟩ (kL_merges l dC dI cs aa ah af _ va vh vf v15 v16 _ ev20) (va_cwS 5 hts gL_isMerged_L_merges rfl rfl rfl cdL_merges ⟨Nat.le_of_ble_eq_true rfl, Nat.le_of_ble_eq_true rfl⟩) hK hP (x_addrF hD rfl) hS hA [0, 1, 2] rfl rfl rfl (by decide) rfl rfl hl.1 rfl (Nat.le_of_ble_eq_true rfl) dL_isMerged_85 ⟨by show _ ≤ 3; omega, by show _ ≤ 13; omega⟩ (fun H locs hP hS => ?_)
      have hP : va_P (dC, dI) vwCl (([[qcC cs aa 64 g17], [qcC cs ah 8 g18], [qcC cs af 64 g19], [qcC cs ao 1 (fun _ => 0)]] ++ w4 cs a y).flatten) H := hP
      refine lv_pop hx hb dL_isMerged_88 rfl ?_
      refine lv_aload_n hx hb dL_isMerged_89 rfl (lv_at hl 4 rfl) ?_
      refine lv_aload hx hb dL_isMerged_90 (lv_at hl 3 rfl) ?_
      obtain ⟨⟨v23, g21, y22⟩, ev23, hf⟩ := x_bind hf
      refine xf_sw (As := [.ref (a 0), .ref ao]) (rest := []) (wcs := [[qcC cs ao 1 (fun _ => 0)]] ++ w4 cs a y) (w1s := [[qcC cs ao 1 g21]] ++ w4 cs a y22) ⟨hx, hb, hml, hown, hts⟩ (kL_mergeLightest l hlS dC dI cs ao a H.size (fun _ => 0) y _ ev23) (vx_cwSW 2 hts gL_isMerged_L_mergeLightest rfl rfl rfl cdL_mergeLightest ⟨Nat.le_of_ble_eq_true rfl, Nat.le_of_ble_eq_true rfl⟩) hK hP (x_addrF hD rfl) hS hA hTh hN [3, 4, 5, 6, 7, 8, 9, 10, 11, 12, 13] rfl rfl rfl (by decide) rfl rfl hl.1 rfl (Nat.le_of_ble_eq_true rfl) dL_isMerged_92 ⟨by show _ ≤ 3; omega, by show _ ≤ 13; omega⟩ (fun H locs hP hS => ?_)
      have hP : va_P (dC, dI) vwCl (([[qcC cs aa 64 g17], [qcC cs ah 8 g18], [qcC cs af 64 g19], [qcC cs ao 1 g21]] ++ w4 cs a y22).flatten) H := hP
      obtain ⟨c24a, c24b, c24t, c24f⟩ := x_eqE hf
      refine xk_if_ne (tgt := 123) hx hb c24a dL_isMerged_95 (by decide) (fun c24 => ?_) (fun c24 => ?_)
      · have hf := c24t c24
        refine lv_aload hx hb dL_isMerged_98 (lv_at hl 3 rfl) ?_
        refine xk_iconst hx hb dL_isMerged_100 ?_
        obtain ⟨v25, ev25, hf⟩ := x_bind hf
        refine xk_iald (f := g21) hx hb hK hP 3 0 ev25 (by decide) rfl rfl dL_isMerged_101 ?_
        refine lv_iload hx hb dL_isMerged_102 (lv_at hl 1 rfl) ?_
        refine lv_iload hx hb dL_isMerged_104 (lv_at hl 0 rfl) ?_
        obtain ⟨c26a, c26b, c26t, c26f⟩ := x_ltE hf
        refine xk_icmp_ge (tgt := 114) hx hb c26a c26b dL_isMerged_106 (by decide) (fun c26 => ?_) (fun c26 => ?_)
        · have hf := c26t c26
          refine lv_iload hx hb dL_isMerged_109 (lv_at hl 1 rfl) ?_
          refine lv_goto (tgt := 116) hx hb dL_isMerged_111 (by decide) ?_
          obtain ⟨c27a, c27b, c27t, c27f⟩ := x_eqE hf
          refine xk_icmp_ne (tgt := 123) hx hb c27a c27b dL_isMerged_116 (by decide) (fun c27 => ?_) (fun c27 => ?_)
          · have hf := c27t c27
            refine xk_iconst hx hb dL_isMerged_119 ?_
            refine lv_goto (tgt := 124) hx hb dL_isMerged_120 (by decide) ?_
            obtain rfl := Option.some.inj hf
            refine W.widen (k := 3) (n := 13) (by omega) (by omega) ?_
            have hP : va_P (dC, dI) vwCl (([[qcC cs aa 64 g17], [qcC cs ah 8 g18], [qcC cs af 64 g19]] ++ w4 cs a y22).flatten) H := hP.sub (ws' := ([[qcC cs aa 64 g17], [qcC cs ah 8 g18], [qcC cs af 64 g19]] ++ w4 cs a y22).flatten) [0, 1, 2, 4, 5, 6, 7, 8, 9, 10, 11, 12, 13, 14, 15, 16, 17, 18, 19, 20, 21, 22, 23, 24, 25, 26, 27, 28, 29, 30, 31, 32, 33, 34, 35, 36, 37, 38, 39, 40, 41, 42, 43, 44, 45, 46, 47, 48, 49, 50, 51, 52, 53, 54, 55, 56, 57, 58, 59, 60, 61, 62, 63, 64, 65, 66, 67, 68, 69, 70, 71, 72, 73, 74, 75, 76, 77, 78, 79, 80, 81, 82, 83, 84, 85, 86, 87, 88, 89, 90, 91, 92, 93, 94, 95, 96, 97, 98, 99, 100, 101, 102, 103, 104, 105] rfl
            exact xe_wz hx hb hr (Or.inr rfl) hlocks hS hP dL_isMerged_124
          · have hf := c27f c27
            refine xk_iconst hx hb dL_isMerged_123 ?_
            obtain rfl := Option.some.inj hf
            refine W.widen (k := 3) (n := 13) (by omega) (by omega) ?_
            have hP : va_P (dC, dI) vwCl (([[qcC cs aa 64 g17], [qcC cs ah 8 g18], [qcC cs af 64 g19]] ++ w4 cs a y22).flatten) H := hP.sub (ws' := ([[qcC cs aa 64 g17], [qcC cs ah 8 g18], [qcC cs af 64 g19]] ++ w4 cs a y22).flatten) [0, 1, 2, 4, 5, 6, 7, 8, 9, 10, 11, 12, 13, 14, 15, 16, 17, 18, 19, 20, 21, 22, 23, 24, 25, 26, 27, 28, 29, 30, 31, 32, 33, 34, 35, 36, 37, 38, 39, 40, 41, 42, 43, 44, 45, 46, 47, 48, 49, 50, 51, 52, 53, 54, 55, 56, 57, 58, 59, 60, 61, 62, 63, 64, 65, 66, 67, 68, 69, 70, 71, 72, 73, 74, 75, 76, 77, 78, 79, 80, 81, 82, 83, 84, 85, 86, 87, 88, 89, 90, 91, 92, 93, 94, 95, 96, 97, 98, 99, 100, 101, 102, 103, 104, 105] rfl
            exact xe_wz hx hb hr (Or.inl rfl) hlocks hS hP dL_isMerged_124
        · have hf := c26f c26
          refine lv_iload hx hb dL_isMerged_114 (lv_at hl 0 rfl) ?_
          obtain ⟨c28a, c28b, c28t, c28f⟩ := x_eqE hf
          refine xk_icmp_ne (tgt := 123) hx hb c28a c28b dL_isMerged_116 (by decide) (fun c28 => ?_) (fun c28 => ?_)
          · have hf := c28t c28
            refine xk_iconst hx hb dL_isMerged_119 ?_
            refine lv_goto (tgt := 124) hx hb dL_isMerged_120 (by decide) ?_
            obtain rfl := Option.some.inj hf
            refine W.widen (k := 3) (n := 13) (by omega) (by omega) ?_
            have hP : va_P (dC, dI) vwCl (([[qcC cs aa 64 g17], [qcC cs ah 8 g18], [qcC cs af 64 g19]] ++ w4 cs a y22).flatten) H := hP.sub (ws' := ([[qcC cs aa 64 g17], [qcC cs ah 8 g18], [qcC cs af 64 g19]] ++ w4 cs a y22).flatten) [0, 1, 2, 4, 5, 6, 7, 8, 9, 10, 11, 12, 13, 14, 15, 16, 17, 18, 19, 20, 21, 22, 23, 24, 25, 26, 27, 28, 29, 30, 31, 32, 33, 34, 35, 36, 37, 38, 39, 40, 41, 42, 43, 44, 45, 46, 47, 48, 49, 50, 51, 52, 53, 54, 55, 56, 57, 58, 59, 60, 61, 62, 63, 64, 65, 66, 67, 68, 69, 70, 71, 72, 73, 74, 75, 76, 77, 78, 79, 80, 81, 82, 83, 84, 85, 86, 87, 88, 89, 90, 91, 92, 93, 94, 95, 96, 97, 98, 99, 100, 101, 102, 103, 104, 105] rfl
            exact xe_wz hx hb hr (Or.inr rfl) hlocks hS hP dL_isMerged_124
          · have hf := c28f c28
            refine xk_iconst hx hb dL_isMerged_123 ?_
            obtain rfl := Option.some.inj hf
            refine W.widen (k := 3) (n := 13) (by omega) (by omega) ?_
            have hP : va_P (dC, dI) vwCl (([[qcC cs aa 64 g17], [qcC cs ah 8 g18], [qcC cs af 64 g19]] ++ w4 cs a y22).flatten) H := hP.sub (ws' := ([[qcC cs aa 64 g17], [qcC cs ah 8 g18], [qcC cs af 64 g19]] ++ w4 cs a y22).flatten) [0, 1, 2, 4, 5, 6, 7, 8, 9, 10, 11, 12, 13, 14, 15, 16, 17, 18, 19, 20, 21, 22, 23, 24, 25, 26, 27, 28, 29, 30, 31, 32, 33, 34, 35, 36, 37, 38, 39, 40, 41, 42, 43, 44, 45, 46, 47, 48, 49, 50, 51, 52, 53, 54, 55, 56, 57, 58, 59, 60, 61, 62, 63, 64, 65, 66, 67, 68, 69, 70, 71, 72, 73, 74, 75, 76, 77, 78, 79, 80, 81, 82, 83, 84, 85, 86, 87, 88, 89, 90, 91, 92, 93, 94, 95, 96, 97, 98, 99, 100, 101, 102, 103, 104, 105] rfl
            exact xe_wz hx hb hr (Or.inl rfl) hlocks hS hP dL_isMerged_124
      · have hf := c24f c24
        refine xk_iconst hx hb dL_isMerged_123 ?_
        obtain rfl := Option.some.inj hf
        refine W.widen (k := 3) (n := 13) (by omega) (by omega) ?_
        have hP : va_P (dC, dI) vwCl (([[qcC cs aa 64 g17], [qcC cs ah 8 g18], [qcC cs af 64 g19]] ++ w4 cs a y22).flatten) H := hP.sub (ws' := ([[qcC cs aa 64 g17], [qcC cs ah 8 g18], [qcC cs af 64 g19]] ++ w4 cs a y22).flatten) [0, 1, 2, 4, 5, 6, 7, 8, 9, 10, 11, 12, 13, 14, 15, 16, 17, 18, 19, 20, 21, 22, 23, 24, 25, 26, 27, 28, 29, 30, 31, 32, 33, 34, 35, 36, 37, 38, 39, 40, 41, 42, 43, 44, 45, 46, 47, 48, 49, 50, 51, 52, 53, 54, 55, 56, 57, 58, 59, 60, 61, 62, 63, 64, 65, 66, 67, 68, 69, 70, 71, 72, 73, 74, 75, 76, 77, 78, 79, 80, 81, 82, 83, 84, 85, 86, 87, 88, 89, 90, 91, 92, 93, 94, 95, 96, 97, 98, 99, 100, 101, 102, 103, 104, 105] rfl
        exact xe_wz hx hb hr (Or.inl rfl) hlocks hS hP dL_isMerged_124
    · have hf := c14f c14
      refine lv_aload_n hx hb dL_isMerged_125 rfl (lv_at hl 4 rfl) ?_
      refine lv_aload_n hx hb dL_isMerged_126 rfl (lv_at hl 5 rfl) ?_
      refine lv_iload hx hb dL_isMerged_127 (lv_at hl 6 rfl) ?_
      refine xk_iconst hx hb dL_isMerged_129 ?_
      refine xk_ishr hx hb dL_isMerged_130 ?_
      refine lv_iload hx hb dL_isMerged_131 (lv_at hl 0 rfl) ?_
      obtain ⟨v29, ev29, hf⟩ := x_bind hf
      refine xc_si (As := [.int (iI (x_shr p4 3)), .int (iI v1)]) (rest := [.ref af, .ref ah]) ⟨hx, hb, hml, hown, hts⟩ (kL_low l (x_shr p4 3) v1 _ ev29) (va_cwS 2 hts gL_isMerged_L_low rfl rfl rfl cdL_low ⟨Nat.le_of_ble_eq_true rfl, Nat.le_of_ble_eq_true rfl⟩) rfl hl.1 rfl (Nat.le_of_ble_eq_true rfl) dL_isMerged_133 ⟨by show _ ≤ 3; omega, by show _ ≤ 13; omega⟩ ?_
      obtain ⟨v30, ev30, hf⟩ := x_bind hf
      refine xf_sri (As := [.ref ah, .ref af, .int (iI v29)]) (rest := []) (wcs := ([[qcC cs ah 8 vh], [qcC cs af 64 vf]] : List va_W)) ⟨hx, hb, hml, hown, hts⟩ (kL_runBy l dC dI cs ah af vh vf v29 _ ev30) (va_cwS 3 hts gL_isMerged_L_runBy rfl rfl rfl cdL_runBy ⟨Nat.le_of_ble_eq_true rfl, Nat.le_of_ble_eq_true rfl⟩) hK hP [1, 2] rfl rfl rfl hl.1 rfl (Nat.le_of_ble_eq_true rfl) dL_isMerged_136 ⟨by show _ ≤ 3; omega, by show _ ≤ 13; omega⟩ ?_
      refine lv_istore (lv' := [(7, .int (iI v30)), (6, .int (iI v1)), (5, .ref ao), (0, .ref (a 0)), (1, .ref aa), (2, .ref ah), (3, .ref af), (4, .int (iI p4))]) hx hb dL_isMerged_139 hl (by decide) rfl (fun ls hl => ?_)
      refine lv_aload_n hx hb dL_isMerged_141 rfl (lv_at hl 5 rfl) ?_
      refine lv_aload_n hx hb dL_isMerged_142 rfl (lv_at hl 6 rfl) ?_
      refine lv_iload hx hb dL_isMerged_143 (lv_at hl 7 rfl) ?_
      refine xk_bipush hx hb dL_isMerged_145 (by decide) ?_
      refine xk_ishr hx hb dL_isMerged_147 ?_
      refine lv_iload hx hb dL_isMerged_148 (lv_at hl 1 rfl) ?_
      obtain ⟨v31, ev31, hf⟩ := x_bind hf
      refine xc_si (As := [.int (iI (x_shr p4 9)), .int (iI v1)]) (rest := [.ref af, .ref ah]) ⟨hx, hb, hml, hown, hts⟩ (kL_low l (x_shr p4 9) v1 _ ev31) (va_cwS 2 hts gL_isMerged_L_low rfl rfl rfl cdL_low ⟨Nat.le_of_ble_eq_true rfl, Nat.le_of_ble_eq_true rfl⟩) rfl hl.1 rfl (Nat.le_of_ble_eq_true rfl) dL_isMerged_150 ⟨by show _ ≤ 3; omega, by show _ ≤ 13; omega⟩ ?_
      obtain ⟨v32, ev32, hf⟩ := x_bind hf
      refine xf_sri (As := [.ref ah, .ref af, .int (iI v31)]) (rest := []) (wcs := ([[qcC cs ah 8 vh], [qcC cs af 64 vf]] : List va_W)) ⟨hx, hb, hml, hown, hts⟩ (kL_runBy l dC dI cs ah af vh vf v31 _ ev32) (va_cwS 3 hts gL_isMerged_L_runBy rfl rfl rfl cdL_runBy ⟨Nat.le_of_ble_eq_true rfl, Nat.le_of_ble_eq_true rfl⟩) hK hP [1, 2] rfl rfl rfl hl.1 rfl (Nat.le_of_ble_eq_true rfl) dL_isMerged_153 ⟨by show _ ≤ 3; omega, by show _ ≤ 13; omega⟩ ?_
      refine lv_istore (lv' := [(8, .int (iI v32)), (7, .int (iI v30)), (6, .int (iI v1)), (5, .ref ao), (0, .ref (a 0)), (1, .ref aa), (2, .ref ah), (3, .ref af), (4, .int (iI p4))]) hx hb dL_isMerged_156 hl (by decide) rfl (fun ls hl => ?_)
      refine lv_iload hx hb dL_isMerged_158 (lv_at hl 1 rfl) ?_
      refine lv_iload hx hb dL_isMerged_160 (lv_at hl 0 rfl) ?_
      obtain ⟨c33a, c33b, c33t, c33f⟩ := x_eqE hf
      refine xk_icmp_ne (tgt := 200) hx hb c33a c33b dL_isMerged_162 (by decide) (fun c33 => ?_) (fun c33 => ?_)
      · have hf := c33t c33
        refine lv_aload_n hx hb dL_isMerged_165 rfl (lv_at hl 4 rfl) ?_
        refine lv_iload hx hb dL_isMerged_166 (lv_at hl 1 rfl) ?_
        refine lv_iload hx hb dL_isMerged_168 (lv_at hl 0 rfl) ?_
        refine lv_aload hx hb dL_isMerged_170 (lv_at hl 3 rfl) ?_
        obtain ⟨⟨v36, g34, y35⟩, ev36, hf⟩ := x_bind hf
        refine xf_sw (As := [.ref (a 0), .int (iI v30), .int (iI v32), .ref ao]) (rest := []) (wcs := [[qcC cs ao 1 (fun _ => 0)]] ++ w4 cs a y) (w1s := [[qcC cs ao 1 g34]] ++ w4 cs a y35) ⟨hx, hb, hml, hown, hts⟩ (kL_merge l hlS dC dI cs ao a H.size (fun _ => 0) y v30 v32 _ ev36) (vx_cwSW 4 hts gL_isMerged_L_merge rfl rfl rfl cdL_merge ⟨Nat.le_of_ble_eq_true rfl, Nat.le_of_ble_eq_true rfl⟩) hK hP (x_addrF hD rfl) hS hA hTh hN [3, 4, 5, 6, 7, 8, 9, 10, 11, 12, 13] rfl rfl rfl (by decide) rfl rfl hl.1 rfl (Nat.le_of_ble_eq_true rfl) dL_isMerged_172 ⟨by show _ ≤ 3; omega, by show _ ≤ 13; omega⟩ (fun H locs hP hS => ?_)
        have hP : va_P (dC, dI) vwCl (([[qcC cs aa 64 va], [qcC cs ah 8 vh], [qcC cs af 64 vf], [qcC cs ao 1 g34]] ++ w4 cs a y35).flatten) H := hP
        refine xk_iconst hx hb dL_isMerged_175 ?_
        obtain ⟨c37a, c37b, c37t, c37f⟩ := x_eqE hf
        refine xk_icmp_ne (tgt := 198) hx hb c37a c37b dL_isMerged_176 (by decide) (fun c37 => ?_) (fun c37 => ?_)
        · have hf := c37t c37
          refine lv_aload_n hx hb dL_isMerged_179 rfl (lv_at hl 4 rfl) ?_
          refine lv_iload hx hb dL_isMerged_180 (lv_at hl 1 rfl) ?_
          refine lv_aload_n hx hb dL_isMerged_182 rfl (lv_at hl 6 rfl) ?_
          refine xk_iconst hx hb dL_isMerged_183 ?_
          obtain ⟨v38, ev38, hf⟩ := x_bind hf
          refine xk_iald (f := vh) hx hb hK hP 1 0 ev38 (by decide) rfl rfl dL_isMerged_184 ?_
          refine lv_aload hx hb dL_isMerged_185 (lv_at hl 3 rfl) ?_
          obtain ⟨⟨v41, g39, y40⟩, ev41, hf⟩ := x_bind hf
          refine xf_sw (As := [.ref (a 0), .int (iI v30), .int (iI v38), .ref ao]) (rest := []) (wcs := [[qcC cs ao 1 g34]] ++ w4 cs a y35) (w1s := [[qcC cs ao 1 g39]] ++ w4 cs a y40) ⟨hx, hb, hml, hown, hts⟩ (kL_merge l hlS dC dI cs ao a H.size g34 y35 v30 v38 _ ev41) (vx_cwSW 4 hts gL_isMerged_L_merge rfl rfl rfl cdL_merge ⟨Nat.le_of_ble_eq_true rfl, Nat.le_of_ble_eq_true rfl⟩) hK hP (x_addrF hD rfl) hS hA hTh hN [3, 4, 5, 6, 7, 8, 9, 10, 11, 12, 13] rfl rfl rfl (by decide) rfl rfl hl.1 rfl (Nat.le_of_ble_eq_true rfl) dL_isMerged_187 ⟨by show _ ≤ 3; omega, by show _ ≤ 13; omega⟩ (fun H locs hP hS => ?_)
          have hP : va_P (dC, dI) vwCl (([[qcC cs aa 64 va], [qcC cs ah 8 vh], [qcC cs af 64 vf], [qcC cs ao 1 g39]] ++ w4 cs a y40).flatten) H := hP
          refine xk_iconst hx hb dL_isMerged_190 ?_
          obtain ⟨c42a, c42b, c42t, c42f⟩ := x_eqE hf
          refine xk_icmp_ne (tgt := 198) hx hb c42a c42b dL_isMerged_191 (by decide) (fun c42 => ?_) (fun c42 => ?_)
          · have hf := c42t c42
            refine xk_iconst hx hb dL_isMerged_194 ?_
            refine lv_goto (tgt := 199) hx hb dL_isMerged_195 (by decide) ?_
            obtain rfl := Option.some.inj hf
            refine W.widen (k := 3) (n := 13) (by omega) (by omega) ?_
            have hP : va_P (dC, dI) vwCl (([[qcC cs aa 64 va], [qcC cs ah 8 vh], [qcC cs af 64 vf]] ++ w4 cs a y40).flatten) H := hP.sub (ws' := ([[qcC cs aa 64 va], [qcC cs ah 8 vh], [qcC cs af 64 vf]] ++ w4 cs a y40).flatten) [0, 1, 2, 4, 5, 6, 7, 8, 9, 10, 11, 12, 13, 14, 15, 16, 17, 18, 19, 20, 21, 22, 23, 24, 25, 26, 27, 28, 29, 30, 31, 32, 33, 34, 35, 36, 37, 38, 39, 40, 41, 42, 43, 44, 45, 46, 47, 48, 49, 50, 51, 52, 53, 54, 55, 56, 57, 58, 59, 60, 61, 62, 63, 64, 65, 66, 67, 68, 69, 70, 71, 72, 73, 74, 75, 76, 77, 78, 79, 80, 81, 82, 83, 84, 85, 86, 87, 88, 89, 90, 91, 92, 93, 94, 95, 96, 97, 98, 99, 100, 101, 102, 103, 104, 105] rfl
            exact xe_wz hx hb hr (Or.inr rfl) hlocks hS hP dL_isMerged_199
          · have hf := c42f c42
            refine xk_iconst hx hb dL_isMerged_198 ?_
            obtain rfl := Option.some.inj hf
            refine W.widen (k := 3) (n := 13) (by omega) (by omega) ?_
            have hP : va_P (dC, dI) vwCl (([[qcC cs aa 64 va], [qcC cs ah 8 vh], [qcC cs af 64 vf]] ++ w4 cs a y40).flatten) H := hP.sub (ws' := ([[qcC cs aa 64 va], [qcC cs ah 8 vh], [qcC cs af 64 vf]] ++ w4 cs a y40).flatten) [0, 1, 2, 4, 5, 6, 7, 8, 9, 10, 11, 12, 13, 14, 15, 16, 17, 18, 19, 20, 21, 22, 23, 24, 25, 26, 27, 28, 29, 30, 31, 32, 33, 34, 35, 36, 37, 38, 39, 40, 41, 42, 43, 44, 45, 46, 47, 48, 49, 50, 51, 52, 53, 54, 55, 56, 57, 58, 59, 60, 61, 62, 63, 64, 65, 66, 67, 68, 69, 70, 71, 72, 73, 74, 75, 76, 77, 78, 79, 80, 81, 82, 83, 84, 85, 86, 87, 88, 89, 90, 91, 92, 93, 94, 95, 96, 97, 98, 99, 100, 101, 102, 103, 104, 105] rfl
            exact xe_wz hx hb hr (Or.inl rfl) hlocks hS hP dL_isMerged_199
        · have hf := c37f c37
          refine xk_iconst hx hb dL_isMerged_198 ?_
          obtain rfl := Option.some.inj hf
          refine W.widen (k := 3) (n := 13) (by omega) (by omega) ?_
          have hP : va_P (dC, dI) vwCl (([[qcC cs aa 64 va], [qcC cs ah 8 vh], [qcC cs af 64 vf]] ++ w4 cs a y35).flatten) H := hP.sub (ws' := ([[qcC cs aa 64 va], [qcC cs ah 8 vh], [qcC cs af 64 vf]] ++ w4 cs a y35).flatten) [0, 1, 2, 4, 5, 6, 7, 8, 9, 10, 11, 12, 13, 14, 15, 16, 17, 18, 19, 20, 21, 22, 23, 24, 25, 26, 27, 28, 29, 30, 31, 32, 33, 34, 35, 36, 37, 38, 39, 40, 41, 42, 43, 44, 45, 46, 47, 48, 49, 50, 51, 52, 53, 54, 55, 56, 57, 58, 59, 60, 61, 62, 63, 64, 65, 66, 67, 68, 69, 70, 71, 72, 73, 74, 75, 76, 77, 78, 79, 80, 81, 82, 83, 84, 85, 86, 87, 88, 89, 90, 91, 92, 93, 94, 95, 96, 97, 98, 99, 100, 101, 102, 103, 104, 105] rfl
          exact xe_wz hx hb hr (Or.inl rfl) hlocks hS hP dL_isMerged_199
      · have hf := c33f c33
        refine lv_aload_n hx hb dL_isMerged_200 rfl (lv_at hl 4 rfl) ?_
        refine lv_iload hx hb dL_isMerged_201 (lv_at hl 1 rfl) ?_
        refine lv_iload hx hb dL_isMerged_203 (lv_at hl 0 rfl) ?_
        refine lv_aload hx hb dL_isMerged_205 (lv_at hl 3 rfl) ?_
        obtain ⟨⟨v45, g43, y44⟩, ev45, hf⟩ := x_bind hf
        refine xf_sw (As := [.ref (a 0), .int (iI v30), .int (iI v32), .ref ao]) (rest := []) (wcs := [[qcC cs ao 1 (fun _ => 0)]] ++ w4 cs a y) (w1s := [[qcC cs ao 1 g43]] ++ w4 cs a y44) ⟨hx, hb, hml, hown, hts⟩ (kL_merge l hlS dC dI cs ao a H.size (fun _ => 0) y v30 v32 _ ev45) (vx_cwSW 4 hts gL_isMerged_L_merge rfl rfl rfl cdL_merge ⟨Nat.le_of_ble_eq_true rfl, Nat.le_of_ble_eq_true rfl⟩) hK hP (x_addrF hD rfl) hS hA hTh hN [3, 4, 5, 6, 7, 8, 9, 10, 11, 12, 13] rfl rfl rfl (by decide) rfl rfl hl.1 rfl (Nat.le_of_ble_eq_true rfl) dL_isMerged_207 ⟨by show _ ≤ 3; omega, by show _ ≤ 13; omega⟩ (fun H locs hP hS => ?_)
        have hP : va_P (dC, dI) vwCl (([[qcC cs aa 64 va], [qcC cs ah 8 vh], [qcC cs af 64 vf], [qcC cs ao 1 g43]] ++ w4 cs a y44).flatten) H := hP
        obtain ⟨c46a, c46b, c46t, c46f⟩ := x_eqE hf
        refine xk_if_ne (tgt := 234) hx hb c46a dL_isMerged_210 (by decide) (fun c46 => ?_) (fun c46 => ?_)
        · have hf := c46t c46
          refine lv_aload hx hb dL_isMerged_213 (lv_at hl 3 rfl) ?_
          refine xk_iconst hx hb dL_isMerged_215 ?_
          obtain ⟨v47, ev47, hf⟩ := x_bind hf
          refine xk_iald (f := g43) hx hb hK hP 3 0 ev47 (by decide) rfl rfl dL_isMerged_216 ?_
          refine lv_aload_n hx hb dL_isMerged_217 rfl (lv_at hl 5 rfl) ?_
          refine lv_aload_n hx hb dL_isMerged_218 rfl (lv_at hl 6 rfl) ?_
          refine lv_aload_n hx hb dL_isMerged_219 rfl (lv_at hl 7 rfl) ?_
          refine lv_iload hx hb dL_isMerged_220 (lv_at hl 1 rfl) ?_
          refine lv_iload hx hb dL_isMerged_222 (lv_at hl 0 rfl) ?_
          obtain ⟨⟨v51, g48, g49, g50⟩, ev51, hf⟩ := x_bind hf
          refine xf_swi (As := [.ref aa, .ref ah, .ref af, .int (iI v30), .int (iI v32)]) (rest := [.int (iI v47)]) (wcs := ([[qcC cs aa 64 va], [qcC cs ah 8 vh], [qcC cs af 64 vf]] : List va_W)) (w1s := ([[qcC cs aa 64 g48], [qcC cs ah 8 g49], [qcC cs af 64 g50]] : List va_W)) ⟨hx, hb, hml, hown, hts⟩ (kL_merges l dC dI cs aa ah af _ va vh vf v30 v32 _ ev51) (va_cwS 5 hts gL_isMerged_L_merges rfl rfl rfl cdL_merges ⟨Nat.le_of_ble_eq_true rfl, Nat.le_of_ble_eq_true rfl⟩) hK hP (x_addrF hD rfl) hS hA [0, 1, 2] rfl rfl rfl (by decide) rfl rfl hl.1 rfl (Nat.le_of_ble_eq_true rfl) dL_isMerged_224 ⟨by show _ ≤ 3; omega, by show _ ≤ 13; omega⟩ (fun H locs hP hS => ?_)
          have hP : va_P (dC, dI) vwCl (([[qcC cs aa 64 g48], [qcC cs ah 8 g49], [qcC cs af 64 g50], [qcC cs ao 1 g43]] ++ w4 cs a y44).flatten) H := hP
          obtain ⟨c52a, c52b, c52t, c52f⟩ := x_eqE hf
          refine xk_icmp_ne (tgt := 234) hx hb c52a c52b dL_isMerged_227 (by decide) (fun c52 => ?_) (fun c52 => ?_)
          · have hf := c52t c52
            refine xk_iconst hx hb dL_isMerged_230 ?_
            refine lv_goto (tgt := 235) hx hb dL_isMerged_231 (by decide) ?_
            obtain rfl := Option.some.inj hf
            refine W.widen (k := 3) (n := 13) (by omega) (by omega) ?_
            have hP : va_P (dC, dI) vwCl (([[qcC cs aa 64 g48], [qcC cs ah 8 g49], [qcC cs af 64 g50]] ++ w4 cs a y44).flatten) H := hP.sub (ws' := ([[qcC cs aa 64 g48], [qcC cs ah 8 g49], [qcC cs af 64 g50]] ++ w4 cs a y44).flatten) [0, 1, 2, 4, 5, 6, 7, 8, 9, 10, 11, 12, 13, 14, 15, 16, 17, 18, 19, 20, 21, 22, 23, 24, 25, 26, 27, 28, 29, 30, 31, 32, 33, 34, 35, 36, 37, 38, 39, 40, 41, 42, 43, 44, 45, 46, 47, 48, 49, 50, 51, 52, 53, 54, 55, 56, 57, 58, 59, 60, 61, 62, 63, 64, 65, 66, 67, 68, 69, 70, 71, 72, 73, 74, 75, 76, 77, 78, 79, 80, 81, 82, 83, 84, 85, 86, 87, 88, 89, 90, 91, 92, 93, 94, 95, 96, 97, 98, 99, 100, 101, 102, 103, 104, 105] rfl
            exact xe_wz hx hb hr (Or.inr rfl) hlocks hS hP dL_isMerged_235
          · have hf := c52f c52
            refine xk_iconst hx hb dL_isMerged_234 ?_
            obtain rfl := Option.some.inj hf
            refine W.widen (k := 3) (n := 13) (by omega) (by omega) ?_
            have hP : va_P (dC, dI) vwCl (([[qcC cs aa 64 g48], [qcC cs ah 8 g49], [qcC cs af 64 g50]] ++ w4 cs a y44).flatten) H := hP.sub (ws' := ([[qcC cs aa 64 g48], [qcC cs ah 8 g49], [qcC cs af 64 g50]] ++ w4 cs a y44).flatten) [0, 1, 2, 4, 5, 6, 7, 8, 9, 10, 11, 12, 13, 14, 15, 16, 17, 18, 19, 20, 21, 22, 23, 24, 25, 26, 27, 28, 29, 30, 31, 32, 33, 34, 35, 36, 37, 38, 39, 40, 41, 42, 43, 44, 45, 46, 47, 48, 49, 50, 51, 52, 53, 54, 55, 56, 57, 58, 59, 60, 61, 62, 63, 64, 65, 66, 67, 68, 69, 70, 71, 72, 73, 74, 75, 76, 77, 78, 79, 80, 81, 82, 83, 84, 85, 86, 87, 88, 89, 90, 91, 92, 93, 94, 95, 96, 97, 98, 99, 100, 101, 102, 103, 104, 105] rfl
            exact xe_wz hx hb hr (Or.inl rfl) hlocks hS hP dL_isMerged_235
        · have hf := c46f c46
          refine xk_iconst hx hb dL_isMerged_234 ?_
          obtain rfl := Option.some.inj hf
          refine W.widen (k := 3) (n := 13) (by omega) (by omega) ?_
          have hP : va_P (dC, dI) vwCl (([[qcC cs aa 64 va], [qcC cs ah 8 vh], [qcC cs af 64 vf]] ++ w4 cs a y44).flatten) H := hP.sub (ws' := ([[qcC cs aa 64 va], [qcC cs ah 8 vh], [qcC cs af 64 vf]] ++ w4 cs a y44).flatten) [0, 1, 2, 4, 5, 6, 7, 8, 9, 10, 11, 12, 13, 14, 15, 16, 17, 18, 19, 20, 21, 22, 23, 24, 25, 26, 27, 28, 29, 30, 31, 32, 33, 34, 35, 36, 37, 38, 39, 40, 41, 42, 43, 44, 45, 46, 47, 48, 49, 50, 51, 52, 53, 54, 55, 56, 57, 58, 59, 60, 61, 62, 63, 64, 65, 66, 67, 68, 69, 70, 71, 72, 73, 74, 75, 76, 77, 78, 79, 80, 81, 82, 83, 84, 85, 86, 87, 88, 89, 90, 91, 92, 93, 94, 95, 96, 97, 98, 99, 100, 101, 102, 103, 104, 105] rfl
          exact xe_wz hx hb hr (Or.inl rfl) hlocks hS hP dL_isMerged_235
theorem cdL_isMerged : yL_isMerged.cls ≠ "java/lang/invoke/MethodHandle" ∧ yL_isMerged.cls ≠ "java/lang/invoke/VarHandle" ∧ (parseMethodDescriptor yL_isMerged.desc).map (fun d => d.parameters.length) = some 5 := by decide +kernel

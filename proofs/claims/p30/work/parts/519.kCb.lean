set_option maxHeartbeats 8000000 in
set_option maxRecDepth 100000 in
theorem kL_areRuns (l : Launch) (hlS : l.stackTraces = false) (dC : Nat → ClassId) (dI : Nat → Nat → Nat) (cs : Nat → ClassId) (aa : Nat) (ah : Nat) (af : Nat) (a : Nat → Nat) (sz : Nat) (va : Int → Int) (vh : Int → Int) (vf : Int → Int) (y : BrS) (res : Int × BrS) (hf : fL_areRuns va vh vf y = some res) : Met l yL_areRuns wsL_areRuns ({ frames := 8, cells := 5539, slots := 33229, locals := 128 } : Room) (va_Pc [.ref (a 0), .ref aa, .ref ah, .ref af] (xPL (dC, dI) vwCl (([[qcC cs aa 64 va], [qcC cs ah 8 vh], [qcC cs af 64 vf]] ++ w4 cs a y).flatten) (xT cs) sz)) (xQi (dC, dI) vwCl (([[qcC cs aa 64 va], [qcC cs ah 8 vh], [qcC cs af 64 vf]] ++ w4 cs a y).flatten) (([[qcC cs aa 64 va], [qcC cs ah 8 vh], [qcC cs af 64 vf]] ++ w4 cs a res.2).flatten) sz res.1) 5539 33229 (va_A (([[qcC cs aa 64 va], [qcC cs ah 8 vh], [qcC cs af 64 vf]] ++ w4 cs a y).flatten) sz) := by
  refine Met.ofW (cc := cL_areRuns) (maxL := 10) (ret := (some .boolean)) (by decide) rfl ?_
  intro p e s m args below meth c s₁ B hml hv
  obtain ⟨rfl, ⟨⟨hsz, hP, hK, hD0⟩, hTh⟩, hN⟩ := hv
  have hx := B.exec
  have hb := B.bytes
  have hr := B.returns
  have hts := atoms_spec (ws := wsL_areRuns) B.pre
  have hown : s.vm.findClass RL = some m.cls := findClass_of_methodNamed B.named
  have hlocks := B.notSynchronized
  subst hsz
  have hD := hD0.self (sz := s.heap.size)
  have hA : ∀ z9 : Nat, s.heap.size ≤ z9 → va_A (([[qcC cs aa 64 va], [qcC cs ah 8 vh], [qcC cs af 64 vf]] ++ w4 cs a y).flatten) s.heap.size z9 := fun z9 h => Or.inr h
  have hS : va_S (va_A (([[qcC cs aa 64 va], [qcC cs ah 8 vh], [qcC cs af 64 vf]] ++ w4 cs a y).flatten) s.heap.size) s.heap s.heap [] := va_S.rf
  have hl := lv_entry [.ref (a 0), .ref aa, .ref ah, .ref af] (n := 10) (Nat.le_of_ble_eq_true rfl)
  rw [lg_entry_eq]
  generalize (lg_sl [.ref (a 0), .ref aa, .ref ah, .ref af] ++ List.replicate (10 - (lg_sl [.ref (a 0), .ref aa, .ref ah, .ref af]).length) Slot.unset).toArray = ls at hl ⊢
  have hl : lv_has ls 10 [(0, .ref (a 0)), (1, .ref aa), (2, .ref ah), (3, .ref af)] := hl
  unfold fL_areRuns at hf
  refine xk_iconst hx hb dL_areRuns_0 ?_
  refine va_newa (atype := .int) (ty := .int) (N' := 1) (a0 := (1, .inl (xA (fun _ => 0)))) hx hb (hts (.arrayClass .int) (by decide +kernel)) rfl hK hP (x_addrF hD rfl) hS hA (fun cA => x_zero cA 1) (by decide) (by decide) (Nat.le_of_ble_eq_true rfl) (by show _ ≤ 5539; omega) (by show _ ≤ 33229; omega) dL_areRuns_1 (fun ao cA H hK1 hP hD hS => ?_)
  obtain rfl := x_kind 0 hK1 (cB := cs 0) rfl (fun C h => by cases h)
  have hP : va_P (dC, dI) vwCl (([[qcC cs aa 64 va], [qcC cs ah 8 vh], [qcC cs af 64 vf], [qcC cs ao 1 (fun _ => 0)]] ++ w4 cs a y).flatten) H := hP.sub (ws' := ([[qcC cs aa 64 va], [qcC cs ah 8 vh], [qcC cs af 64 vf], [qcC cs ao 1 (fun _ => 0)]] ++ w4 cs a y).flatten) [0, 1, 2, 105, 3, 4, 5, 6, 7, 8, 9, 10, 11, 12, 13, 14, 15, 16, 17, 18, 19, 20, 21, 22, 23, 24, 25, 26, 27, 28, 29, 30, 31, 32, 33, 34, 35, 36, 37, 38, 39, 40, 41, 42, 43, 44, 45, 46, 47, 48, 49, 50, 51, 52, 53, 54, 55, 56, 57, 58, 59, 60, 61, 62, 63, 64, 65, 66, 67, 68, 69, 70, 71, 72, 73, 74, 75, 76, 77, 78, 79, 80, 81, 82, 83, 84, 85, 86, 87, 88, 89, 90, 91, 92, 93, 94, 95, 96, 97, 98, 99, 100, 101, 102, 103, 104] rfl
  have hD : va_D (va_A (([[qcC cs aa 64 va], [qcC cs ah 8 vh], [qcC cs af 64 vf]] ++ w4 cs a y).flatten) s.heap.size) (([[qcC cs aa 64 va], [qcC cs ah 8 vh], [qcC cs af 64 vf], [qcC cs ao 1 (fun _ => 0)]] ++ w4 cs a y).flatten) := hD.sub (ws' := ([[qcC cs aa 64 va], [qcC cs ah 8 vh], [qcC cs af 64 vf], [qcC cs ao 1 (fun _ => 0)]] ++ w4 cs a y).flatten) [0, 1, 2, 105, 3, 4, 5, 6, 7, 8, 9, 10, 11, 12, 13, 14, 15, 16, 17, 18, 19, 20, 21, 22, 23, 24, 25, 26, 27, 28, 29, 30, 31, 32, 33, 34, 35, 36, 37, 38, 39, 40, 41, 42, 43, 44, 45, 46, 47, 48, 49, 50, 51, 52, 53, 54, 55, 56, 57, 58, 59, 60, 61, 62, 63, 64, 65, 66, 67, 68, 69, 70, 71, 72, 73, 74, 75, 76, 77, 78, 79, 80, 81, 82, 83, 84, 85, 86, 87, 88, 89, 90, 91, 92, 93, 94, 95, 96, 97, 98, 99, 100, 101, 102, 103, 104] (by decide +kernel) rfl
  refine lv_astore (lv' := [(4, .ref ao), (0, .ref (a 0)), (1, .ref aa), (2, .ref ah), (3, .ref af)]) hx hb dL_areRuns_3 hl (by decide) rfl (fun ls hl => ?_)
  refine lv_aload_n hx hb dL_areRuns_5 rfl (lv_at hl 3 rfl) ?_
  refine lv_aload_n hx hb dL_areRuns_6 rfl (lv_at hl 4 rfl) ?_
  obtain ⟨v1, ev1, hf⟩ := x_bind hf
  refine xf_sri (As := [.ref ah, .ref af]) (rest := []) (wcs := ([[qcC cs ah 8 vh], [qcC cs af 64 vf]] : List va_W)) ⟨hx, hb, hml, hown, hts⟩ (kL_runs l dC dI cs ah af vh vf _ ev1) (va_cwS 2 hts gL_areRuns_L_runs rfl rfl rfl cdL_runs ⟨Nat.le_of_ble_eq_true rfl, Nat.le_of_ble_eq_true rfl⟩) hK hP [1, 2] rfl rfl rfl hl.1 rfl (Nat.le_of_ble_eq_true rfl) dL_areRuns_7 ⟨by show _ ≤ 5539; omega, by show _ ≤ 33229; omega⟩ ?_
  refine lv_istore (lv' := [(5, .int (iI v1)), (4, .ref ao), (0, .ref (a 0)), (1, .ref aa), (2, .ref ah), (3, .ref af)]) hx hb dL_areRuns_10 hl (by decide) rfl (fun ls hl => ?_)
  refine xk_iconst hx hb dL_areRuns_12 ?_
  refine lv_istore (lv' := [(6, .int (iI 0)), (5, .int (iI v1)), (4, .ref ao), (0, .ref (a 0)), (1, .ref aa), (2, .ref ah), (3, .ref af)]) hx hb dL_areRuns_13 hl (by decide) rfl (fun ls hl => ?_)
  have hL15 : ∀ (n4 : Nat) (l6 : Int) (g2 : Int → Int) (y3 : BrS), fL_areRuns_L15 va vh vf v1 n4 l6 g2 y3 = some res → ∀ (cells slots : Nat), cells + n4 * 78 + 78 ≤ 5539 ∧ slots + n4 * 468 + 468 ≤ 33229 → ∀ (H : Heap) (locs : List Loc), va_P (dC, dI) vwCl (([[qcC cs aa 64 va], [qcC cs ah 8 vh], [qcC cs af 64 vf], [qcC cs ao 1 g2]] ++ w4 cs a y3).flatten) H → va_S (va_A (([[qcC cs aa 64 va], [qcC cs ah 8 vh], [qcC cs af 64 vf]] ++ w4 cs a y).flatten) s.heap.size) s.heap H locs → ∀ (ls : Array Slot), lv_has ls 10 [(0, .ref (a 0)), (1, .ref aa), (2, .ref ah), (3, .ref af), (4, .ref ao), (5, .int (iI v1)), (6, .int (iI l6))] → W p l e (headSpec wsL_areRuns ({ frames := 8, cells := 5539, slots := 33229, locals := 128 } : Room)).room s m ([.ref (a 0), .ref aa, .ref ah, .ref af] : List Value).toArray below meth c H locs cells slots (MQ below (xQi (dC, dI) vwCl (([[qcC cs aa 64 va], [qcC cs ah 8 vh], [qcC cs af 64 vf]] ++ w4 cs a y).flatten) (([[qcC cs aa 64 va], [qcC cs ah 8 vh], [qcC cs af 64 vf]] ++ w4 cs a res.2).flatten) s.heap.size res.1) ([.ref (a 0), .ref aa, .ref ah, .ref af] : List Value).toArray s 5539 33229 (va_A (([[qcC cs aa 64 va], [qcC cs ah 8 vh], [qcC cs af 64 vf]] ++ w4 cs a y).flatten) s.heap.size)) (F0 m 15 ls []) := by
    intro  n4
    induction n4 with
    | zero => intro l6 g2 y3 hf; have hf : (none : Option (Int × BrS)) = some res := hf; cases hf
    | succ n4 ih15 =>
      intro l6 g2 y3 hf cells slots hcb H locs hP hS ls hl
      rw [fL_areRuns_L15] at hf
      refine lv_iload hx hb dL_areRuns_15 (lv_at hl 6 rfl) ?_
      refine lv_iload hx hb dL_areRuns_17 (lv_at hl 5 rfl) ?_
      obtain ⟨c5a, c5b, c5t, c5f⟩ := x_ltE hf
      refine xk_icmp_ge (tgt := 245) hx hb c5a c5b dL_areRuns_19 (by decide) (fun c5 => ?_) (fun c5 => ?_)
      · have hf := c5t c5
        refine lv_aload_n hx hb dL_areRuns_22 rfl (lv_at hl 2 rfl) ?_
        refine lv_aload_n hx hb dL_areRuns_23 rfl (lv_at hl 3 rfl) ?_
        refine lv_iload hx hb dL_areRuns_24 (lv_at hl 6 rfl) ?_
        obtain ⟨v6, ev6, hf⟩ := x_bind hf
        refine xf_sri (As := [.ref ah, .ref af, .int (iI l6)]) (rest := []) (wcs := ([[qcC cs ah 8 vh], [qcC cs af 64 vf]] : List va_W)) ⟨hx, hb, hml, hown, hts⟩ (kL_runBy l dC dI cs ah af vh vf l6 _ ev6) (va_cwS 3 hts gL_areRuns_L_runBy rfl rfl rfl cdL_runBy ⟨Nat.le_of_ble_eq_true rfl, Nat.le_of_ble_eq_true rfl⟩) hK hP [1, 2] rfl rfl rfl hl.1 rfl (Nat.le_of_ble_eq_true rfl) dL_areRuns_26 ⟨by show _ ≤ 5539; omega, by show _ ≤ 33229; omega⟩ ?_
        refine lv_istore (lv' := [(7, .int (iI v6)), (0, .ref (a 0)), (1, .ref aa), (2, .ref ah), (3, .ref af), (4, .ref ao), (5, .int (iI v1)), (6, .int (iI l6))]) hx hb dL_areRuns_29 hl (by decide) rfl (fun ls hl => ?_)
        refine lv_aload_n hx hb dL_areRuns_31 rfl (lv_at hl 2 rfl) ?_
        refine lv_aload_n hx hb dL_areRuns_32 rfl (lv_at hl 3 rfl) ?_
        refine xk_iconst hx hb dL_areRuns_33 ?_
        refine lv_iload hx hb dL_areRuns_34 (lv_at hl 0 rfl) ?_
        obtain ⟨v7, ev7, hf⟩ := x_bind hf
        refine xf_sri (As := [.ref aa, .ref ah, .int (iI 1), .int (iI v6)]) (rest := []) (wcs := ([[qcC cs aa 64 va], [qcC cs ah 8 vh]] : List va_W)) ⟨hx, hb, hml, hown, hts⟩ (kL_many l dC dI cs aa ah va vh 1 v6 _ ev7) (va_cwS 4 hts gL_areRuns_L_many rfl rfl rfl cdL_many ⟨Nat.le_of_ble_eq_true rfl, Nat.le_of_ble_eq_true rfl⟩) hK hP [0, 1] rfl rfl rfl hl.1 rfl (Nat.le_of_ble_eq_true rfl) dL_areRuns_36 ⟨by show _ ≤ 5539; omega, by show _ ≤ 33229; omega⟩ ?_
        refine lv_istore (lv' := [(8, .int (iI v7)), (7, .int (iI v6)), (0, .ref (a 0)), (1, .ref aa), (2, .ref ah), (3, .ref af), (4, .ref ao), (5, .int (iI v1)), (6, .int (iI l6))]) hx hb dL_areRuns_39 hl (by decide) rfl (fun ls hl => ?_)
        refine lv_aload_n hx hb dL_areRuns_41 rfl (lv_at hl 2 rfl) ?_
        refine lv_iload hx hb dL_areRuns_42 (lv_at hl 8 rfl) ?_
        refine lv_aload hx hb dL_areRuns_44 (lv_at hl 6 rfl) ?_
        obtain ⟨⟨v10, g8, y9⟩, ev10, hf⟩ := x_bind hf
        refine xf_sw (As := [.ref (a 0), .int (iI l6), .ref ao]) (rest := []) (wcs := [[qcC cs ao 1 g2]] ++ w4 cs a y3) (w1s := [[qcC cs ao 1 g8]] ++ w4 cs a y9) ⟨hx, hb, hml, hown, hts⟩ (kL_runAt l hlS dC dI cs ao a H.size g2 y3 l6 _ ev10) (vx_cwSW 3 hts gL_areRuns_L_runAt rfl rfl rfl cdL_runAt ⟨Nat.le_of_ble_eq_true rfl, Nat.le_of_ble_eq_true rfl⟩) hK hP (x_addrF hD rfl) hS hA hTh hN [3, 4, 5, 6, 7, 8, 9, 10, 11, 12, 13] rfl rfl rfl (by decide) rfl rfl hl.1 rfl (Nat.le_of_ble_eq_true rfl) dL_areRuns_46 ⟨by show _ ≤ 5539; omega, by show _ ≤ 33229; omega⟩ (fun H locs hP hS => ?_)
        have hP : va_P (dC, dI) vwCl (([[qcC cs aa 64 va], [qcC cs ah 8 vh], [qcC cs af 64 vf], [qcC cs ao 1 g8]] ++ w4 cs a y9).flatten) H := hP
        obtain ⟨c11a, c11b, c11t, c11f⟩ := x_eqE hf
        refine xk_if_ne (tgt := 104) hx hb c11a dL_areRuns_49 (by decide) (fun c11 => ?_) (fun c11 => ?_)
        · have hf := c11t c11
          refine lv_aload hx hb dL_areRuns_52 (lv_at hl 6 rfl) ?_
          refine xk_iconst hx hb dL_areRuns_54 ?_
          obtain ⟨v12, ev12, hf⟩ := x_bind hf
          refine xk_iald (f := g8) hx hb hK hP 3 0 ev12 (by decide) rfl rfl dL_areRuns_55 ?_
          refine lv_iload hx hb dL_areRuns_56 (lv_at hl 1 rfl) ?_
          obtain ⟨c13a, c13b, c13t, c13f⟩ := x_eqE hf
          refine xk_icmp_ne (tgt := 104) hx hb c13a c13b dL_areRuns_58 (by decide) (fun c13 => ?_) (fun c13 => ?_)
          · have hf := c13t c13
            refine lv_aload_n hx hb dL_areRuns_61 rfl (lv_at hl 2 rfl) ?_
            refine lv_iload hx hb dL_areRuns_62 (lv_at hl 1 rfl) ?_
            refine xk_iconst hx hb dL_areRuns_64 ?_
            obtain ⟨⟨c16, v14, y15⟩, ev14, hf⟩ := x_bind hf
            obtain ⟨zc16, hf⟩ := x_zrE hf
            refine xf_xi (As := [.int (iI v6), .int (iI 0)]) (rest := []) (wcs := w4 cs a y9) (w1s := w4 cs a y15) ⟨hx, hb, hml, hown, hts⟩ (c4_run l hlS dC dI cs a _ y9 v6 0 _ ev14) (cwV 2 hts gL_areRuns_X4_run rfl rfl rfl cdX4_run ⟨Nat.le_of_ble_eq_true rfl, Nat.le_of_ble_eq_true rfl⟩) hK hP (x_addrF hD rfl) hS hA hTh [4, 5, 6, 7, 8, 9, 10, 11, 12, 13] rfl rfl rfl (by decide) rfl rfl rfl rfl hl.1 rfl (Nat.le_of_ble_eq_true rfl) dL_areRuns_65 ⟨by show _ ≤ 5539; omega, by show _ ≤ 33229; omega⟩ (fun _ H locs hP hS => ?_) (fun hk => absurd zc16 hk)
            have hP : va_P (dC, dI) vwCl (([[qcC cs aa 64 va], [qcC cs ah 8 vh], [qcC cs af 64 vf], [qcC cs ao 1 g8]] ++ w4 cs a y15).flatten) H := hP
            refine lv_iload hx hb dL_areRuns_68 (lv_at hl 0 rfl) ?_
            obtain ⟨c17a, c17b, c17t, c17f⟩ := x_eqE hf
            refine xk_icmp_ne (tgt := 104) hx hb c17a c17b dL_areRuns_70 (by decide) (fun c17 => ?_) (fun c17 => ?_)
            · have hf := c17t c17
              refine lv_aload_n hx hb dL_areRuns_73 rfl (lv_at hl 2 rfl) ?_
              refine lv_iload hx hb dL_areRuns_74 (lv_at hl 1 rfl) ?_
              refine xk_iconst hx hb dL_areRuns_76 ?_
              obtain ⟨⟨c20, v18, y19⟩, ev18, hf⟩ := x_bind hf
              obtain ⟨zc20, hf⟩ := x_zrE hf
              refine xf_xi (As := [.int (iI v6), .int (iI 1)]) (rest := []) (wcs := w4 cs a y15) (w1s := w4 cs a y19) ⟨hx, hb, hml, hown, hts⟩ (c4_run l hlS dC dI cs a _ y15 v6 1 _ ev18) (cwV 2 hts gL_areRuns_X4_run rfl rfl rfl cdX4_run ⟨Nat.le_of_ble_eq_true rfl, Nat.le_of_ble_eq_true rfl⟩) hK hP (x_addrF hD rfl) hS hA hTh [4, 5, 6, 7, 8, 9, 10, 11, 12, 13] rfl rfl rfl (by decide) rfl rfl rfl rfl hl.1 rfl (Nat.le_of_ble_eq_true rfl) dL_areRuns_77 ⟨by show _ ≤ 5539; omega, by show _ ≤ 33229; omega⟩ (fun _ H locs hP hS => ?_) (fun hk => absurd zc20 hk)
              have hP : va_P (dC, dI) vwCl (([[qcC cs aa 64 va], [qcC cs ah 8 vh], [qcC cs af 64 vf], [qcC cs ao 1 g8]] ++ w4 cs a y19).flatten) H := hP
              refine lv_aload_n hx hb dL_areRuns_80 rfl (lv_at hl 3 rfl) ?_
              refine lv_aload_n hx hb dL_areRuns_81 rfl (lv_at hl 4 rfl) ?_
              refine lv_iload hx hb dL_areRuns_82 (lv_at hl 1 rfl) ?_
              obtain ⟨v21, ev21, hf⟩ := x_bind hf
              refine xf_sri (As := [.ref aa, .ref ah, .int (iI v6)]) (rest := [.int (iI v18)]) (wcs := ([[qcC cs aa 64 va], [qcC cs ah 8 vh]] : List va_W)) ⟨hx, hb, hml, hown, hts⟩ (kL_weighs l dC dI cs aa ah va vh v6 _ ev21) (va_cwS 3 hts gL_areRuns_L_weighs rfl rfl rfl cdL_weighs ⟨Nat.le_of_ble_eq_true rfl, Nat.le_of_ble_eq_true rfl⟩) hK hP [0, 1] rfl rfl rfl hl.1 rfl (Nat.le_of_ble_eq_true rfl) dL_areRuns_84 ⟨by show _ ≤ 5539; omega, by show _ ≤ 33229; omega⟩ ?_
              obtain ⟨c22a, c22b, c22t, c22f⟩ := x_eqE hf
              refine xk_icmp_ne (tgt := 104) hx hb c22a c22b dL_areRuns_87 (by decide) (fun c22 => ?_) (fun c22 => ?_)
              · have hf := c22t c22
                refine lv_aload_n hx hb dL_areRuns_90 rfl (lv_at hl 2 rfl) ?_
                refine lv_iload hx hb dL_areRuns_91 (lv_at hl 1 rfl) ?_
                refine xk_iconst hx hb dL_areRuns_93 ?_
                obtain ⟨⟨c25, v23, y24⟩, ev23, hf⟩ := x_bind hf
                obtain ⟨zc25, hf⟩ := x_zrE hf
                refine xf_xi (As := [.int (iI v6), .int (iI 2)]) (rest := []) (wcs := w4 cs a y19) (w1s := w4 cs a y24) ⟨hx, hb, hml, hown, hts⟩ (c4_run l hlS dC dI cs a _ y19 v6 2 _ ev23) (cwV 2 hts gL_areRuns_X4_run rfl rfl rfl cdX4_run ⟨Nat.le_of_ble_eq_true rfl, Nat.le_of_ble_eq_true rfl⟩) hK hP (x_addrF hD rfl) hS hA hTh [4, 5, 6, 7, 8, 9, 10, 11, 12, 13] rfl rfl rfl (by decide) rfl rfl rfl rfl hl.1 rfl (Nat.le_of_ble_eq_true rfl) dL_areRuns_94 ⟨by show _ ≤ 5539; omega, by show _ ≤ 33229; omega⟩ (fun _ H locs hP hS => ?_) (fun hk => absurd zc25 hk)
                have hP : va_P (dC, dI) vwCl (([[qcC cs aa 64 va], [qcC cs ah 8 vh], [qcC cs af 64 vf], [qcC cs ao 1 g8]] ++ w4 cs a y24).flatten) H := hP
                refine lv_aload_n hx hb dL_areRuns_97 rfl (lv_at hl 5 rfl) ?_
                refine lv_iload hx hb dL_areRuns_98 (lv_at hl 1 rfl) ?_
                obtain ⟨v26, ev26, hf⟩ := x_bind hf
                refine xk_iald (f := vf) hx hb hK hP 2 0 ev26 (by decide) rfl rfl dL_areRuns_100 ?_
                obtain ⟨c27a, c27b, c27t, c27f⟩ := x_eqE hf
                refine xk_icmp_eq (tgt := 106) hx hb c27a c27b dL_areRuns_101 (by decide) (fun c27 => ?_) (fun c27 => ?_)
                · have hf := c27t c27
                  refine lv_aload_n hx hb dL_areRuns_106 rfl (lv_at hl 2 rfl) ?_
                  refine lv_iload hx hb dL_areRuns_107 (lv_at hl 1 rfl) ?_
                  refine xk_iconst hx hb dL_areRuns_109 ?_
                  obtain ⟨⟨c30, v28, y29⟩, ev28, hf⟩ := x_bind hf
                  obtain ⟨zc30, hf⟩ := x_zrE hf
                  refine xf_xi (As := [.int (iI v6), .int (iI 3)]) (rest := []) (wcs := w4 cs a y24) (w1s := w4 cs a y29) ⟨hx, hb, hml, hown, hts⟩ (c4_run l hlS dC dI cs a _ y24 v6 3 _ ev28) (cwV 2 hts gL_areRuns_X4_run rfl rfl rfl cdX4_run ⟨Nat.le_of_ble_eq_true rfl, Nat.le_of_ble_eq_true rfl⟩) hK hP (x_addrF hD rfl) hS hA hTh [4, 5, 6, 7, 8, 9, 10, 11, 12, 13] rfl rfl rfl (by decide) rfl rfl rfl rfl hl.1 rfl (Nat.le_of_ble_eq_true rfl) dL_areRuns_110 ⟨by show _ ≤ 5539; omega, by show _ ≤ 33229; omega⟩ (fun _ H locs hP hS => ?_) (fun hk => absurd zc30 hk)
                  have hP : va_P (dC, dI) vwCl (([[qcC cs aa 64 va], [qcC cs ah 8 vh], [qcC cs af 64 vf], [qcC cs ao 1 g8]] ++ w4 cs a y29).flatten) H := hP
                  refine lv_aload_n hx hb dL_areRuns_113 rfl (lv_at hl 3 rfl) ?_
                  refine lv_aload_n hx hb dL_areRuns_114 rfl (lv_at hl 3 rfl) ?_
                  refine lv_aload_n hx hb dL_areRuns_115 rfl (lv_at hl 4 rfl) ?_
                  refine xk_iconst hx hb dL_areRuns_116 ?_
                  refine lv_iload hx hb dL_areRuns_117 (lv_at hl 1 rfl) ?_
                  refine xk_iconst hx hb dL_areRuns_119 ?_
                  obtain ⟨v31, ev31, hf⟩ := x_bind hf
                  refine xf_sri (As := [.ref aa, .ref ah, .int (iI 1), .int (iI v6), .int (iI 0)]) (rest := [.ref aa, .int (iI v28)]) (wcs := ([[qcC cs aa 64 va], [qcC cs ah 8 vh]] : List va_W)) ⟨hx, hb, hml, hown, hts⟩ (kL_ranked l dC dI cs aa ah va vh 1 v6 0 _ ev31) (va_cwS 5 hts gL_areRuns_L_ranked rfl rfl rfl cdL_ranked ⟨Nat.le_of_ble_eq_true rfl, Nat.le_of_ble_eq_true rfl⟩) hK hP [0, 1] rfl rfl rfl hl.1 rfl (Nat.le_of_ble_eq_true rfl) dL_areRuns_120 ⟨by show _ ≤ 5539; omega, by show _ ≤ 33229; omega⟩ ?_
                  obtain ⟨v32, ev32, hf⟩ := x_bind hf
                  refine xf_sri (As := [.ref aa, .int (iI v31)]) (rest := [.int (iI v28)]) (wcs := ([[qcC cs aa 64 va]] : List va_W)) ⟨hx, hb, hml, hown, hts⟩ (kL_key l dC dI cs aa va v31 _ ev32) (va_cwS 2 hts gL_areRuns_L_key rfl rfl rfl cdL_key ⟨Nat.le_of_ble_eq_true rfl, Nat.le_of_ble_eq_true rfl⟩) hK hP [0] rfl rfl rfl hl.1 rfl (Nat.le_of_ble_eq_true rfl) dL_areRuns_123 ⟨by show _ ≤ 5539; omega, by show _ ≤ 33229; omega⟩ ?_
                  obtain ⟨c33a, c33b, c33t, c33f⟩ := x_eqE hf
                  refine xk_icmp_ne (tgt := 173) hx hb c33a c33b dL_areRuns_126 (by decide) (fun c33 => ?_) (fun c33 => ?_)
                  · have hf := c33t c33
                    refine lv_aload_n hx hb dL_areRuns_129 rfl (lv_at hl 2 rfl) ?_
                    refine lv_iload hx hb dL_areRuns_130 (lv_at hl 1 rfl) ?_
                    refine xk_iconst hx hb dL_areRuns_132 ?_
                    obtain ⟨⟨c36, v34, y35⟩, ev34, hf⟩ := x_bind hf
                    obtain ⟨zc36, hf⟩ := x_zrE hf
                    refine xf_xi (As := [.int (iI v6), .int (iI 4)]) (rest := []) (wcs := w4 cs a y29) (w1s := w4 cs a y35) ⟨hx, hb, hml, hown, hts⟩ (c4_run l hlS dC dI cs a _ y29 v6 4 _ ev34) (cwV 2 hts gL_areRuns_X4_run rfl rfl rfl cdX4_run ⟨Nat.le_of_ble_eq_true rfl, Nat.le_of_ble_eq_true rfl⟩) hK hP (x_addrF hD rfl) hS hA hTh [4, 5, 6, 7, 8, 9, 10, 11, 12, 13] rfl rfl rfl (by decide) rfl rfl rfl rfl hl.1 rfl (Nat.le_of_ble_eq_true rfl) dL_areRuns_133 ⟨by show _ ≤ 5539; omega, by show _ ≤ 33229; omega⟩ (fun _ H locs hP hS => ?_) (fun hk => absurd zc36 hk)
                    have hP : va_P (dC, dI) vwCl (([[qcC cs aa 64 va], [qcC cs ah 8 vh], [qcC cs af 64 vf], [qcC cs ao 1 g8]] ++ w4 cs a y35).flatten) H := hP
                    refine lv_aload_n hx hb dL_areRuns_136 rfl (lv_at hl 3 rfl) ?_
                    refine lv_aload_n hx hb dL_areRuns_137 rfl (lv_at hl 3 rfl) ?_
                    refine lv_aload_n hx hb dL_areRuns_138 rfl (lv_at hl 4 rfl) ?_
                    refine lv_iload hx hb dL_areRuns_139 (lv_at hl 1 rfl) ?_
                    obtain ⟨v37, ev37, hf⟩ := x_bind hf
                    refine xf_sri (As := [.ref aa, .ref ah, .int (iI v6)]) (rest := [.ref aa, .int (iI v34)]) (wcs := ([[qcC cs aa 64 va], [qcC cs ah 8 vh]] : List va_W)) ⟨hx, hb, hml, hown, hts⟩ (kL_lastOf l dC dI cs aa ah va vh v6 _ ev37) (va_cwS 3 hts gL_areRuns_L_lastOf rfl rfl rfl cdL_lastOf ⟨Nat.le_of_ble_eq_true rfl, Nat.le_of_ble_eq_true rfl⟩) hK hP [0, 1] rfl rfl rfl hl.1 rfl (Nat.le_of_ble_eq_true rfl) dL_areRuns_141 ⟨by show _ ≤ 5539; omega, by show _ ≤ 33229; omega⟩ ?_
                    obtain ⟨v38, ev38, hf⟩ := x_bind hf
                    refine xf_sri (As := [.ref aa, .int (iI v37)]) (rest := [.int (iI v34)]) (wcs := ([[qcC cs aa 64 va]] : List va_W)) ⟨hx, hb, hml, hown, hts⟩ (kL_key l dC dI cs aa va v37 _ ev38) (va_cwS 2 hts gL_areRuns_L_key rfl rfl rfl cdL_key ⟨Nat.le_of_ble_eq_true rfl, Nat.le_of_ble_eq_true rfl⟩) hK hP [0] rfl rfl rfl hl.1 rfl (Nat.le_of_ble_eq_true rfl) dL_areRuns_144 ⟨by show _ ≤ 5539; omega, by show _ ≤ 33229; omega⟩ ?_
                    obtain ⟨c39a, c39b, c39t, c39f⟩ := x_eqE hf
                    refine xk_icmp_ne (tgt := 173) hx hb c39a c39b dL_areRuns_147 (by decide) (fun c39 => ?_) (fun c39 => ?_)
                    · have hf := c39t c39
                      refine lv_aload_n hx hb dL_areRuns_150 rfl (lv_at hl 2 rfl) ?_
                      refine lv_iload hx hb dL_areRuns_151 (lv_at hl 1 rfl) ?_
                      refine xk_iconst hx hb dL_areRuns_153 ?_
                      obtain ⟨⟨c42, v40, y41⟩, ev40, hf⟩ := x_bind hf
                      obtain ⟨zc42, hf⟩ := x_zrE hf
                      refine xf_xi (As := [.int (iI v6), .int (iI 5)]) (rest := []) (wcs := w4 cs a y35) (w1s := w4 cs a y41) ⟨hx, hb, hml, hown, hts⟩ (c4_run l hlS dC dI cs a _ y35 v6 5 _ ev40) (cwV 2 hts gL_areRuns_X4_run rfl rfl rfl cdX4_run ⟨Nat.le_of_ble_eq_true rfl, Nat.le_of_ble_eq_true rfl⟩) hK hP (x_addrF hD rfl) hS hA hTh [4, 5, 6, 7, 8, 9, 10, 11, 12, 13] rfl rfl rfl (by decide) rfl rfl rfl rfl hl.1 rfl (Nat.le_of_ble_eq_true rfl) dL_areRuns_154 ⟨by show _ ≤ 5539; omega, by show _ ≤ 33229; omega⟩ (fun _ H locs hP hS => ?_) (fun hk => absurd zc42 hk)
                      have hP : va_P (dC, dI) vwCl (([[qcC cs aa 64 va], [qcC cs ah 8 vh], [qcC cs af 64 vf], [qcC cs ao 1 g8]] ++ w4 cs a y41).flatten) H := hP
                      refine lv_aload_n hx hb dL_areRuns_157 rfl (lv_at hl 4 rfl) ?_
                      refine xk_iconst hx hb dL_areRuns_158 ?_
                      obtain ⟨v43, ev43, hf⟩ := x_bind hf
                      refine xk_iald (f := vh) hx hb hK hP 1 0 ev43 (by decide) rfl rfl dL_areRuns_159 ?_
                      refine lv_iload hx hb dL_areRuns_160 (lv_at hl 1 rfl) ?_
                      obtain ⟨c44a, c44b, c44t, c44f⟩ := x_eqE hf
                      refine xk_icmp_ne (tgt := 169) hx hb c44a c44b dL_areRuns_162 (by decide) (fun c44 => ?_) (fun c44 => ?_)
                      · have hf := c44t c44
                        refine xk_iconst hx hb dL_areRuns_165 ?_
                        refine lv_goto (tgt := 170) hx hb dL_areRuns_166 (by decide) ?_
                        obtain ⟨c45a, c45b, c45t, c45f⟩ := x_eqE hf
                        refine xk_icmp_eq (tgt := 175) hx hb c45a c45b dL_areRuns_170 (by decide) (fun c45 => ?_) (fun c45 => ?_)
                        · have hf := c45t c45
                          refine xk_iconst hx hb dL_areRuns_175 ?_
                          refine lv_istore (lv' := [(9, .int (iI 0)), (8, .int (iI v7)), (7, .int (iI v6)), (0, .ref (a 0)), (1, .ref aa), (2, .ref ah), (3, .ref af), (4, .ref ao), (5, .int (iI v1)), (6, .int (iI l6))]) hx hb dL_areRuns_176 hl (by decide) rfl (fun ls hl => ?_)
                          have hL178 : ∀ (n281 : Nat) (l9 : Int) (g279 : Int → Int) (y280 : BrS), fL_areRuns_L178 va vh l6 v6 v7 (fL_areRuns_L15 va vh vf v1 n4) n281 l9 g279 y280 = some res → ∀ (cells slots : Nat), cells + n281 * 1 + 1 + n4 * 78 + 78 ≤ 5539 ∧ slots + n281 * 6 + 6 + n4 * 468 + 468 ≤ 33229 → ∀ (H : Heap) (locs : List Loc), va_P (dC, dI) vwCl (([[qcC cs aa 64 va], [qcC cs ah 8 vh], [qcC cs af 64 vf], [qcC cs ao 1 g279]] ++ w4 cs a y280).flatten) H → va_S (va_A (([[qcC cs aa 64 va], [qcC cs ah 8 vh], [qcC cs af 64 vf]] ++ w4 cs a y).flatten) s.heap.size) s.heap H locs → ∀ (ls : Array Slot), lv_has ls 10 [(0, .ref (a 0)), (1, .ref aa), (2, .ref ah), (3, .ref af), (4, .ref ao), (5, .int (iI v1)), (6, .int (iI l6)), (7, .int (iI v6)), (8, .int (iI v7)), (9, .int (iI l9))] → W p l e (headSpec wsL_areRuns ({ frames := 8, cells := 5539, slots := 33229, locals := 128 } : Room)).room s m ([.ref (a 0), .ref aa, .ref ah, .ref af] : List Value).toArray below meth c H locs cells slots (MQ below (xQi (dC, dI) vwCl (([[qcC cs aa 64 va], [qcC cs ah 8 vh], [qcC cs af 64 vf]] ++ w4 cs a y).flatten) (([[qcC cs aa 64 va], [qcC cs ah 8 vh], [qcC cs af 64 vf]] ++ w4 cs a res.2).flatten) s.heap.size res.1) ([.ref (a 0), .ref aa, .ref ah, .ref af] : List Value).toArray s 5539 33229 (va_A (([[qcC cs aa 64 va], [qcC cs ah 8 vh], [qcC cs af 64 vf]] ++ w4 cs a y).flatten) s.heap.size)) (F0 m 178 ls []) := by
                            intro  n281
                            induction n281 with
                            | zero => intro l9 g279 y280 hf; have hf : (none : Option (Int × BrS)) = some res := hf; cases hf
                            | succ n281 ih178 =>
                              intro l9 g279 y280 hf cells slots hcb H locs hP hS ls hl
                              rw [fL_areRuns_L178] at hf
                              refine lv_iload hx hb dL_areRuns_178 (lv_at hl 9 rfl) ?_
                              refine lv_iload hx hb dL_areRuns_180 (lv_at hl 8 rfl) ?_
                              obtain ⟨c282a, c282b, c282t, c282f⟩ := x_ltE hf
                              refine xk_icmp_ge (tgt := 223) hx hb c282a c282b dL_areRuns_182 (by decide) (fun c282 => ?_) (fun c282 => ?_)
                              · have hf := c282t c282
                                refine lv_aload_n hx hb dL_areRuns_185 rfl (lv_at hl 0 rfl) ?_
                                refine lv_iload hx hb dL_areRuns_186 (lv_at hl 7 rfl) ?_
                                refine lv_iload hx hb dL_areRuns_188 (lv_at hl 9 rfl) ?_
                                refine lv_aload hx hb dL_areRuns_190 (lv_at hl 4 rfl) ?_
                                obtain ⟨⟨v285, g283, y284⟩, ev285, hf⟩ := x_bind hf
                                refine xf_sw (As := [.ref (a 0), .int (iI v6), .int (iI l9), .ref ao]) (rest := []) (wcs := [[qcC cs ao 1 g279]] ++ w4 cs a y280) (w1s := [[qcC cs ao 1 g283]] ++ w4 cs a y284) ⟨hx, hb, hml, hown, hts⟩ (kL_inRun l hlS dC dI cs ao a H.size g279 y280 v6 l9 _ ev285) (vx_cwSW 4 hts gL_areRuns_L_inRun rfl rfl rfl cdL_inRun ⟨Nat.le_of_ble_eq_true rfl, Nat.le_of_ble_eq_true rfl⟩) hK hP (x_addrF hD rfl) hS hA hTh hN [3, 4, 5, 6, 7, 8, 9, 10, 11, 12, 13] rfl rfl rfl (by decide) rfl rfl hl.1 rfl (Nat.le_of_ble_eq_true rfl) dL_areRuns_192 ⟨by show _ ≤ 5539; omega, by show _ ≤ 33229; omega⟩ (fun H locs hP hS => ?_)
                                have hP : va_P (dC, dI) vwCl (([[qcC cs aa 64 va], [qcC cs ah 8 vh], [qcC cs af 64 vf], [qcC cs ao 1 g283]] ++ w4 cs a y284).flatten) H := hP
                                obtain ⟨c286a, c286b, c286t, c286f⟩ := x_eqE hf
                                refine xk_if_ne (tgt := 215) hx hb c286a dL_areRuns_195 (by decide) (fun c286 => ?_) (fun c286 => ?_)
                                · have hf := c286t c286
                                  refine lv_aload hx hb dL_areRuns_198 (lv_at hl 4 rfl) ?_
                                  refine xk_iconst hx hb dL_areRuns_200 ?_
                                  obtain ⟨v287, ev287, hf⟩ := x_bind hf
                                  refine xk_iald (f := g283) hx hb hK hP 3 0 ev287 (by decide) rfl rfl dL_areRuns_201 ?_
                                  refine lv_aload_n hx hb dL_areRuns_202 rfl (lv_at hl 1 rfl) ?_
                                  refine lv_aload_n hx hb dL_areRuns_203 rfl (lv_at hl 2 rfl) ?_
                                  refine xk_iconst hx hb dL_areRuns_204 ?_
                                  refine lv_iload hx hb dL_areRuns_205 (lv_at hl 7 rfl) ?_
                                  refine lv_iload hx hb dL_areRuns_207 (lv_at hl 9 rfl) ?_
                                  obtain ⟨v288, ev288, hf⟩ := x_bind hf
                                  refine xf_sri (As := [.ref aa, .ref ah, .int (iI 1), .int (iI v6), .int (iI l9)]) (rest := [.int (iI v287)]) (wcs := ([[qcC cs aa 64 va], [qcC cs ah 8 vh]] : List va_W)) ⟨hx, hb, hml, hown, hts⟩ (kL_ranked l dC dI cs aa ah va vh 1 v6 l9 _ ev288) (va_cwS 5 hts gL_areRuns_L_ranked rfl rfl rfl cdL_ranked ⟨Nat.le_of_ble_eq_true rfl, Nat.le_of_ble_eq_true rfl⟩) hK hP [0, 1] rfl rfl rfl hl.1 rfl (Nat.le_of_ble_eq_true rfl) dL_areRuns_209 ⟨by show _ ≤ 5539; omega, by show _ ≤ 33229; omega⟩ ?_
                                  obtain ⟨c289a, c289b, c289t, c289f⟩ := x_eqE hf
                                  refine xk_icmp_eq (tgt := 217) hx hb c289a c289b dL_areRuns_212 (by decide) (fun c289 => ?_) (fun c289 => ?_)
                                  · have hf := c289t c289
                                    refine xk_iinc (lv' := [(9, .int (iI (l9 + 1))), (0, .ref (a 0)), (1, .ref aa), (2, .ref ah), (3, .ref af), (4, .ref ao), (5, .int (iI v1)), (6, .int (iI l6)), (7, .int (iI v6)), (8, .int (iI v7))]) hx hb dL_areRuns_217 hl (k := 9) rfl (by decide) rfl (fun ls hl => ?_)
                                    refine lv_goto (tgt := 178) hx hb dL_areRuns_220 (by decide) ?_
                                    exact ih178 (l9 + 1) g283 y284 hf _ _ ⟨by omega, by omega⟩ _ _ hP hS ls (lv_sub hl [1, 2, 3, 4, 5, 6, 7, 8, 9, 0] rfl)
                                  · have hf := c289f c289
                                    refine xk_iconst hx hb dL_areRuns_215 ?_
                                    obtain rfl := Option.some.inj hf
                                    refine W.widen (k := 5539) (n := 33229) (by omega) (by omega) ?_
                                    have hP : va_P (dC, dI) vwCl (([[qcC cs aa 64 va], [qcC cs ah 8 vh], [qcC cs af 64 vf]] ++ w4 cs a y284).flatten) H := hP.sub (ws' := ([[qcC cs aa 64 va], [qcC cs ah 8 vh], [qcC cs af 64 vf]] ++ w4 cs a y284).flatten) [0, 1, 2, 4, 5, 6, 7, 8, 9, 10, 11, 12, 13, 14, 15, 16, 17, 18, 19, 20, 21, 22, 23, 24, 25, 26, 27, 28, 29, 30, 31, 32, 33, 34, 35, 36, 37, 38, 39, 40, 41, 42, 43, 44, 45, 46, 47, 48, 49, 50, 51, 52, 53, 54, 55, 56, 57, 58, 59, 60, 61, 62, 63, 64, 65, 66, 67, 68, 69, 70, 71, 72, 73, 74, 75, 76, 77, 78, 79, 80, 81, 82, 83, 84, 85, 86, 87, 88, 89, 90, 91, 92, 93, 94, 95, 96, 97, 98, 99, 100, 101, 102, 103, 104, 105] rfl
                                    exact xe_wz hx hb hr (Or.inl rfl) hlocks hS hP dL_areRuns_216
                                · have hf := c286f c286
                                  refine xk_iconst hx hb dL_areRuns_215 ?_
                                  obtain rfl := Option.some.inj hf
                                  refine W.widen (k := 5539) (n := 33229) (by omega) (by omega) ?_
                                  have hP : va_P (dC, dI) vwCl (([[qcC cs aa 64 va], [qcC cs ah 8 vh], [qcC cs af 64 vf]] ++ w4 cs a y284).flatten) H := hP.sub (ws' := ([[qcC cs aa 64 va], [qcC cs ah 8 vh], [qcC cs af 64 vf]] ++ w4 cs a y284).flatten) [0, 1, 2, 4, 5, 6, 7, 8, 9, 10, 11, 12, 13, 14, 15, 16, 17, 18, 19, 20, 21, 22, 23, 24, 25, 26, 27, 28, 29, 30, 31, 32, 33, 34, 35, 36, 37, 38, 39, 40, 41, 42, 43, 44, 45, 46, 47, 48, 49, 50, 51, 52, 53, 54, 55, 56, 57, 58, 59, 60, 61, 62, 63, 64, 65, 66, 67, 68, 69, 70, 71, 72, 73, 74, 75, 76, 77, 78, 79, 80, 81, 82, 83, 84, 85, 86, 87, 88, 89, 90, 91, 92, 93, 94, 95, 96, 97, 98, 99, 100, 101, 102, 103, 104, 105] rfl
                                  exact xe_wz hx hb hr (Or.inl rfl) hlocks hS hP dL_areRuns_216
                              · have hf := c282f c282
                                refine lv_aload_n hx hb dL_areRuns_223 rfl (lv_at hl 0 rfl) ?_
                                refine lv_iload hx hb dL_areRuns_224 (lv_at hl 7 rfl) ?_
                                refine lv_iload hx hb dL_areRuns_226 (lv_at hl 8 rfl) ?_
                                refine lv_aload hx hb dL_areRuns_228 (lv_at hl 4 rfl) ?_
                                obtain ⟨⟨v292, g290, y291⟩, ev292, hf⟩ := x_bind hf
                                refine xf_sw (As := [.ref (a 0), .int (iI v6), .int (iI v7), .ref ao]) (rest := []) (wcs := [[qcC cs ao 1 g279]] ++ w4 cs a y280) (w1s := [[qcC cs ao 1 g290]] ++ w4 cs a y291) ⟨hx, hb, hml, hown, hts⟩ (kL_inRun l hlS dC dI cs ao a H.size g279 y280 v6 v7 _ ev292) (vx_cwSW 4 hts gL_areRuns_L_inRun rfl rfl rfl cdL_inRun ⟨Nat.le_of_ble_eq_true rfl, Nat.le_of_ble_eq_true rfl⟩) hK hP (x_addrF hD rfl) hS hA hTh hN [3, 4, 5, 6, 7, 8, 9, 10, 11, 12, 13] rfl rfl rfl (by decide) rfl rfl hl.1 rfl (Nat.le_of_ble_eq_true rfl) dL_areRuns_230 ⟨by show _ ≤ 5539; omega, by show _ ≤ 33229; omega⟩ (fun H locs hP hS => ?_)
                                have hP : va_P (dC, dI) vwCl (([[qcC cs aa 64 va], [qcC cs ah 8 vh], [qcC cs af 64 vf], [qcC cs ao 1 g290]] ++ w4 cs a y291).flatten) H := hP
                                refine xk_iconst hx hb dL_areRuns_233 ?_
                                obtain ⟨c293a, c293b, c293t, c293f⟩ := x_eqE hf
                                refine xk_icmp_eq (tgt := 239) hx hb c293a c293b dL_areRuns_234 (by decide) (fun c293 => ?_) (fun c293 => ?_)
                                · have hf := c293t c293
                                  refine xk_iinc (lv' := [(6, .int (iI (l6 + 1))), (0, .ref (a 0)), (1, .ref aa), (2, .ref ah), (3, .ref af), (4, .ref ao), (5, .int (iI v1)), (7, .int (iI v6)), (8, .int (iI v7)), (9, .int (iI l9))]) hx hb dL_areRuns_239 hl (k := 6) rfl (by decide) rfl (fun ls hl => ?_)
                                  refine lv_goto (tgt := 15) hx hb dL_areRuns_242 (by decide) ?_
                                  exact ih15 (l6 + 1) g290 y291 hf _ _ ⟨by omega, by omega⟩ _ _ hP hS ls (lv_sub hl [1, 2, 3, 4, 5, 6, 0] rfl)
                                · have hf := c293f c293
                                  refine xk_iconst hx hb dL_areRuns_237 ?_
                                  obtain rfl := Option.some.inj hf
                                  refine W.widen (k := 5539) (n := 33229) (by omega) (by omega) ?_
                                  have hP : va_P (dC, dI) vwCl (([[qcC cs aa 64 va], [qcC cs ah 8 vh], [qcC cs af 64 vf]] ++ w4 cs a y291).flatten) H := hP.sub (ws' := ([[qcC cs aa 64 va], [qcC cs ah 8 vh], [qcC cs af 64 vf]] ++ w4 cs a y291).flatten) [0, 1, 2, 4, 5, 6, 7, 8, 9, 10, 11, 12, 13, 14, 15, 16, 17, 18, 19, 20, 21, 22, 23, 24, 25, 26, 27, 28, 29, 30, 31, 32, 33, 34, 35, 36, 37, 38, 39, 40, 41, 42, 43, 44, 45, 46, 47, 48, 49, 50, 51, 52, 53, 54, 55, 56, 57, 58, 59, 60, 61, 62, 63, 64, 65, 66, 67, 68, 69, 70, 71, 72, 73, 74, 75, 76, 77, 78, 79, 80, 81, 82, 83, 84, 85, 86, 87, 88, 89, 90, 91, 92, 93, 94, 95, 96, 97, 98, 99, 100, 101, 102, 103, 104, 105] rfl
                                  exact xe_wz hx hb hr (Or.inl rfl) hlocks hS hP dL_areRuns_238
                          exact hL178  70 0 g8 y41 hf _ _ ⟨by omega, by omega⟩ _ _ hP hS ls (lv_sub hl [3, 4, 5, 6, 7, 8, 9, 2, 1, 0] rfl)
                        · have hf := c45f c45
                          refine xk_iconst hx hb dL_areRuns_173 ?_
                          obtain rfl := Option.some.inj hf
                          refine W.widen (k := 5539) (n := 33229) (by omega) (by omega) ?_
                          have hP : va_P (dC, dI) vwCl (([[qcC cs aa 64 va], [qcC cs ah 8 vh], [qcC cs af 64 vf]] ++ w4 cs a y41).flatten) H := hP.sub (ws' := ([[qcC cs aa 64 va], [qcC cs ah 8 vh], [qcC cs af 64 vf]] ++ w4 cs a y41).flatten) [0, 1, 2, 4, 5, 6, 7, 8, 9, 10, 11, 12, 13, 14, 15, 16, 17, 18, 19, 20, 21, 22, 23, 24, 25, 26, 27, 28, 29, 30, 31, 32, 33, 34, 35, 36, 37, 38, 39, 40, 41, 42, 43, 44, 45, 46, 47, 48, 49, 50, 51, 52, 53, 54, 55, 56, 57, 58, 59, 60, 61, 62, 63, 64, 65, 66, 67, 68, 69, 70, 71, 72, 73, 74, 75, 76, 77, 78, 79, 80, 81, 82, 83, 84, 85, 86, 87, 88, 89, 90, 91, 92, 93, 94, 95, 96, 97, 98, 99, 100, 101, 102, 103, 104, 105] rfl
                          exact xe_wz hx hb hr (Or.inl rfl) hlocks hS hP dL_areRuns_174
                      · have hf := c44f c44
                        refine xk_iconst hx hb dL_areRuns_169 ?_
                        obtain ⟨c46a, c46b, c46t, c46f⟩ := x_eqE hf
                        refine xk_icmp_eq (tgt := 175) hx hb c46a c46b dL_areRuns_170 (by decide) (fun c46 => ?_) (fun c46 => ?_)
                        · have hf := c46t c46
                          refine xk_iconst hx hb dL_areRuns_175 ?_
                          refine lv_istore (lv' := [(9, .int (iI 0)), (8, .int (iI v7)), (7, .int (iI v6)), (0, .ref (a 0)), (1, .ref aa), (2, .ref ah), (3, .ref af), (4, .ref ao), (5, .int (iI v1)), (6, .int (iI l6))]) hx hb dL_areRuns_176 hl (by decide) rfl (fun ls hl => ?_)
                          have hL178 : ∀ (n281 : Nat) (l9 : Int) (g279 : Int → Int) (y280 : BrS), fL_areRuns_L178 va vh l6 v6 v7 (fL_areRuns_L15 va vh vf v1 n4) n281 l9 g279 y280 = some res → ∀ (cells slots : Nat), cells + n281 * 1 + 1 + n4 * 78 + 78 ≤ 5539 ∧ slots + n281 * 6 + 6 + n4 * 468 + 468 ≤ 33229 → ∀ (H : Heap) (locs : List Loc), va_P (dC, dI) vwCl (([[qcC cs aa 64 va], [qcC cs ah 8 vh], [qcC cs af 64 vf], [qcC cs ao 1 g279]] ++ w4 cs a y280).flatten) H → va_S (va_A (([[qcC cs aa 64 va], [qcC cs ah 8 vh], [qcC cs af 64 vf]] ++ w4 cs a y).flatten) s.heap.size) s.heap H locs → ∀ (ls : Array Slot), lv_has ls 10 [(0, .ref (a 0)), (1, .ref aa), (2, .ref ah), (3, .ref af), (4, .ref ao), (5, .int (iI v1)), (6, .int (iI l6)), (7, .int (iI v6)), (8, .int (iI v7)), (9, .int (iI l9))] → W p l e (headSpec wsL_areRuns ({ frames := 8, cells := 5539, slots := 33229, locals := 128 } : Room)).room s m ([.ref (a 0), .ref aa, .ref ah, .ref af] : List Value).toArray below meth c H locs cells slots (MQ below (xQi (dC, dI) vwCl (([[qcC cs aa 64 va], [qcC cs ah 8 vh], [qcC cs af 64 vf]] ++ w4 cs a y).flatten) (([[qcC cs aa 64 va], [qcC cs ah 8 vh], [qcC cs af 64 vf]] ++ w4 cs a res.2).flatten) s.heap.size res.1) ([.ref (a 0), .ref aa, .ref ah, .ref af] : List Value).toArray s 5539 33229 (va_A (([[qcC cs aa 64 va], [qcC cs ah 8 vh], [qcC cs af 64 vf]] ++ w4 cs a y).flatten) s.heap.size)) (F0 m 178 ls []) := by
                            intro  n281
                            induction n281 with
                            | zero => intro l9 g279 y280 hf; have hf : (none : Option (Int × BrS)) = some res := hf; cases hf
                            | succ n281 ih178 =>
                              intro l9 g279 y280 hf cells slots hcb H locs hP hS ls hl
                              rw [fL_areRuns_L178] at hf
                              refine lv_iload hx hb dL_areRuns_178 (lv_at hl 9 rfl) ?_
                              refine lv_iload hx hb dL_areRuns_180 (lv_at hl 8 rfl) ?_
                              obtain ⟨c282a, c282b, c282t, c282f⟩ := x_ltE hf
                              refine xk_icmp_ge (tgt := 223) hx hb c282a c282b dL_areRuns_182 (by decide) (fun c282 => ?_) (fun c282 => ?_)
                              · have hf := c282t c282
                                refine lv_aload_n hx hb dL_areRuns_185 rfl (lv_at hl 0 rfl) ?_
                                refine lv_iload hx hb dL_areRuns_186 (lv_at hl 7 rfl) ?_
                                refine lv_iload hx hb dL_areRuns_188 (lv_at hl 9 rfl) ?_
                                refine lv_aload hx hb dL_areRuns_190 (lv_at hl 4 rfl) ?_
                                obtain ⟨⟨v285, g283, y284⟩, ev285, hf⟩ := x_bind hf
                                refine xf_sw (As := [.ref (a 0), .int (iI v6), .int (iI l9), .ref ao]) (rest := []) (wcs := [[qcC cs ao 1 g279]] ++ w4 cs a y280) (w1s := [[qcC cs ao 1 g283]] ++ w4 cs a y284) ⟨hx, hb, hml, hown, hts⟩ (kL_inRun l hlS dC dI cs ao a H.size g279 y280 v6 l9 _ ev285) (vx_cwSW 4 hts gL_areRuns_L_inRun rfl rfl rfl cdL_inRun ⟨Nat.le_of_ble_eq_true rfl, Nat.le_of_ble_eq_true rfl⟩) hK hP (x_addrF hD rfl) hS hA hTh hN [3, 4, 5, 6, 7, 8, 9, 10, 11, 12, 13] rfl rfl rfl (by decide) rfl rfl hl.1 rfl (Nat.le_of_ble_eq_true rfl) dL_areRuns_192 ⟨by show _ ≤ 5539; omega, by show _ ≤ 33229; omega⟩ (fun H locs hP hS => ?_)
                                have hP : va_P (dC, dI) vwCl (([[qcC cs aa 64 va], [qcC cs ah 8 vh], [qcC cs af 64 vf], [qcC cs ao 1 g283]] ++ w4 cs a y284).flatten) H := hP
                                obtain ⟨c286a, c286b, c286t, c286f⟩ := x_eqE hf
                                refine xk_if_ne (tgt := 215) hx hb c286a dL_areRuns_195 (by decide) (fun c286 => ?_) (fun c286 => ?_)
                                · have hf := c286t c286
                                  refine lv_aload hx hb dL_areRuns_198 (lv_at hl 4 rfl) ?_
                                  refine xk_iconst hx hb dL_areRuns_200 ?_
                                  obtain ⟨v287, ev287, hf⟩ := x_bind hf
                                  refine xk_iald (f := g283) hx hb hK hP 3 0 ev287 (by decide) rfl rfl dL_areRuns_201 ?_
                                  refine lv_aload_n hx hb dL_areRuns_202 rfl (lv_at hl 1 rfl) ?_
                                  refine lv_aload_n hx hb dL_areRuns_203 rfl (lv_at hl 2 rfl) ?_
                                  refine xk_iconst hx hb dL_areRuns_204 ?_
                                  refine lv_iload hx hb dL_areRuns_205 (lv_at hl 7 rfl) ?_
                                  refine lv_iload hx hb dL_areRuns_207 (lv_at hl 9 rfl) ?_
                                  obtain ⟨v288, ev288, hf⟩ := x_bind hf
                                  refine xf_sri (As := [.ref aa, .ref ah, .int (iI 1), .int (iI v6), .int (iI l9)]) (rest := [.int (iI v287)]) (wcs := ([[qcC cs aa 64 va], [qcC cs ah 8 vh]] : List va_W)) ⟨hx, hb, hml, hown, hts⟩ (kL_ranked l dC dI cs aa ah va vh 1 v6 l9 _ ev288) (va_cwS 5 hts gL_areRuns_L_ranked rfl rfl rfl cdL_ranked ⟨Nat.le_of_ble_eq_true rfl, Nat.le_of_ble_eq_true rfl⟩) hK hP [0, 1] rfl rfl rfl hl.1 rfl (Nat.le_of_ble_eq_true rfl) dL_areRuns_209 ⟨by show _ ≤ 5539; omega, by show _ ≤ 33229; omega⟩ ?_
                                  obtain ⟨c289a, c289b, c289t, c289f⟩ := x_eqE hf
                                  refine xk_icmp_eq (tgt := 217) hx hb c289a c289b dL_areRuns_212 (by decide) (fun c289 => ?_) (fun c289 => ?_)
                                  · have hf := c289t c289
                                    refine xk_iinc (lv' := [(9, .int (iI (l9 + 1))), (0, .ref (a 0)), (1, .ref aa), (2, .ref ah), (3, .ref af), (4, .ref ao), (5, .int (iI v1)), (6, .int (iI l6)), (7, .int (iI v6)), (8, .int (iI v7))]) hx hb dL_areRuns_217 hl (k := 9) rfl (by decide) rfl (fun ls hl => ?_)
                                    refine lv_goto (tgt := 178) hx hb dL_areRuns_220 (by decide) ?_
                                    exact ih178 (l9 + 1) g283 y284 hf _ _ ⟨by omega, by omega⟩ _ _ hP hS ls (lv_sub hl [1, 2, 3, 4, 5, 6, 7, 8, 9, 0] rfl)
                                  · have hf := c289f c289
                                    refine xk_iconst hx hb dL_areRuns_215 ?_
                                    obtain rfl := Option.some.inj hf
                                    refine W.widen (k := 5539) (n := 33229) (by omega) (by omega) ?_
                                    have hP : va_P (dC, dI) vwCl (([[qcC cs aa 64 va], [qcC cs ah 8 vh], [qcC cs af 64 vf]] ++ w4 cs a y284).flatten) H := hP.sub (ws' := ([[qcC cs aa 64 va], [qcC cs ah 8 vh], [qcC cs af 64 vf]] ++ w4 cs a y284).flatten) [0, 1, 2, 4, 5, 6, 7, 8, 9, 10, 11, 12, 13, 14, 15, 16, 17, 18, 19, 20, 21, 22, 23, 24, 25, 26, 27, 28, 29, 30, 31, 32, 33, 34, 35, 36, 37, 38, 39, 40, 41, 42, 43, 44, 45, 46, 47, 48, 49, 50, 51, 52, 53, 54, 55, 56, 57, 58, 59, 60, 61, 62, 63, 64, 65, 66, 67, 68, 69, 70, 71, 72, 73, 74, 75, 76, 77, 78, 79, 80, 81, 82, 83, 84, 85, 86, 87, 88, 89, 90, 91, 92, 93, 94, 95, 96, 97, 98, 99, 100, 101, 102, 103, 104, 105] rfl
                                    exact xe_wz hx hb hr (Or.inl rfl) hlocks hS hP dL_areRuns_216
                                · have hf := c286f c286
                                  refine xk_iconst hx hb dL_areRuns_215 ?_
                                  obtain rfl := Option.some.inj hf
                                  refine W.widen (k := 5539) (n := 33229) (by omega) (by omega) ?_
                                  have hP : va_P (dC, dI) vwCl (([[qcC cs aa 64 va], [qcC cs ah 8 vh], [qcC cs af 64 vf]] ++ w4 cs a y284).flatten) H := hP.sub (ws' := ([[qcC cs aa 64 va], [qcC cs ah 8 vh], [qcC cs af 64 vf]] ++ w4 cs a y284).flatten) [0, 1, 2, 4, 5, 6, 7, 8, 9, 10, 11, 12, 13, 14, 15, 16, 17, 18, 19, 20, 21, 22, 23, 24, 25, 26, 27, 28, 29, 30, 31, 32, 33, 34, 35, 36, 37, 38, 39, 40, 41, 42, 43, 44, 45, 46, 47, 48, 49, 50, 51, 52, 53, 54, 55, 56, 57, 58, 59, 60, 61, 62, 63, 64, 65, 66, 67, 68, 69, 70, 71, 72, 73, 74, 75, 76, 77, 78, 79, 80, 81, 82, 83, 84, 85, 86, 87, 88, 89, 90, 91, 92, 93, 94, 95, 96, 97, 98, 99, 100, 101, 102, 103, 104, 105] rfl
                                  exact xe_wz hx hb hr (Or.inl rfl) hlocks hS hP dL_areRuns_216
                              · have hf := c282f c282
                                refine lv_aload_n hx hb dL_areRuns_223 rfl (lv_at hl 0 rfl) ?_
                                refine lv_iload hx hb dL_areRuns_224 (lv_at hl 7 rfl) ?_
                                refine lv_iload hx hb dL_areRuns_226 (lv_at hl 8 rfl) ?_
                                refine lv_aload hx hb dL_areRuns_228 (lv_at hl 4 rfl) ?_
                                obtain ⟨⟨v292, g290, y291⟩, ev292, hf⟩ := x_bind hf
                                refine xf_sw (As := [.ref (a 0), .int (iI v6), .int (iI v7), .ref ao]) (rest := []) (wcs := [[qcC cs ao 1 g279]] ++ w4 cs a y280) (w1s := [[qcC cs ao 1 g290]] ++ w4 cs a y291) ⟨hx, hb, hml, hown, hts⟩ (kL_inRun l hlS dC dI cs ao a H.size g279 y280 v6 v7 _ ev292) (vx_cwSW 4 hts gL_areRuns_L_inRun rfl rfl rfl cdL_inRun ⟨Nat.le_of_ble_eq_true rfl, Nat.le_of_ble_eq_true rfl⟩) hK hP (x_addrF hD rfl) hS hA hTh hN [3, 4, 5, 6, 7, 8, 9, 10, 11, 12, 13] rfl rfl rfl (by decide) rfl rfl hl.1 rfl (Nat.le_of_ble_eq_true rfl) dL_areRuns_230 ⟨by show _ ≤ 5539; omega, by show _ ≤ 33229; omega⟩ (fun H locs hP hS => ?_)
                                have hP : va_P (dC, dI) vwCl (([[qcC cs aa 64 va], [qcC cs ah 8 vh], [qcC cs af 64 vf], [qcC cs ao 1 g290]] ++ w4 cs a y291).flatten) H := hP
                                refine xk_iconst hx hb dL_areRuns_233 ?_
                                obtain ⟨c293a, c293b, c293t, c293f⟩ := x_eqE hf
                                refine xk_icmp_eq (tgt := 239) hx hb c293a c293b dL_areRuns_234 (by decide) (fun c293 => ?_) (fun c293 => ?_)
                                · have hf := c293t c293
                                  refine xk_iinc (lv' := [(6, .int (iI (l6 + 1))), (0, .ref (a 0)), (1, .ref aa), (2, .ref ah), (3, .ref af), (4, .ref ao), (5, .int (iI v1)), (7, .int (iI v6)), (8, .int (iI v7)), (9, .int (iI l9))]) hx hb dL_areRuns_239 hl (k := 6) rfl (by decide) rfl (fun ls hl => ?_)
                                  refine lv_goto (tgt := 15) hx hb dL_areRuns_242 (by decide) ?_
                                  exact ih15 (l6 + 1) g290 y291 hf _ _ ⟨by omega, by omega⟩ _ _ hP hS ls (lv_sub hl [1, 2, 3, 4, 5, 6, 0] rfl)
                                · have hf := c293f c293
                                  refine xk_iconst hx hb dL_areRuns_237 ?_
                                  obtain rfl := Option.some.inj hf
                                  refine W.widen (k := 5539) (n := 33229) (by omega) (by omega) ?_
                                  have hP : va_P (dC, dI) vwCl (([[qcC cs aa 64 va], [qcC cs ah 8 vh], [qcC cs af 64 vf]] ++ w4 cs a y291).flatten) H := hP.sub (ws' := ([[qcC cs aa 64 va], [qcC cs ah 8 vh], [qcC cs af 64 vf]] ++ w4 cs a y291).flatten) [0, 1, 2, 4, 5, 6, 7, 8, 9, 10, 11, 12, 13, 14, 15, 16, 17, 18, 19, 20, 21, 22, 23, 24, 25, 26, 27, 28, 29, 30, 31, 32, 33, 34, 35, 36, 37, 38, 39, 40, 41, 42, 43, 44, 45, 46, 47, 48, 49, 50, 51, 52, 53, 54, 55, 56, 57, 58, 59, 60, 61, 62, 63, 64, 65, 66, 67, 68, 69, 70, 71, 72, 73, 74, 75, 76, 77, 78, 79, 80, 81, 82, 83, 84, 85, 86, 87, 88, 89, 90, 91, 92, 93, 94, 95, 96, 97, 98, 99, 100, 101, 102, 103, 104, 105] rfl
                                  exact xe_wz hx hb hr (Or.inl rfl) hlocks hS hP dL_areRuns_238
                          exact hL178  70 0 g8 y41 hf _ _ ⟨by omega, by omega⟩ _ _ hP hS ls (lv_sub hl [3, 4, 5, 6, 7, 8, 9, 2, 1, 0] rfl)
                        · have hf := c46f c46
                          refine xk_iconst hx hb dL_areRuns_173 ?_
                          obtain rfl := Option.some.inj hf
                          refine W.widen (k := 5539) (n := 33229) (by omega) (by omega) ?_
                          have hP : va_P (dC, dI) vwCl (([[qcC cs aa 64 va], [qcC cs ah 8 vh], [qcC cs af 64 vf]] ++ w4 cs a y41).flatten) H := hP.sub (ws' := ([[qcC cs aa 64 va], [qcC cs ah 8 vh], [qcC cs af 64 vf]] ++ w4 cs a y41).flatten) [0, 1, 2, 4, 5, 6, 7, 8, 9, 10, 11, 12, 13, 14, 15, 16, 17, 18, 19, 20, 21, 22, 23, 24, 25, 26, 27, 28, 29, 30, 31, 32, 33, 34, 35, 36, 37, 38, 39, 40, 41, 42, 43, 44, 45, 46, 47, 48, 49, 50, 51, 52, 53, 54, 55, 56, 57, 58, 59, 60, 61, 62, 63, 64, 65, 66, 67, 68, 69, 70, 71, 72, 73, 74, 75, 76, 77, 78, 79, 80, 81, 82, 83, 84, 85, 86, 87, 88, 89, 90, 91, 92, 93, 94, 95, 96, 97, 98, 99, 100, 101, 102, 103, 104, 105] rfl
                          exact xe_wz hx hb hr (Or.inl rfl) hlocks hS hP dL_areRuns_174
                    · have hf := c39f c39
                      refine xk_iconst hx hb dL_areRuns_173 ?_
                      obtain rfl := Option.some.inj hf
                      refine W.widen (k := 5539) (n := 33229) (by omega) (by omega) ?_
                      have hP : va_P (dC, dI) vwCl (([[qcC cs aa 64 va], [qcC cs ah 8 vh], [qcC cs af 64 vf]] ++ w4 cs a y35).flatten) H := hP.sub (ws' := ([[qcC cs aa 64 va], [qcC cs ah 8 vh], [qcC cs af 64 vf]] ++ w4 cs a y35).flatten) [0, 1, 2, 4, 5, 6, 7, 8, 9, 10, 11, 12, 13, 14, 15, 16, 17, 18, 19, 20, 21, 22, 23, 24, 25, 26, 27, 28, 29, 30, 31, 32, 33, 34, 35, 36, 37, 38, 39, 40, 41, 42, 43, 44, 45, 46, 47, 48, 49, 50, 51, 52, 53, 54, 55, 56, 57, 58, 59, 60, 61, 62, 63, 64, 65, 66, 67, 68, 69, 70, 71, 72, 73, 74, 75, 76, 77, 78, 79, 80, 81, 82, 83, 84, 85, 86, 87, 88, 89, 90, 91, 92, 93, 94, 95, 96, 97, 98, 99, 100, 101, 102, 103, 104, 105] rfl
                      exact xe_wz hx hb hr (Or.inl rfl) hlocks hS hP dL_areRuns_174
                  · have hf := c33f c33
                    refine xk_iconst hx hb dL_areRuns_173 ?_
                    obtain rfl := Option.some.inj hf
                    refine W.widen (k := 5539) (n := 33229) (by omega) (by omega) ?_
                    have hP : va_P (dC, dI) vwCl (([[qcC cs aa 64 va], [qcC cs ah 8 vh], [qcC cs af 64 vf]] ++ w4 cs a y29).flatten) H := hP.sub (ws' := ([[qcC cs aa 64 va], [qcC cs ah 8 vh], [qcC cs af 64 vf]] ++ w4 cs a y29).flatten) [0, 1, 2, 4, 5, 6, 7, 8, 9, 10, 11, 12, 13, 14, 15, 16, 17, 18, 19, 20, 21, 22, 23, 24, 25, 26, 27, 28, 29, 30, 31, 32, 33, 34, 35, 36, 37, 38, 39, 40, 41, 42, 43, 44, 45, 46, 47, 48, 49, 50, 51, 52, 53, 54, 55, 56, 57, 58, 59, 60, 61, 62, 63, 64, 65, 66, 67, 68, 69, 70, 71, 72, 73, 74, 75, 76, 77, 78, 79, 80, 81, 82, 83, 84, 85, 86, 87, 88, 89, 90, 91, 92, 93, 94, 95, 96, 97, 98, 99, 100, 101, 102, 103, 104, 105] rfl
                    exact xe_wz hx hb hr (Or.inl rfl) hlocks hS hP dL_areRuns_174
                · have hf := c27f c27
                  refine xk_iconst hx hb dL_areRuns_104 ?_
                  obtain rfl := Option.some.inj hf
                  refine W.widen (k := 5539) (n := 33229) (by omega) (by omega) ?_
                  have hP : va_P (dC, dI) vwCl (([[qcC cs aa 64 va], [qcC cs ah 8 vh], [qcC cs af 64 vf]] ++ w4 cs a y24).flatten) H := hP.sub (ws' := ([[qcC cs aa 64 va], [qcC cs ah 8 vh], [qcC cs af 64 vf]] ++ w4 cs a y24).flatten) [0, 1, 2, 4, 5, 6, 7, 8, 9, 10, 11, 12, 13, 14, 15, 16, 17, 18, 19, 20, 21, 22, 23, 24, 25, 26, 27, 28, 29, 30, 31, 32, 33, 34, 35, 36, 37, 38, 39, 40, 41, 42, 43, 44, 45, 46, 47, 48, 49, 50, 51, 52, 53, 54, 55, 56, 57, 58, 59, 60, 61, 62, 63, 64, 65, 66, 67, 68, 69, 70, 71, 72, 73, 74, 75, 76, 77, 78, 79, 80, 81, 82, 83, 84, 85, 86, 87, 88, 89, 90, 91, 92, 93, 94, 95, 96, 97, 98, 99, 100, 101, 102, 103, 104, 105] rfl
                  exact xe_wz hx hb hr (Or.inl rfl) hlocks hS hP dL_areRuns_105
              · have hf := c22f c22
                refine xk_iconst hx hb dL_areRuns_104 ?_
                obtain rfl := Option.some.inj hf
                refine W.widen (k := 5539) (n := 33229) (by omega) (by omega) ?_
                have hP : va_P (dC, dI) vwCl (([[qcC cs aa 64 va], [qcC cs ah 8 vh], [qcC cs af 64 vf]] ++ w4 cs a y19).flatten) H := hP.sub (ws' := ([[qcC cs aa 64 va], [qcC cs ah 8 vh], [qcC cs af 64 vf]] ++ w4 cs a y19).flatten) [0, 1, 2, 4, 5, 6, 7, 8, 9, 10, 11, 12, 13, 14, 15, 16, 17, 18, 19, 20, 21, 22, 23, 24, 25, 26, 27, 28, 29, 30, 31, 32, 33, 34, 35, 36, 37, 38, 39, 40, 41, 42, 43, 44, 45, 46, 47, 48, 49, 50, 51, 52, 53, 54, 55, 56, 57, 58, 59, 60, 61, 62, 63, 64, 65, 66, 67, 68, 69, 70, 71, 72, 73, 74, 75, 76, 77, 78, 79, 80, 81, 82, 83, 84, 85, 86, 87, 88, 89, 90, 91, 92, 93, 94, 95, 96, 97, 98, 99, 100, 101, 102, 103, 104, 105] rfl
                exact xe_wz hx hb hr (Or.inl rfl) hlocks hS hP dL_areRuns_105
            · have hf := c17f c17
              refine xk_iconst hx hb dL_areRuns_104 ?_
              obtain rfl := Option.some.inj hf
              refine W.widen (k := 5539) (n := 33229) (by omega) (by omega) ?_
              have hP : va_P (dC, dI) vwCl (([[qcC cs aa 64 va], [qcC cs ah 8 vh], [qcC cs af 64 vf]] ++ w4 cs a y15).flatten) H := hP.sub (ws' := ([[qcC cs aa 64 va], [qcC cs ah 8 vh], [qcC cs af 64 vf]] ++ w4 cs a y15).flatten) [0, 1, 2, 4, 5, 6, 7, 8, 9, 10, 11, 12, 13, 14, 15, 16, 17, 18, 19, 20, 21, 22, 23, 24, 25, 26, 27, 28, 29, 30, 31, 32, 33, 34, 35, 36, 37, 38, 39, 40, 41, 42, 43, 44, 45, 46, 47, 48, 49, 50, 51, 52, 53, 54, 55, 56, 57, 58, 59, 60, 61, 62, 63, 64, 65, 66, 67, 68, 69, 70, 71, 72, 73, 74, 75, 76, 77, 78, 79, 80, 81, 82, 83, 84, 85, 86, 87, 88, 89, 90, 91, 92, 93, 94, 95, 96, 97, 98, 99, 100, 101, 102, 103, 104, 105] rfl
              exact xe_wz hx hb hr (Or.inl rfl) hlocks hS hP dL_areRuns_105
          · have hf := c13f c13
            refine xk_iconst hx hb dL_areRuns_104 ?_
            obtain rfl := Option.some.inj hf
            refine W.widen (k := 5539) (n := 33229) (by omega) (by omega) ?_
            have hP : va_P (dC, dI) vwCl (([[qcC cs aa 64 va], [qcC cs ah 8 vh], [qcC cs af 64 vf]] ++ w4 cs a y9).flatten) H := hP.sub (ws' := ([[qcC cs aa 64 va], [qcC cs ah 8 vh], [qcC cs af 64 vf]] ++ w4 cs a y9).flatten) [0, 1, 2, 4, 5, 6, 7, 8, 9, 10, 11, 12, 13, 14, 15, 16, 17, 18, 19, 20, 21, 22, 23, 24, 25, 26, 27, 28, 29, 30, 31, 32, 33, 34, 35, 36, 37, 38, 39, 40, 41, 42, 43, 44, 45, 46, 47, 48, 49, 50, 51, 52, 53, 54, 55, 56, 57, 58, 59, 60, 61, 62, 63, 64, 65, 66, 67, 68, 69, 70, 71, 72, 73, 74, 75, 76, 77, 78, 79, 80, 81, 82, 83, 84, 85, 86, 87, 88, 89, 90, 91, 92, 93, 94, 95, 96, 97, 98, 99, 100, 101, 102, 103, 104, 105] rfl
            exact xe_wz hx hb hr (Or.inl rfl) hlocks hS hP dL_areRuns_105
        · have hf := c11f c11
          refine xk_iconst hx hb dL_areRuns_104 ?_
          obtain rfl := Option.some.inj hf
          refine W.widen (k := 5539) (n := 33229) (by omega) (by omega) ?_
          have hP : va_P (dC, dI) vwCl (([[qcC cs aa 64 va], [qcC cs ah 8 vh], [qcC cs af 64 vf]] ++ w4 cs a y9).flatten) H := hP.sub (ws' := ([[qcC cs aa 64 va], [qcC cs ah 8 vh], [qcC cs af 64 vf]] ++ w4 cs a y9).flatten) [0, 1, 2, 4, 5, 6, 7, 8, 9, 10, 11, 12, 13, 14, 15, 16, 17, 18, 19, 20, 21, 22, 23, 24, 25, 26, 27, 28, 29, 30, 31, 32, 33, 34, 35, 36, 37, 38, 39, 40, 41, 42, 43, 44, 45, 46, 47, 48, 49, 50, 51, 52, 53, 54, 55, 56, 57, 58, 59, 60, 61, 62, 63, 64, 65, 66, 67, 68, 69, 70, 71, 72, 73, 74, 75, 76, 77, 78, 79, 80, 81, 82, 83, 84, 85, 86, 87, 88, 89, 90, 91, 92, 93, 94, 95, 96, 97, 98, 99, 100, 101, 102, 103, 104, 105] rfl
          exact xe_wz hx hb hr (Or.inl rfl) hlocks hS hP dL_areRuns_105
      · have hf := c5f c5
        refine lv_aload_n hx hb dL_areRuns_245 rfl (lv_at hl 0 rfl) ?_
        refine lv_iload hx hb dL_areRuns_246 (lv_at hl 5 rfl) ?_
        refine lv_aload hx hb dL_areRuns_248 (lv_at hl 4 rfl) ?_
        obtain ⟨⟨v49, g47, y48⟩, ev49, hf⟩ := x_bind hf
        refine xf_sw (As := [.ref (a 0), .int (iI v1), .ref ao]) (rest := []) (wcs := [[qcC cs ao 1 g2]] ++ w4 cs a y3) (w1s := [[qcC cs ao 1 g47]] ++ w4 cs a y48) ⟨hx, hb, hml, hown, hts⟩ (kL_runAt l hlS dC dI cs ao a H.size g2 y3 v1 _ ev49) (vx_cwSW 3 hts gL_areRuns_L_runAt rfl rfl rfl cdL_runAt ⟨Nat.le_of_ble_eq_true rfl, Nat.le_of_ble_eq_true rfl⟩) hK hP (x_addrF hD rfl) hS hA hTh hN [3, 4, 5, 6, 7, 8, 9, 10, 11, 12, 13] rfl rfl rfl (by decide) rfl rfl hl.1 rfl (Nat.le_of_ble_eq_true rfl) dL_areRuns_250 ⟨by show _ ≤ 5539; omega, by show _ ≤ 33229; omega⟩ (fun H locs hP hS => ?_)
        have hP : va_P (dC, dI) vwCl (([[qcC cs aa 64 va], [qcC cs ah 8 vh], [qcC cs af 64 vf], [qcC cs ao 1 g47]] ++ w4 cs a y48).flatten) H := hP
        refine xk_iconst hx hb dL_areRuns_253 ?_
        obtain ⟨c50a, c50b, c50t, c50f⟩ := x_eqE hf
        refine xk_icmp_ne (tgt := 286) hx hb c50a c50b dL_areRuns_254 (by decide) (fun c50 => ?_) (fun c50 => ?_)
        · have hf := c50t c50
          refine lv_aload_n hx hb dL_areRuns_257 rfl (lv_at hl 0 rfl) ?_
          refine xk_iconst hx hb dL_areRuns_258 ?_
          refine lv_aload hx hb dL_areRuns_259 (lv_at hl 4 rfl) ?_
          obtain ⟨⟨v53, g51, y52⟩, ev53, hf⟩ := x_bind hf
          refine xf_sw (As := [.ref (a 0), .int (iI (-1)), .ref ao]) (rest := []) (wcs := [[qcC cs ao 1 g47]] ++ w4 cs a y48) (w1s := [[qcC cs ao 1 g51]] ++ w4 cs a y52) ⟨hx, hb, hml, hown, hts⟩ (kL_runAt l hlS dC dI cs ao a H.size g47 y48 (-1) _ ev53) (vx_cwSW 3 hts gL_areRuns_L_runAt rfl rfl rfl cdL_runAt ⟨Nat.le_of_ble_eq_true rfl, Nat.le_of_ble_eq_true rfl⟩) hK hP (x_addrF hD rfl) hS hA hTh hN [3, 4, 5, 6, 7, 8, 9, 10, 11, 12, 13] rfl rfl rfl (by decide) rfl rfl hl.1 rfl (Nat.le_of_ble_eq_true rfl) dL_areRuns_261 ⟨by show _ ≤ 5539; omega, by show _ ≤ 33229; omega⟩ (fun H locs hP hS => ?_)
          have hP : va_P (dC, dI) vwCl (([[qcC cs aa 64 va], [qcC cs ah 8 vh], [qcC cs af 64 vf], [qcC cs ao 1 g51]] ++ w4 cs a y52).flatten) H := hP
          refine xk_iconst hx hb dL_areRuns_264 ?_
          obtain ⟨c54a, c54b, c54t, c54f⟩ := x_eqE hf
          refine xk_icmp_ne (tgt := 286) hx hb c54a c54b dL_areRuns_265 (by decide) (fun c54 => ?_) (fun c54 => ?_)
          · have hf := c54t c54
            refine lv_aload_n hx hb dL_areRuns_268 rfl (lv_at hl 0 rfl) ?_
            refine lv_aload_n hx hb dL_areRuns_269 rfl (lv_at hl 2 rfl) ?_
            refine xk_iconst hx hb dL_areRuns_270 ?_
            obtain ⟨v55, ev55, hf⟩ := x_bind hf
            refine xk_iald (f := vh) hx hb hK hP 1 0 ev55 (by decide) rfl rfl dL_areRuns_271 ?_
            refine xk_iconst hx hb dL_areRuns_272 ?_
            refine lv_aload hx hb dL_areRuns_273 (lv_at hl 4 rfl) ?_
            obtain ⟨⟨v58, g56, y57⟩, ev58, hf⟩ := x_bind hf
            refine xf_sw (As := [.ref (a 0), .int (iI v55), .int (iI 0), .ref ao]) (rest := []) (wcs := [[qcC cs ao 1 g51]] ++ w4 cs a y52) (w1s := [[qcC cs ao 1 g56]] ++ w4 cs a y57) ⟨hx, hb, hml, hown, hts⟩ (kL_inRun l hlS dC dI cs ao a H.size g51 y52 v55 0 _ ev58) (vx_cwSW 4 hts gL_areRuns_L_inRun rfl rfl rfl cdL_inRun ⟨Nat.le_of_ble_eq_true rfl, Nat.le_of_ble_eq_true rfl⟩) hK hP (x_addrF hD rfl) hS hA hTh hN [3, 4, 5, 6, 7, 8, 9, 10, 11, 12, 13] rfl rfl rfl (by decide) rfl rfl hl.1 rfl (Nat.le_of_ble_eq_true rfl) dL_areRuns_275 ⟨by show _ ≤ 5539; omega, by show _ ≤ 33229; omega⟩ (fun H locs hP hS => ?_)
            have hP : va_P (dC, dI) vwCl (([[qcC cs aa 64 va], [qcC cs ah 8 vh], [qcC cs af 64 vf], [qcC cs ao 1 g56]] ++ w4 cs a y57).flatten) H := hP
            refine xk_iconst hx hb dL_areRuns_278 ?_
            obtain ⟨c59a, c59b, c59t, c59f⟩ := x_eqE hf
            refine xk_icmp_ne (tgt := 286) hx hb c59a c59b dL_areRuns_279 (by decide) (fun c59 => ?_) (fun c59 => ?_)
            · have hf := c59t c59
              refine xk_iconst hx hb dL_areRuns_282 ?_
              refine lv_goto (tgt := 287) hx hb dL_areRuns_283 (by decide) ?_
              obtain rfl := Option.some.inj hf
              refine W.widen (k := 5539) (n := 33229) (by omega) (by omega) ?_
              have hP : va_P (dC, dI) vwCl (([[qcC cs aa 64 va], [qcC cs ah 8 vh], [qcC cs af 64 vf]] ++ w4 cs a y57).flatten) H := hP.sub (ws' := ([[qcC cs aa 64 va], [qcC cs ah 8 vh], [qcC cs af 64 vf]] ++ w4 cs a y57).flatten) [0, 1, 2, 4, 5, 6, 7, 8, 9, 10, 11, 12, 13, 14, 15, 16, 17, 18, 19, 20, 21, 22, 23, 24, 25, 26, 27, 28, 29, 30, 31, 32, 33, 34, 35, 36, 37, 38, 39, 40, 41, 42, 43, 44, 45, 46, 47, 48, 49, 50, 51, 52, 53, 54, 55, 56, 57, 58, 59, 60, 61, 62, 63, 64, 65, 66, 67, 68, 69, 70, 71, 72, 73, 74, 75, 76, 77, 78, 79, 80, 81, 82, 83, 84, 85, 86, 87, 88, 89, 90, 91, 92, 93, 94, 95, 96, 97, 98, 99, 100, 101, 102, 103, 104, 105] rfl
              exact xe_wz hx hb hr (Or.inr rfl) hlocks hS hP dL_areRuns_287
            · have hf := c59f c59
              refine xk_iconst hx hb dL_areRuns_286 ?_
              obtain rfl := Option.some.inj hf
              refine W.widen (k := 5539) (n := 33229) (by omega) (by omega) ?_
              have hP : va_P (dC, dI) vwCl (([[qcC cs aa 64 va], [qcC cs ah 8 vh], [qcC cs af 64 vf]] ++ w4 cs a y57).flatten) H := hP.sub (ws' := ([[qcC cs aa 64 va], [qcC cs ah 8 vh], [qcC cs af 64 vf]] ++ w4 cs a y57).flatten) [0, 1, 2, 4, 5, 6, 7, 8, 9, 10, 11, 12, 13, 14, 15, 16, 17, 18, 19, 20, 21, 22, 23, 24, 25, 26, 27, 28, 29, 30, 31, 32, 33, 34, 35, 36, 37, 38, 39, 40, 41, 42, 43, 44, 45, 46, 47, 48, 49, 50, 51, 52, 53, 54, 55, 56, 57, 58, 59, 60, 61, 62, 63, 64, 65, 66, 67, 68, 69, 70, 71, 72, 73, 74, 75, 76, 77, 78, 79, 80, 81, 82, 83, 84, 85, 86, 87, 88, 89, 90, 91, 92, 93, 94, 95, 96, 97, 98, 99, 100, 101, 102, 103, 104, 105] rfl
              exact xe_wz hx hb hr (Or.inl rfl) hlocks hS hP dL_areRuns_287
          · have hf := c54f c54
            refine xk_iconst hx hb dL_areRuns_286 ?_
            obtain rfl := Option.some.inj hf
            refine W.widen (k := 5539) (n := 33229) (by omega) (by omega) ?_
            have hP : va_P (dC, dI) vwCl (([[qcC cs aa 64 va], [qcC cs ah 8 vh], [qcC cs af 64 vf]] ++ w4 cs a y52).flatten) H := hP.sub (ws' := ([[qcC cs aa 64 va], [qcC cs ah 8 vh], [qcC cs af 64 vf]] ++ w4 cs a y52).flatten) [0, 1, 2, 4, 5, 6, 7, 8, 9, 10, 11, 12, 13, 14, 15, 16, 17, 18, 19, 20, 21, 22, 23, 24, 25, 26, 27, 28, 29, 30, 31, 32, 33, 34, 35, 36, 37, 38, 39, 40, 41, 42, 43, 44, 45, 46, 47, 48, 49, 50, 51, 52, 53, 54, 55, 56, 57, 58, 59, 60, 61, 62, 63, 64, 65, 66, 67, 68, 69, 70, 71, 72, 73, 74, 75, 76, 77, 78, 79, 80, 81, 82, 83, 84, 85, 86, 87, 88, 89, 90, 91, 92, 93, 94, 95, 96, 97, 98, 99, 100, 101, 102, 103, 104, 105] rfl
            exact xe_wz hx hb hr (Or.inl rfl) hlocks hS hP dL_areRuns_287
        · have hf := c50f c50
          refine xk_iconst hx hb dL_areRuns_286 ?_
          obtain rfl := Option.some.inj hf
          refine W.widen (k := 5539) (n := 33229) (by omega) (by omega) ?_
          have hP : va_P (dC, dI) vwCl (([[qcC cs aa 64 va], [qcC cs ah 8 vh], [qcC cs af 64 vf]] ++ w4 cs a y48).flatten) H := hP.sub (ws' := ([[qcC cs aa 64 va], [qcC cs ah 8 vh], [qcC cs af 64 vf]] ++ w4 cs a y48).flatten) [0, 1, 2, 4, 5, 6, 7, 8, 9, 10, 11, 12, 13, 14, 15, 16, 17, 18, 19, 20, 21, 22, 23, 24, 25, 26, 27, 28, 29, 30, 31, 32, 33, 34, 35, 36, 37, 38, 39, 40, 41, 42, 43, 44, 45, 46, 47, 48, 49, 50, 51, 52, 53, 54, 55, 56, 57, 58, 59, 60, 61, 62, 63, 64, 65, 66, 67, 68, 69, 70, 71, 72, 73, 74, 75, 76, 77, 78, 79, 80, 81, 82, 83, 84, 85, 86, 87, 88, 89, 90, 91, 92, 93, 94, 95, 96, 97, 98, 99, 100, 101, 102, 103, 104, 105] rfl
          exact xe_wz hx hb hr (Or.inl rfl) hlocks hS hP dL_areRuns_287
  exact hL15  70 0 (fun _ => 0) y hf _ _ ⟨by omega, by omega⟩ _ _ hP hS ls (lv_sub hl [3, 4, 5, 6, 2, 1, 0] rfl)
theorem cdL_areRuns : yL_areRuns.cls ≠ "java/lang/invoke/MethodHandle" ∧ yL_areRuns.cls ≠ "java/lang/invoke/VarHandle" ∧ (parseMethodDescriptor yL_areRuns.desc).map (fun d => d.parameters.length) = some 4 := by decide +kernel

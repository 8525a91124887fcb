set_option maxHeartbeats 4000000 in
set_option maxRecDepth 100000 in
theorem c0_breakRuns (l : Launch) (dC : Nat → ClassId) (dI : Nat → Nat → Nat) (cs : Nat → ClassId) (a : Nat → Nat) (sz : Nat) (b : BoatS) (p0 : Int) (res : Int × BoatS) (hf : f0_breakRuns b p0 = some res) : Met l yX0_breakRuns wsX0_breakRuns ({ frames := 4, cells := 0, slots := 0, locals := 92 } : Room) (va_Pc [.ref (a 0), .int (iI p0)] (xPW (dC, dI) vwCl (w0 cs a b) (xT cs) sz)) (xQi (dC, dI) vwCl (w0 cs a b) (w0 cs a res.2) sz res.1) 0 0 (va_A (w0 cs a b) sz) := by
  refine Met.ofW (cc := cX0_breakRuns) (maxL := 5) (ret := (some .int)) (by decide) rfl ?_
  intro p e s m args below meth c s₁ B hml hv
  obtain ⟨rfl, hsz, hP, hK, hD0⟩ := hv
  have hx := B.exec
  have hb := B.bytes
  have hr := B.returns
  have hts := atoms_spec (ws := wsX0_breakRuns) B.pre
  have hown : s.vm.findClass RX0 = some m.cls := findClass_of_methodNamed B.named
  have hlocks := B.notSynchronized
  have hin0 : ∀ w ∈ wsX00, w ∈ wsX0_breakRuns := by decide +kernel
  subst hsz
  have hD := hD0.self (sz := s.heap.size)
  have hA : ∀ z9 : Nat, s.heap.size ≤ z9 → va_A (w0 cs a b) s.heap.size z9 := fun z9 h => Or.inr h
  have hS : va_S (va_A (w0 cs a b) s.heap.size) s.heap s.heap [] := va_S.rf
  have hl := lv_entry [.ref (a 0), .int (iI p0)] (n := 5) (Nat.le_of_ble_eq_true rfl)
  rw [lg_entry_eq]
  generalize (lg_sl [.ref (a 0), .int (iI p0)] ++ List.replicate (5 - (lg_sl [.ref (a 0), .int (iI p0)]).length) Slot.unset).toArray = ls at hl ⊢
  have hl : lv_has ls 5 [(0, .ref (a 0)), (1, .int (iI p0))] := hl
  unfold f0_breakRuns at hf
  refine lv_aload_n hx hb dX0_breakRuns_0 rfl (lv_at hl 0 rfl) ?_
  refine va_get (D := (dC, dI)) (ci := 0) (v := .ref (a 5)) (C := RX0) (T := TX0) (N := 14) hx hb hts hin0 hown hK hP 0 rfl rfl 5 (by decide) (hts (.fieldLink RX0 36 "BoatRuns$Boat" "floats" "LBoatRuns$Row;") (by decide +kernel)) (fun _ h9 => h9) rfl dX0_breakRuns_1 ?_
  obtain ⟨v1, ev1, hf⟩ := x_bind hf
  refine xc_ri (As := []) (rest := []) ⟨hx, hb, hml, hown, hts⟩ (c2_size l dC dI cs (a 5) (a 12) 120 (g0_flts b) (by decide) _ ev1) (cwV 0 hts gX0_breakRuns_X2_size rfl rfl rfl cdX2_size ⟨Nat.le_of_ble_eq_true rfl, Nat.le_of_ble_eq_true rfl⟩) hK hP [5, 12] rfl 5 rfl rfl rfl hl.1 rfl (Nat.le_of_ble_eq_true rfl) dX0_breakRuns_4 ⟨Nat.zero_le _, Nat.zero_le _⟩ ?_
  refine lv_istore_n (lv' := [(2, .int (iI v1)), (0, .ref (a 0)), (1, .int (iI p0))]) hx hb dX0_breakRuns_7 rfl hl (by decide) rfl (fun ls hl => ?_)
  refine xk_iconst hx hb dX0_breakRuns_8 ?_
  refine lv_istore_n (lv' := [(3, .int (iI 0)), (2, .int (iI v1)), (0, .ref (a 0)), (1, .int (iI p0))]) hx hb dX0_breakRuns_9 rfl hl (by decide) rfl (fun ls hl => ?_)
  refine xk_iconst hx hb dX0_breakRuns_10 ?_
  refine lv_istore (lv' := [(4, .int (iI 0)), (3, .int (iI 0)), (2, .int (iI v1)), (0, .ref (a 0)), (1, .int (iI p0))]) hx hb dX0_breakRuns_11 hl (by decide) rfl (fun ls hl => ?_)
  have hL13 : ∀ (n3 : Nat) (l3 : Int) (l4 : Int) (b2 : BoatS), f0_breakRuns_L13 p0 v1 n3 l3 l4 b2 = some res → ∀ (H : Heap) (locs : List Loc), va_P (dC, dI) vwCl (w0 cs a b2) H → va_S (va_A (w0 cs a b) s.heap.size) s.heap H locs → ∀ (ls : Array Slot), lv_has ls 5 [(0, .ref (a 0)), (1, .int (iI p0)), (2, .int (iI v1)), (3, .int (iI l3)), (4, .int (iI l4))] → W p l e (headSpec wsX0_breakRuns ({ frames := 4, cells := 0, slots := 0, locals := 92 } : Room)).room s m ([.ref (a 0), .int (iI p0)] : List Value).toArray below meth c H locs 0 0 (MQ below (xQi (dC, dI) vwCl (w0 cs a b) (w0 cs a res.2) s.heap.size res.1) ([.ref (a 0), .int (iI p0)] : List Value).toArray s 0 0 (va_A (w0 cs a b) s.heap.size)) (F0 m 13 ls []) := by
    intro  n3
    induction n3 with
    | zero => intro l3 l4 b2 hf; have hf : (none : Option (Int × BoatS)) = some res := hf; cases hf
    | succ n3 ih13 =>
      intro l3 l4 b2 hf H locs hP hS ls hl
      rw [f0_breakRuns_L13] at hf
      refine lv_iload hx hb dX0_breakRuns_13 (lv_at hl 4 rfl) ?_
      refine lv_iload_n hx hb dX0_breakRuns_15 rfl (lv_at hl 2 rfl) ?_
      obtain ⟨c4a, c4b, c4t, c4f⟩ := x_ltE hf
      refine xk_icmp_ge (tgt := 88) hx hb c4a c4b dX0_breakRuns_16 (by decide) (fun c4 => ?_) (fun c4 => ?_)
      · have hf := c4t c4
        refine lv_aload_n hx hb dX0_breakRuns_19 rfl (lv_at hl 0 rfl) ?_
        refine va_get (D := (dC, dI)) (ci := 0) (v := .ref (a 6)) (C := RX0) (T := TX0) (N := 14) hx hb hts hin0 hown hK hP 0 rfl rfl 6 (by decide) (hts (.fieldLink RX0 39 "BoatRuns$Boat" "strengths" "LBoatRuns$Row;") (by decide +kernel)) (fun _ h9 => h9) rfl dX0_breakRuns_20 ?_
        refine lv_iload hx hb dX0_breakRuns_23 (lv_at hl 4 rfl) ?_
        obtain ⟨v5, ev5, hf⟩ := x_bind hf
        refine xc_ri (As := [.int (iI l4)]) (rest := []) ⟨hx, hb, hml, hown, hts⟩ (c2_get l dC dI cs (a 6) (a 13) 120 (g0_strs b2) l4 (by decide) _ ev5) (cwV 1 hts gX0_breakRuns_X2_get rfl rfl rfl cdX2_get ⟨Nat.le_of_ble_eq_true rfl, Nat.le_of_ble_eq_true rfl⟩) hK hP [6, 13] rfl 6 rfl rfl rfl hl.1 rfl (Nat.le_of_ble_eq_true rfl) dX0_breakRuns_25 ⟨Nat.zero_le _, Nat.zero_le _⟩ ?_
        refine lv_iload_n hx hb dX0_breakRuns_28 rfl (lv_at hl 1 rfl) ?_
        obtain ⟨c6a, c6b, c6t, c6f⟩ := x_ltE hf
        refine xk_icmp_ge (tgt := 58) hx hb c6a c6b dX0_breakRuns_29 (by decide) (fun c6 => ?_) (fun c6 => ?_)
        · have hf := c6t c6
          refine lv_aload_n hx hb dX0_breakRuns_32 rfl (lv_at hl 0 rfl) ?_
          refine lv_aload_n hx hb dX0_breakRuns_33 rfl (lv_at hl 0 rfl) ?_
          refine va_get (D := (dC, dI)) (ci := 0) (v := .ref (a 5)) (C := RX0) (T := TX0) (N := 14) hx hb hts hin0 hown hK hP 0 rfl rfl 5 (by decide) (hts (.fieldLink RX0 36 "BoatRuns$Boat" "floats" "LBoatRuns$Row;") (by decide +kernel)) (fun _ h9 => h9) rfl dX0_breakRuns_34 ?_
          refine lv_iload hx hb dX0_breakRuns_37 (lv_at hl 4 rfl) ?_
          obtain ⟨v7, ev7, hf⟩ := x_bind hf
          refine xc_ri (As := [.int (iI l4)]) (rest := [.ref (a 0)]) ⟨hx, hb, hml, hown, hts⟩ (c2_get l dC dI cs (a 5) (a 12) 120 (g0_flts b2) l4 (by decide) _ ev7) (cwV 1 hts gX0_breakRuns_X2_get rfl rfl rfl cdX2_get ⟨Nat.le_of_ble_eq_true rfl, Nat.le_of_ble_eq_true rfl⟩) hK hP [5, 12] rfl 5 rfl rfl rfl hl.1 rfl (Nat.le_of_ble_eq_true rfl) dX0_breakRuns_39 ⟨Nat.zero_le _, Nat.zero_le _⟩ ?_
          obtain ⟨v8, ev8, hf⟩ := x_bind hf
          refine xc_ri (As := [.int (iI v7)]) (rest := []) ⟨hx, hb, hml, hown, hts⟩ (c0_countAt l dC dI cs a b2 v7  _ ev8) (cwV 1 hts gX0_breakRuns_X0_countAt rfl rfl rfl cdX0_countAt ⟨Nat.le_of_ble_eq_true rfl, Nat.le_of_ble_eq_true rfl⟩) hK hP [0, 1, 2, 3, 4, 5, 6, 7, 8, 9, 10, 11, 12, 13, 14] rfl 0 rfl rfl rfl hl.1 rfl (Nat.le_of_ble_eq_true rfl) dX0_breakRuns_42 ⟨Nat.zero_le _, Nat.zero_le _⟩ ?_
          refine xk_iconst hx hb dX0_breakRuns_45 ?_
          obtain ⟨c9a, c9b, c9t, c9f⟩ := x_ltE hf
          refine xk_icmp_lt (tgt := 58) hx hb c9a c9b dX0_breakRuns_46 (by decide) (fun c9 => ?_) (fun c9 => ?_)
          · have hf := c9t c9
            refine lv_aload_n hx hb dX0_breakRuns_58 rfl (lv_at hl 0 rfl) ?_
            refine va_get (D := (dC, dI)) (ci := 0) (v := .ref (a 6)) (C := RX0) (T := TX0) (N := 14) hx hb hts hin0 hown hK hP 0 rfl rfl 6 (by decide) (hts (.fieldLink RX0 39 "BoatRuns$Boat" "strengths" "LBoatRuns$Row;") (by decide +kernel)) (fun _ h9 => h9) rfl dX0_breakRuns_59 ?_
            refine lv_iload hx hb dX0_breakRuns_62 (lv_at hl 4 rfl) ?_
            refine lv_aload_n hx hb dX0_breakRuns_64 rfl (lv_at hl 0 rfl) ?_
            refine va_get (D := (dC, dI)) (ci := 0) (v := .ref (a 6)) (C := RX0) (T := TX0) (N := 14) hx hb hts hin0 hown hK hP 0 rfl rfl 6 (by decide) (hts (.fieldLink RX0 39 "BoatRuns$Boat" "strengths" "LBoatRuns$Row;") (by decide +kernel)) (fun _ h9 => h9) rfl dX0_breakRuns_65 ?_
            refine lv_iload hx hb dX0_breakRuns_68 (lv_at hl 4 rfl) ?_
            obtain ⟨v10, ev10, hf⟩ := x_bind hf
            refine xc_ri (As := [.int (iI l4)]) (rest := [.int (iI l4), .ref (a 6)]) ⟨hx, hb, hml, hown, hts⟩ (c2_get l dC dI cs (a 6) (a 13) 120 (g0_strs b2) l4 (by decide) _ ev10) (cwV 1 hts gX0_breakRuns_X2_get rfl rfl rfl cdX2_get ⟨Nat.le_of_ble_eq_true rfl, Nat.le_of_ble_eq_true rfl⟩) hK hP [6, 13] rfl 6 rfl rfl rfl hl.1 rfl (Nat.le_of_ble_eq_true rfl) dX0_breakRuns_70 ⟨Nat.zero_le _, Nat.zero_le _⟩ ?_
            refine xk_iconst hx hb dX0_breakRuns_73 ?_
            refine xk_isub hx hb dX0_breakRuns_74 ?_
            refine xk_iconst hx hb dX0_breakRuns_75 ?_
            obtain ⟨v11, ev11, hf⟩ := x_bind hf
            refine xk_mmax hx hb (by rw [hml]; exact hl.1.symm) hown (hts (.methodLink RX0 141 Lib.Math.max.name) (by decide +kernel)) (hts (.static Lib.Math.max.name) (by decide +kernel)) (hts (.initialized "java/lang/Math") (by decide +kernel)) (hts (.code Lib.Math.max.name Lib.Math.max.code 2 (some .int)) (by decide +kernel)) (Nat.le_of_ble_eq_true rfl) (Nat.le_of_ble_eq_true rfl) (Nat.zero_le _) (Nat.zero_le _) ev11 dX0_breakRuns_76 ?_
            obtain ⟨r12, er12, hf⟩ := x_bind hf
            refine xc_wv (As := [.int (iI l4), .int (iI v11)]) (rest := []) ⟨hx, hb, hml, hown, hts⟩ (c2_set l dC dI cs (a 6) (a 13) _ 120 (g0_strs b2) l4 v11 (by decide) _ er12) (cwV 2 hts gX0_breakRuns_X2_set rfl rfl rfl cdX2_set ⟨Nat.le_of_ble_eq_true rfl, Nat.le_of_ble_eq_true rfl⟩) hK hP (x_addr hD rfl) hS hA [6, 13] rfl (by decide) rfl 6 rfl rfl rfl hl.1 rfl (Nat.le_of_ble_eq_true rfl) dX0_breakRuns_79 ⟨Nat.zero_le _, Nat.zero_le _⟩ (fun H locs hP hS => ?_)
            have hP : va_P (dC, dI) vwCl (w0C cs a (g0_room b2) (g0_opn b2) (g0_flo b2) (g0_cst b2) (g0_mrg b2) (g0_stm b2) (g0_brk b2) (g0_keys b2) (g0_weis b2) (g0_homs b2) (g0_ords b2) (g0_flts b2) r12 (g0_rwts b2)) H := hP
            refine xk_iinc (lv' := [(4, .int (iI (l4 + 1))), (0, .ref (a 0)), (1, .int (iI p0)), (2, .int (iI v1)), (3, .int (iI l3))]) hx hb dX0_breakRuns_82 hl (k := 4) rfl (by decide) rfl (fun ls hl => ?_)
            refine lv_goto (tgt := 13) hx hb dX0_breakRuns_85 (by decide) ?_
            exact ih13 l3 (l4 + 1) (s0_strs b2 r12) hf _ _ hP hS ls (lv_sub hl [1, 2, 3, 4, 0] rfl)
          · have hf := c9f c9
            refine lv_aload_n hx hb dX0_breakRuns_49 rfl (lv_at hl 0 rfl) ?_
            refine lv_iload hx hb dX0_breakRuns_50 (lv_at hl 4 rfl) ?_
            obtain ⟨b13, eb13, hf⟩ := x_bind hf
            refine xc_wv (As := [.int (iI l4)]) (rest := []) ⟨hx, hb, hml, hown, hts⟩ (c0_breakRun l dC dI cs a _ b2 l4  _ eb13) (cwV 1 hts gX0_breakRuns_X0_breakRun rfl rfl rfl cdX0_breakRun ⟨Nat.le_of_ble_eq_true rfl, Nat.le_of_ble_eq_true rfl⟩) hK hP (x_addr hD rfl) hS hA [0, 1, 2, 3, 4, 5, 6, 7, 8, 9, 10, 11, 12, 13, 14] rfl (by decide) rfl 0 rfl rfl rfl hl.1 rfl (Nat.le_of_ble_eq_true rfl) dX0_breakRuns_52 ⟨Nat.zero_le _, Nat.zero_le _⟩ (fun H locs hP hS => ?_)
            have hP : va_P (dC, dI) vwCl (w0 cs a b13) H := hP
            refine xk_iinc (lv' := [(3, .int (iI (l3 + 1))), (0, .ref (a 0)), (1, .int (iI p0)), (2, .int (iI v1)), (4, .int (iI l4))]) hx hb dX0_breakRuns_55 hl (k := 3) rfl (by decide) rfl (fun ls hl => ?_)
            refine lv_aload_n hx hb dX0_breakRuns_58 rfl (lv_at hl 1 rfl) ?_
            refine va_get (D := (dC, dI)) (ci := 0) (v := .ref (a 6)) (C := RX0) (T := TX0) (N := 14) hx hb hts hin0 hown hK hP 0 rfl rfl 6 (by decide) (hts (.fieldLink RX0 39 "BoatRuns$Boat" "strengths" "LBoatRuns$Row;") (by decide +kernel)) (fun _ h9 => h9) rfl dX0_breakRuns_59 ?_
            refine lv_iload hx hb dX0_breakRuns_62 (lv_at hl 4 rfl) ?_
            refine lv_aload_n hx hb dX0_breakRuns_64 rfl (lv_at hl 1 rfl) ?_
            refine va_get (D := (dC, dI)) (ci := 0) (v := .ref (a 6)) (C := RX0) (T := TX0) (N := 14) hx hb hts hin0 hown hK hP 0 rfl rfl 6 (by decide) (hts (.fieldLink RX0 39 "BoatRuns$Boat" "strengths" "LBoatRuns$Row;") (by decide +kernel)) (fun _ h9 => h9) rfl dX0_breakRuns_65 ?_
            refine lv_iload hx hb dX0_breakRuns_68 (lv_at hl 4 rfl) ?_
            obtain ⟨v14, ev14, hf⟩ := x_bind hf
            refine xc_ri (As := [.int (iI l4)]) (rest := [.int (iI l4), .ref (a 6)]) ⟨hx, hb, hml, hown, hts⟩ (c2_get l dC dI cs (a 6) (a 13) 120 (g0_strs b13) l4 (by decide) _ ev14) (cwV 1 hts gX0_breakRuns_X2_get rfl rfl rfl cdX2_get ⟨Nat.le_of_ble_eq_true rfl, Nat.le_of_ble_eq_true rfl⟩) hK hP [6, 13] rfl 6 rfl rfl rfl hl.1 rfl (Nat.le_of_ble_eq_true rfl) dX0_breakRuns_70 ⟨Nat.zero_le _, Nat.zero_le _⟩ ?_
            refine xk_iconst hx hb dX0_breakRuns_73 ?_
            refine xk_isub hx hb dX0_breakRuns_74 ?_
            refine xk_iconst hx hb dX0_breakRuns_75 ?_
            obtain ⟨v15, ev15, hf⟩ := x_bind hf
            refine xk_mmax hx hb (by rw [hml]; exact hl.1.symm) hown (hts (.methodLink RX0 141 Lib.Math.max.name) (by decide +kernel)) (hts (.static Lib.Math.max.name) (by decide +kernel)) (hts (.initialized "java/lang/Math") (by decide +kernel)) (hts (.code Lib.Math.max.name Lib.Math.max.code 2 (some .int)) (by decide +kernel)) (Nat.le_of_ble_eq_true rfl) (Nat.le_of_ble_eq_true rfl) (Nat.zero_le _) (Nat.zero_le _) ev15 dX0_breakRuns_76 ?_
            obtain ⟨r16, er16, hf⟩ := x_bind hf
            refine xc_wv (As := [.int (iI l4), .int (iI v15)]) (rest := []) ⟨hx, hb, hml, hown, hts⟩ (c2_set l dC dI cs (a 6) (a 13) _ 120 (g0_strs b13) l4 v15 (by decide) _ er16) (cwV 2 hts gX0_breakRuns_X2_set rfl rfl rfl cdX2_set ⟨Nat.le_of_ble_eq_true rfl, Nat.le_of_ble_eq_true rfl⟩) hK hP (x_addr hD rfl) hS hA [6, 13] rfl (by decide) rfl 6 rfl rfl rfl hl.1 rfl (Nat.le_of_ble_eq_true rfl) dX0_breakRuns_79 ⟨Nat.zero_le _, Nat.zero_le _⟩ (fun H locs hP hS => ?_)
            have hP : va_P (dC, dI) vwCl (w0C cs a (g0_room b13) (g0_opn b13) (g0_flo b13) (g0_cst b13) (g0_mrg b13) (g0_stm b13) (g0_brk b13) (g0_keys b13) (g0_weis b13) (g0_homs b13) (g0_ords b13) (g0_flts b13) r16 (g0_rwts b13)) H := hP
            refine xk_iinc (lv' := [(4, .int (iI (l4 + 1))), (3, .int (iI (l3 + 1))), (0, .ref (a 0)), (1, .int (iI p0)), (2, .int (iI v1))]) hx hb dX0_breakRuns_82 hl (k := 4) rfl (by decide) rfl (fun ls hl => ?_)
            refine lv_goto (tgt := 13) hx hb dX0_breakRuns_85 (by decide) ?_
            exact ih13 (l3 + 1) (l4 + 1) (s0_strs b13 r16) hf _ _ hP hS ls (lv_sub hl [2, 3, 4, 1, 0] rfl)
        · have hf := c6f c6
          refine lv_aload_n hx hb dX0_breakRuns_58 rfl (lv_at hl 0 rfl) ?_
          refine va_get (D := (dC, dI)) (ci := 0) (v := .ref (a 6)) (C := RX0) (T := TX0) (N := 14) hx hb hts hin0 hown hK hP 0 rfl rfl 6 (by decide) (hts (.fieldLink RX0 39 "BoatRuns$Boat" "strengths" "LBoatRuns$Row;") (by decide +kernel)) (fun _ h9 => h9) rfl dX0_breakRuns_59 ?_
          refine lv_iload hx hb dX0_breakRuns_62 (lv_at hl 4 rfl) ?_
          refine lv_aload_n hx hb dX0_breakRuns_64 rfl (lv_at hl 0 rfl) ?_
          refine va_get (D := (dC, dI)) (ci := 0) (v := .ref (a 6)) (C := RX0) (T := TX0) (N := 14) hx hb hts hin0 hown hK hP 0 rfl rfl 6 (by decide) (hts (.fieldLink RX0 39 "BoatRuns$Boat" "strengths" "LBoatRuns$Row;") (by decide +kernel)) (fun _ h9 => h9) rfl dX0_breakRuns_65 ?_
          refine lv_iload hx hb dX0_breakRuns_68 (lv_at hl 4 rfl) ?_
          obtain ⟨v17, ev17, hf⟩ := x_bind hf
          refine xc_ri (As := [.int (iI l4)]) (rest := [.int (iI l4), .ref (a 6)]) ⟨hx, hb, hml, hown, hts⟩ (c2_get l dC dI cs (a 6) (a 13) 120 (g0_strs b2) l4 (by decide) _ ev17) (cwV 1 hts gX0_breakRuns_X2_get rfl rfl rfl cdX2_get ⟨Nat.le_of_ble_eq_true rfl, Nat.le_of_ble_eq_true rfl⟩) hK hP [6, 13] rfl 6 rfl rfl rfl hl.1 rfl (Nat.le_of_ble_eq_true rfl) dX0_breakRuns_70 ⟨Nat.zero_le _, Nat.zero_le _⟩ ?_
          refine xk_iconst hx hb dX0_breakRuns_73 ?_
          refine xk_isub hx hb dX0_breakRuns_74 ?_
          refine xk_iconst hx hb dX0_breakRuns_75 ?_
          obtain ⟨v18, ev18, hf⟩ := x_bind hf
          refine xk_mmax hx hb (by rw [hml]; exact hl.1.symm) hown (hts (.methodLink RX0 141 Lib.Math.max.name) (by decide +kernel)) (hts (.static Lib.Math.max.name) (by decide +kernel)) (hts (.initialized "java/lang/Math") (by decide +kernel)) (hts (.code Lib.Math.max.name Lib.Math.max.code 2 (some .int)) (by decide +kernel)) (Nat.le_of_ble_eq_true rfl) (Nat.le_of_ble_eq_true rfl) (Nat.zero_le _) (Nat.zero_le _) ev18 dX0_breakRuns_76 ?_
          obtain ⟨r19, er19, hf⟩ := x_bind hf
          refine xc_wv (As := [.int (iI l4), .int (iI v18)]) (rest := []) ⟨hx, hb, hml, hown, hts⟩ (c2_set l dC dI cs (a 6) (a 13) _ 120 (g0_strs b2) l4 v18 (by decide) _ er19) (cwV 2 hts gX0_breakRuns_X2_set rfl rfl rfl cdX2_set ⟨Nat.le_of_ble_eq_true rfl, Nat.le_of_ble_eq_true rfl⟩) hK hP (x_addr hD rfl) hS hA [6, 13] rfl (by decide) rfl 6 rfl rfl rfl hl.1 rfl (Nat.le_of_ble_eq_true rfl) dX0_breakRuns_79 ⟨Nat.zero_le _, Nat.zero_le _⟩ (fun H locs hP hS => ?_)
          have hP : va_P (dC, dI) vwCl (w0C cs a (g0_room b2) (g0_opn b2) (g0_flo b2) (g0_cst b2) (g0_mrg b2) (g0_stm b2) (g0_brk b2) (g0_keys b2) (g0_weis b2) (g0_homs b2) (g0_ords b2) (g0_flts b2) r19 (g0_rwts b2)) H := hP
          refine xk_iinc (lv' := [(4, .int (iI (l4 + 1))), (0, .ref (a 0)), (1, .int (iI p0)), (2, .int (iI v1)), (3, .int (iI l3))]) hx hb dX0_breakRuns_82 hl (k := 4) rfl (by decide) rfl (fun ls hl => ?_)
          refine lv_goto (tgt := 13) hx hb dX0_breakRuns_85 (by decide) ?_
          exact ih13 l3 (l4 + 1) (s0_strs b2 r19) hf _ _ hP hS ls (lv_sub hl [1, 2, 3, 4, 0] rfl)
      · have hf := c4f c4
        refine lv_aload_n hx hb dX0_breakRuns_88 rfl (lv_at hl 0 rfl) ?_
        refine xk_iconst hx hb dX0_breakRuns_89 ?_
        refine va_put (D := (dC, dI)) (ci := 0) (v := .int (iI (-1))) (ty := .int) (C := RX0) (T := TX0) (N := 14) hx hb hts hin0 tyX0 tyX0_ok nmX0 hown hK hP (x_addr hD rfl) hS 0 rfl rfl 8 (by decide) (hts (.fieldLink RX0 15 "BoatRuns$Boat" "open" "I") (by decide +kernel)) (fun _ h9 => h9) rfl (by decide +kernel) rfl rfl (Nat.le_of_ble_eq_true rfl) dX0_breakRuns_90 (fun H locs hP _ hS => ?_)
        have hP : va_P (dC, dI) vwCl (w0C cs a (g0_room b2) (-1) (g0_flo b2) (g0_cst b2) (g0_mrg b2) (g0_stm b2) (g0_brk b2) (g0_keys b2) (g0_weis b2) (g0_homs b2) (g0_ords b2) (g0_flts b2) (g0_strs b2) (g0_rwts b2)) H := hP
        refine lv_aload_n hx hb dX0_breakRuns_93 rfl (lv_at hl 0 rfl) ?_
        refine lv_dup hx hb dX0_breakRuns_94 rfl ?_
        refine va_get (D := (dC, dI)) (ci := 0) (v := .int (iI (g0_stm b2))) (C := RX0) (T := TX0) (N := 14) hx hb hts hin0 hown hK hP 0 rfl rfl 12 (by decide) (hts (.fieldLink RX0 57 "BoatRuns$Boat" "storms" "I") (by decide +kernel)) (fun _ h9 => h9) rfl dX0_breakRuns_95 ?_
        refine xk_iconst hx hb dX0_breakRuns_98 ?_
        refine xk_iadd hx hb dX0_breakRuns_99 ?_
        refine va_put (D := (dC, dI)) (ci := 0) (v := .int (iI (g0_stm b2 + 1))) (ty := .int) (C := RX0) (T := TX0) (N := 14) hx hb hts hin0 tyX0 tyX0_ok nmX0 hown hK hP (x_addr hD rfl) hS 0 rfl rfl 12 (by decide) (hts (.fieldLink RX0 57 "BoatRuns$Boat" "storms" "I") (by decide +kernel)) (fun _ h9 => h9) rfl (by decide +kernel) rfl rfl (Nat.le_of_ble_eq_true rfl) dX0_breakRuns_100 (fun H locs hP _ hS => ?_)
        have hP : va_P (dC, dI) vwCl (w0C cs a (g0_room b2) (-1) (g0_flo b2) (g0_cst b2) (g0_mrg b2) (g0_stm b2 + 1) (g0_brk b2) (g0_keys b2) (g0_weis b2) (g0_homs b2) (g0_ords b2) (g0_flts b2) (g0_strs b2) (g0_rwts b2)) H := hP
        refine lv_aload_n hx hb dX0_breakRuns_103 rfl (lv_at hl 0 rfl) ?_
        refine lv_dup hx hb dX0_breakRuns_104 rfl ?_
        refine va_get (D := (dC, dI)) (ci := 0) (v := .int (iI (g0_brk b2))) (C := RX0) (T := TX0) (N := 14) hx hb hts hin0 hown hK hP 0 rfl rfl 13 (by decide) (hts (.fieldLink RX0 60 "BoatRuns$Boat" "broken" "I") (by decide +kernel)) (fun _ h9 => h9) rfl dX0_breakRuns_105 ?_
        refine lv_iload_n hx hb dX0_breakRuns_108 rfl (lv_at hl 3 rfl) ?_
        refine xk_iadd hx hb dX0_breakRuns_109 ?_
        refine va_put (D := (dC, dI)) (ci := 0) (v := .int (iI (g0_brk b2 + l3))) (ty := .int) (C := RX0) (T := TX0) (N := 14) hx hb hts hin0 tyX0 tyX0_ok nmX0 hown hK hP (x_addr hD rfl) hS 0 rfl rfl 13 (by decide) (hts (.fieldLink RX0 60 "BoatRuns$Boat" "broken" "I") (by decide +kernel)) (fun _ h9 => h9) rfl (by decide +kernel) rfl rfl (Nat.le_of_ble_eq_true rfl) dX0_breakRuns_110 (fun H locs hP _ hS => ?_)
        have hP : va_P (dC, dI) vwCl (w0C cs a (g0_room b2) (-1) (g0_flo b2) (g0_cst b2) (g0_mrg b2) (g0_stm b2 + 1) (g0_brk b2 + l3) (g0_keys b2) (g0_weis b2) (g0_homs b2) (g0_ords b2) (g0_flts b2) (g0_strs b2) (g0_rwts b2)) H := hP
        refine lv_iload_n hx hb dX0_breakRuns_113 rfl (lv_at hl 3 rfl) ?_
        obtain rfl := Option.some.inj hf
        exact xe_wi hx hb hr hlocks hS hP dX0_breakRuns_114
  exact hL13  xFU 0 0 b hf _ _ hP hS ls (lv_sub hl [3, 4, 2, 1, 0] rfl)
theorem cdX0_breakRuns : yX0_breakRuns.cls = RX0 ∧ yX0_breakRuns.cls ≠ "java/lang/invoke/MethodHandle" ∧ yX0_breakRuns.cls ≠ "java/lang/invoke/VarHandle" ∧ (parseMethodDescriptor yX0_breakRuns.desc).map (fun d => d.parameters.length) = some 1 := by decide +kernel

set_option maxHeartbeats 4000000 in
set_option maxRecDepth 100000 in
theorem c0_strengthen (l : Launch) (dC : Nat → ClassId) (dI : Nat → Nat → Nat) (cs : Nat → ClassId) (a : Nat → Nat) (sz : Nat) (b : BoatS) (p0 : Int) (res : Int × BoatS) (hf : f0_strengthen b p0 = some res) : Met l yX0_strengthen wsX0_strengthen ({ frames := 1, cells := 0, slots := 0, locals := 22 } : Room) (va_Pc [.ref (a 0), .int (iI p0)] (xPW (dC, dI) vwCl (w0 cs a b) (xT cs) sz)) (xQi (dC, dI) vwCl (w0 cs a b) (w0 cs a res.2) sz res.1) 0 0 (va_A (w0 cs a b) sz) := by
  refine Met.ofW (cc := cX0_strengthen) (maxL := 3) (ret := (some .int)) (by decide) rfl ?_
  intro p e s m args below meth c s₁ B hml hv
  obtain ⟨rfl, hsz, hP, hK, hD0⟩ := hv
  have hx := B.exec
  have hb := B.bytes
  have hr := B.returns
  have hts := atoms_spec (ws := wsX0_strengthen) B.pre
  have hown : s.vm.findClass RX0 = some m.cls := findClass_of_methodNamed B.named
  have hlocks := B.notSynchronized
  have hin0 : ∀ w ∈ wsX00, w ∈ wsX0_strengthen := by decide +kernel
  subst hsz
  have hD := hD0.self (sz := s.heap.size)
  have hA : ∀ z9 : Nat, s.heap.size ≤ z9 → va_A (w0 cs a b) s.heap.size z9 := fun z9 h => Or.inr h
  have hS : va_S (va_A (w0 cs a b) s.heap.size) s.heap s.heap [] := va_S.rf
  have hl := lv_entry [.ref (a 0), .int (iI p0)] (n := 3) (Nat.le_of_ble_eq_true rfl)
  rw [lg_entry_eq]
  generalize (lg_sl [.ref (a 0), .int (iI p0)] ++ List.replicate (3 - (lg_sl [.ref (a 0), .int (iI p0)]).length) Slot.unset).toArray = ls at hl ⊢
  have hl : lv_has ls 3 [(0, .ref (a 0)), (1, .int (iI p0))] := hl
  unfold f0_strengthen at hf
  refine lv_aload_n hx hb dX0_strengthen_0 rfl (lv_at hl 0 rfl) ?_
  refine va_get (D := (dC, dI)) (ci := 0) (v := .ref (a 5)) (C := RX0) (T := TX0) (N := 14) hx hb hts hin0 hown hK hP 0 rfl rfl 5 (by decide) (hts (.fieldLink RX0 36 "BoatRuns$Boat" "floats" "LBoatRuns$Row;") (by decide +kernel)) (fun _ h9 => h9) rfl dX0_strengthen_1 ?_
  refine lv_iload_n hx hb dX0_strengthen_4 rfl (lv_at hl 1 rfl) ?_
  obtain ⟨v1, ev1, hf⟩ := x_bind hf
  refine xc_ri (As := [.int (iI p0)]) (rest := []) ⟨hx, hb, hml, hown, hts⟩ (c2_indexOf l dC dI cs (a 5) (a 12) 120 (g0_flts b) p0 (by decide) _ ev1) (cwV 1 hts gX0_strengthen_X2_indexOf rfl rfl rfl cdX2_indexOf ⟨Nat.le_of_ble_eq_true rfl, Nat.le_of_ble_eq_true rfl⟩) hK hP [5, 12] rfl 5 rfl rfl rfl hl.1 rfl (Nat.le_of_ble_eq_true rfl) dX0_strengthen_5 ⟨Nat.zero_le _, Nat.zero_le _⟩ ?_
  refine lv_istore_n (lv' := [(2, .int (iI v1)), (0, .ref (a 0)), (1, .int (iI p0))]) hx hb dX0_strengthen_8 rfl hl (by decide) rfl (fun ls hl => ?_)
  refine lv_aload_n hx hb dX0_strengthen_9 rfl (lv_at hl 1 rfl) ?_
  refine va_get (D := (dC, dI)) (ci := 0) (v := .ref (a 6)) (C := RX0) (T := TX0) (N := 14) hx hb hts hin0 hown hK hP 0 rfl rfl 6 (by decide) (hts (.fieldLink RX0 39 "BoatRuns$Boat" "strengths" "LBoatRuns$Row;") (by decide +kernel)) (fun _ h9 => h9) rfl dX0_strengthen_10 ?_
  refine lv_iload_n hx hb dX0_strengthen_13 rfl (lv_at hl 0 rfl) ?_
  refine lv_aload_n hx hb dX0_strengthen_14 rfl (lv_at hl 1 rfl) ?_
  refine va_get (D := (dC, dI)) (ci := 0) (v := .ref (a 6)) (C := RX0) (T := TX0) (N := 14) hx hb hts hin0 hown hK hP 0 rfl rfl 6 (by decide) (hts (.fieldLink RX0 39 "BoatRuns$Boat" "strengths" "LBoatRuns$Row;") (by decide +kernel)) (fun _ h9 => h9) rfl dX0_strengthen_15 ?_
  refine lv_iload_n hx hb dX0_strengthen_18 rfl (lv_at hl 0 rfl) ?_
  obtain ⟨v2, ev2, hf⟩ := x_bind hf
  refine xc_ri (As := [.int (iI v1)]) (rest := [.int (iI v1), .ref (a 6)]) ⟨hx, hb, hml, hown, hts⟩ (c2_get l dC dI cs (a 6) (a 13) 120 (g0_strs b) v1 (by decide) _ ev2) (cwV 1 hts gX0_strengthen_X2_get rfl rfl rfl cdX2_get ⟨Nat.le_of_ble_eq_true rfl, Nat.le_of_ble_eq_true rfl⟩) hK hP [6, 13] rfl 6 rfl rfl rfl hl.1 rfl (Nat.le_of_ble_eq_true rfl) dX0_strengthen_19 ⟨Nat.zero_le _, Nat.zero_le _⟩ ?_
  refine xk_iconst hx hb dX0_strengthen_22 ?_
  refine xk_iadd hx hb dX0_strengthen_23 ?_
  refine xk_bipush hx hb dX0_strengthen_24 (by decide) ?_
  obtain ⟨v3, ev3, hf⟩ := x_bind hf
  refine xk_mmin hx hb (by rw [hml]; exact hl.1.symm) hown (hts (.methodLink RX0 136 Lib.Math.min.name) (by decide +kernel)) (hts (.static Lib.Math.min.name) (by decide +kernel)) (hts (.initialized "java/lang/Math") (by decide +kernel)) (hts (.code Lib.Math.min.name Lib.Math.min.code 2 (some .int)) (by decide +kernel)) (Nat.le_of_ble_eq_true rfl) (Nat.le_of_ble_eq_true rfl) (Nat.zero_le _) (Nat.zero_le _) ev3 dX0_strengthen_26 ?_
  obtain ⟨r4, er4, hf⟩ := x_bind hf
  refine xc_wv (As := [.int (iI v1), .int (iI v3)]) (rest := []) ⟨hx, hb, hml, hown, hts⟩ (c2_set l dC dI cs (a 6) (a 13) _ 120 (g0_strs b) v1 v3 (by decide) _ er4) (cwV 2 hts gX0_strengthen_X2_set rfl rfl rfl cdX2_set ⟨Nat.le_of_ble_eq_true rfl, Nat.le_of_ble_eq_true rfl⟩) hK hP (x_addr hD rfl) hS hA [6, 13] rfl (by decide) rfl 6 rfl rfl rfl hl.1 rfl (Nat.le_of_ble_eq_true rfl) dX0_strengthen_29 ⟨Nat.zero_le _, Nat.zero_le _⟩ (fun H locs hP hS => ?_)
  have hP : va_P (dC, dI) vwCl (w0C cs a (g0_room b) (g0_opn b) (g0_flo b) (g0_cst b) (g0_mrg b) (g0_stm b) (g0_brk b) (g0_keys b) (g0_weis b) (g0_homs b) (g0_ords b) (g0_flts b) r4 (g0_rwts b)) H := hP
  refine lv_aload_n hx hb dX0_strengthen_32 rfl (lv_at hl 1 rfl) ?_
  refine va_get (D := (dC, dI)) (ci := 0) (v := .ref (a 6)) (C := RX0) (T := TX0) (N := 14) hx hb hts hin0 hown hK hP 0 rfl rfl 6 (by decide) (hts (.fieldLink RX0 39 "BoatRuns$Boat" "strengths" "LBoatRuns$Row;") (by decide +kernel)) (fun _ h9 => h9) rfl dX0_strengthen_33 ?_
  refine lv_iload_n hx hb dX0_strengthen_36 rfl (lv_at hl 0 rfl) ?_
  obtain ⟨v5, ev5, hf⟩ := x_bind hf
  refine xc_ri (As := [.int (iI v1)]) (rest := []) ⟨hx, hb, hml, hown, hts⟩ (c2_get l dC dI cs (a 6) (a 13) 120 r4 v1 (by decide) _ ev5) (cwV 1 hts gX0_strengthen_X2_get rfl rfl rfl cdX2_get ⟨Nat.le_of_ble_eq_true rfl, Nat.le_of_ble_eq_true rfl⟩) hK hP [6, 13] rfl 6 rfl rfl rfl hl.1 rfl (Nat.le_of_ble_eq_true rfl) dX0_strengthen_37 ⟨Nat.zero_le _, Nat.zero_le _⟩ ?_
  obtain rfl := Option.some.inj hf
  exact xe_wi hx hb hr hlocks hS hP dX0_strengthen_40
theorem cdX0_strengthen : yX0_strengthen.cls = RX0 ∧ yX0_strengthen.cls ≠ "java/lang/invoke/MethodHandle" ∧ yX0_strengthen.cls ≠ "java/lang/invoke/VarHandle" ∧ (parseMethodDescriptor yX0_strengthen.desc).map (fun d => d.parameters.length) = some 1 := by decide +kernel

set_option maxHeartbeats 4000000 in
set_option maxRecDepth 100000 in
theorem c0_canBringAshore (l : Launch) (dC : Nat → ClassId) (dI : Nat → Nat → Nat) (cs : Nat → ClassId) (a : Nat → Nat) (b : BoatS) (p0 : Int) (res : Int) (hf : f0_canBringAshore b p0 = some res) : Met l yX0_canBringAshore wsX0_canBringAshore ({ frames := 2, cells := 0, slots := 0, locals := 46 } : Room) (va_Pc [.ref (a 0), .int (iI p0)] (xPR (dC, dI) vwCl (w0 cs a b) (xT cs))) (vp_Si (fun r => r = iI res)) 0 0 (fun _ => False) := by
  refine Met.ofW (cc := cX0_canBringAshore) (maxL := 3) (ret := (some .boolean)) (by decide) rfl ?_
  intro p e s m args below meth c s₁ B hml hv
  obtain ⟨rfl, hP, hK⟩ := hv
  have hx := B.exec
  have hb := B.bytes
  have hr := B.returns
  have hts := atoms_spec (ws := wsX0_canBringAshore) B.pre
  have hown : s.vm.findClass RX0 = some m.cls := findClass_of_methodNamed B.named
  have hlocks := B.notSynchronized
  have hl := lv_entry [.ref (a 0), .int (iI p0)] (n := 3) (Nat.le_of_ble_eq_true rfl)
  rw [lg_entry_eq]
  generalize (lg_sl [.ref (a 0), .int (iI p0)] ++ List.replicate (3 - (lg_sl [.ref (a 0), .int (iI p0)]).length) Slot.unset).toArray = ls at hl ⊢
  have hl : lv_has ls 3 [(0, .ref (a 0)), (1, .int (iI p0))] := hl
  unfold f0_canBringAshore at hf
  refine lv_aload_n hx hb dX0_canBringAshore_0 rfl (lv_at hl 0 rfl) ?_
  refine xk_bipush hx hb dX0_canBringAshore_1 (by decide) ?_
  obtain ⟨v1, ev1, hf⟩ := x_bind hf
  refine xc_ri (As := [.int (iI (-2))]) (rest := []) ⟨hx, hb, hml, hown, hts⟩ (c0_lastAt l dC dI cs a b (-2)  _ ev1) (cwV 1 hts gX0_canBringAshore_X0_lastAt rfl rfl rfl cdX0_lastAt ⟨Nat.le_of_ble_eq_true rfl, Nat.le_of_ble_eq_true rfl⟩) hK hP [0, 1, 2, 3, 4, 5, 6, 7, 8, 9, 10, 11, 12, 13, 14] rfl 0 rfl rfl rfl hl.1 rfl (Nat.le_of_ble_eq_true rfl) dX0_canBringAshore_3 ⟨Nat.zero_le _, Nat.zero_le _⟩ ?_
  refine lv_istore_n (lv' := [(2, .int (iI v1)), (0, .ref (a 0)), (1, .int (iI p0))]) hx hb dX0_canBringAshore_6 rfl hl (by decide) rfl (fun ls hl => ?_)
  refine lv_iload_n hx hb dX0_canBringAshore_7 rfl (lv_at hl 0 rfl) ?_
  refine xk_iconst hx hb dX0_canBringAshore_8 ?_
  obtain ⟨c2a, c2b, c2t, c2f⟩ := x_eqE hf
  refine xk_icmp_eq (tgt := 26) hx hb c2a c2b dX0_canBringAshore_9 (by decide) (fun c2 => ?_) (fun c2 => ?_)
  · have hf := c2t c2
    refine xk_iconst hx hb dX0_canBringAshore_26 ?_
    refine lv_goto (tgt := 31) hx hb dX0_canBringAshore_27 (by decide) ?_
    obtain rfl := Option.some.inj hf
    exact xe_rz hx hb hr (Or.inr rfl) hlocks dX0_canBringAshore_31 rfl
  · have hf := c2f c2
    refine lv_aload_n hx hb dX0_canBringAshore_12 rfl (lv_at hl 1 rfl) ?_
    refine lv_iload_n hx hb dX0_canBringAshore_13 rfl (lv_at hl 0 rfl) ?_
    refine lv_aload_n hx hb dX0_canBringAshore_14 rfl (lv_at hl 1 rfl) ?_
    refine lv_iload_n hx hb dX0_canBringAshore_15 rfl (lv_at hl 2 rfl) ?_
    refine xk_iconst hx hb dX0_canBringAshore_16 ?_
    obtain ⟨v3, ev3, hf⟩ := x_bind hf
    refine xc_ri (As := [.int (iI p0), .int (iI 0)]) (rest := [.int (iI v1), .ref (a 0)]) ⟨hx, hb, hml, hown, hts⟩ (c0_parcelAt l dC dI cs a b p0 0  _ ev3) (cwV 2 hts gX0_canBringAshore_X0_parcelAt rfl rfl rfl cdX0_parcelAt ⟨Nat.le_of_ble_eq_true rfl, Nat.le_of_ble_eq_true rfl⟩) hK hP [0, 1, 2, 3, 4, 5, 6, 7, 8, 9, 10, 11, 12, 13, 14] rfl 0 rfl rfl rfl hl.1 rfl (Nat.le_of_ble_eq_true rfl) dX0_canBringAshore_17 ⟨Nat.zero_le _, Nat.zero_le _⟩ ?_
    obtain ⟨v4, ev4, hf⟩ := x_bind hf
    refine xc_ri (As := [.int (iI v1), .int (iI v3)]) (rest := []) ⟨hx, hb, hml, hown, hts⟩ (c0_isLess l dC dI cs a b v1 v3  _ ev4) (cwV 2 hts gX0_canBringAshore_X0_isLess rfl rfl rfl cdX0_isLess ⟨Nat.le_of_ble_eq_true rfl, Nat.le_of_ble_eq_true rfl⟩) hK hP [0, 1, 2, 3, 4, 5, 6, 7, 8, 9, 10, 11, 12, 13, 14] rfl 0 rfl rfl rfl hl.1 rfl (Nat.le_of_ble_eq_true rfl) dX0_canBringAshore_20 ⟨Nat.zero_le _, Nat.zero_le _⟩ ?_
    obtain ⟨c5a, c5b, c5t, c5f⟩ := x_eqE hf
    refine xk_if_eq (tgt := 30) hx hb c5a dX0_canBringAshore_23 (by decide) (fun c5 => ?_) (fun c5 => ?_)
    · have hf := c5t c5
      refine xk_iconst hx hb dX0_canBringAshore_30 ?_
      obtain rfl := Option.some.inj hf
      exact xe_rz hx hb hr (Or.inl rfl) hlocks dX0_canBringAshore_31 rfl
    · have hf := c5f c5
      refine xk_iconst hx hb dX0_canBringAshore_26 ?_
      refine lv_goto (tgt := 31) hx hb dX0_canBringAshore_27 (by decide) ?_
      obtain rfl := Option.some.inj hf
      exact xe_rz hx hb hr (Or.inr rfl) hlocks dX0_canBringAshore_31 rfl
theorem cdX0_canBringAshore : yX0_canBringAshore.cls = RX0 ∧ yX0_canBringAshore.cls ≠ "java/lang/invoke/MethodHandle" ∧ yX0_canBringAshore.cls ≠ "java/lang/invoke/VarHandle" ∧ (parseMethodDescriptor yX0_canBringAshore.desc).map (fun d => d.parameters.length) = some 1 := by decide +kernel

set_option maxHeartbeats 4000000 in
set_option maxRecDepth 100000 in
theorem c0_bringAshore (l : Launch) (dC : Nat → ClassId) (dI : Nat → Nat → Nat) (cs : Nat → ClassId) (a : Nat → Nat) (sz : Nat) (b : BoatS) (p0 : Int) (res : Int × BoatS) (hf : f0_bringAshore b p0 = some res) : Met l yX0_bringAshore wsX0_bringAshore ({ frames := 2, cells := 0, slots := 0, locals := 45 } : Room) (va_Pc [.ref (a 0), .int (iI p0)] (xPW (dC, dI) vwCl (w0 cs a b) (xT cs) sz)) (xQi (dC, dI) vwCl (w0 cs a b) (w0 cs a res.2) sz res.1) 0 0 (va_A (w0 cs a b) sz) := by
  refine Met.ofW (cc := cX0_bringAshore) (maxL := 2) (ret := (some .int)) (by decide) rfl ?_
  intro p e s m args below meth c s₁ B hml hv
  obtain ⟨rfl, hsz, hP, hK, hD0⟩ := hv
  have hx := B.exec
  have hb := B.bytes
  have hr := B.returns
  have hts := atoms_spec (ws := wsX0_bringAshore) B.pre
  have hown : s.vm.findClass RX0 = some m.cls := findClass_of_methodNamed B.named
  have hlocks := B.notSynchronized
  have hin0 : ∀ w ∈ wsX00, w ∈ wsX0_bringAshore := by decide +kernel
  subst hsz
  have hD := hD0.self (sz := s.heap.size)
  have hA : ∀ z9 : Nat, s.heap.size ≤ z9 → va_A (w0 cs a b) s.heap.size z9 := fun z9 h => Or.inr h
  have hS : va_S (va_A (w0 cs a b) s.heap.size) s.heap s.heap [] := va_S.rf
  have hl := lv_entry [.ref (a 0), .int (iI p0)] (n := 2) (Nat.le_of_ble_eq_true rfl)
  rw [lg_entry_eq]
  generalize (lg_sl [.ref (a 0), .int (iI p0)] ++ List.replicate (2 - (lg_sl [.ref (a 0), .int (iI p0)]).length) Slot.unset).toArray = ls at hl ⊢
  have hl : lv_has ls 2 [(0, .ref (a 0)), (1, .int (iI p0))] := hl
  unfold f0_bringAshore at hf
  refine lv_aload_n hx hb dX0_bringAshore_0 rfl (lv_at hl 0 rfl) ?_
  refine lv_iload_n hx hb dX0_bringAshore_1 rfl (lv_at hl 1 rfl) ?_
  refine xk_bipush hx hb dX0_bringAshore_2 (by decide) ?_
  obtain ⟨b1, eb1, hf⟩ := x_bind hf
  refine xc_wv (As := [.int (iI p0), .int (iI (-2))]) (rest := []) ⟨hx, hb, hml, hown, hts⟩ (c0_move l dC dI cs a _ b p0 (-2)  _ eb1) (cwV 2 hts gX0_bringAshore_X0_move rfl rfl rfl cdX0_move ⟨Nat.le_of_ble_eq_true rfl, Nat.le_of_ble_eq_true rfl⟩) hK hP (x_addr hD rfl) hS hA [0, 1, 2, 3, 4, 5, 6, 7, 8, 9, 10, 11, 12, 13, 14] rfl (by decide) rfl 0 rfl rfl rfl hl.1 rfl (Nat.le_of_ble_eq_true rfl) dX0_bringAshore_4 ⟨Nat.zero_le _, Nat.zero_le _⟩ (fun H locs hP hS => ?_)
  have hP : va_P (dC, dI) vwCl (w0 cs a b1) H := hP
  refine lv_aload_n hx hb dX0_bringAshore_7 rfl (lv_at hl 0 rfl) ?_
  refine lv_aload_n hx hb dX0_bringAshore_8 rfl (lv_at hl 0 rfl) ?_
  refine va_get (D := (dC, dI)) (ci := 0) (v := .ref (a 5)) (C := RX0) (T := TX0) (N := 14) hx hb hts hin0 hown hK hP 0 rfl rfl 5 (by decide) (hts (.fieldLink RX0 36 "BoatRuns$Boat" "floats" "LBoatRuns$Row;") (by decide +kernel)) (fun _ h9 => h9) rfl dX0_bringAshore_9 ?_
  refine lv_iload_n hx hb dX0_bringAshore_12 rfl (lv_at hl 1 rfl) ?_
  obtain ⟨v2, ev2, hf⟩ := x_bind hf
  refine xc_ri (As := [.int (iI p0)]) (rest := [.ref (a 0)]) ⟨hx, hb, hml, hown, hts⟩ (c2_indexOf l dC dI cs (a 5) (a 12) 120 (g0_flts b1) p0 (by decide) _ ev2) (cwV 1 hts gX0_bringAshore_X2_indexOf rfl rfl rfl cdX2_indexOf ⟨Nat.le_of_ble_eq_true rfl, Nat.le_of_ble_eq_true rfl⟩) hK hP [5, 12] rfl 5 rfl rfl rfl hl.1 rfl (Nat.le_of_ble_eq_true rfl) dX0_bringAshore_13 ⟨Nat.zero_le _, Nat.zero_le _⟩ ?_
  obtain ⟨b3, eb3, hf⟩ := x_bind hf
  refine xc_wv (As := [.int (iI v2)]) (rest := []) ⟨hx, hb, hml, hown, hts⟩ (c0_removeFloat l dC dI cs a _ b1 v2  _ eb3) (cwV 1 hts gX0_bringAshore_X0_removeFloat rfl rfl rfl cdX0_removeFloat ⟨Nat.le_of_ble_eq_true rfl, Nat.le_of_ble_eq_true rfl⟩) hK hP (x_addr hD rfl) hS hA [0, 1, 2, 3, 4, 5, 6, 7, 8, 9, 10, 11, 12, 13, 14] rfl (by decide) rfl 0 rfl rfl rfl hl.1 rfl (Nat.le_of_ble_eq_true rfl) dX0_bringAshore_16 ⟨Nat.zero_le _, Nat.zero_le _⟩ (fun H locs hP hS => ?_)
  have hP : va_P (dC, dI) vwCl (w0 cs a b3) H := hP
  refine lv_aload_n hx hb dX0_bringAshore_19 rfl (lv_at hl 0 rfl) ?_
  refine va_get (D := (dC, dI)) (ci := 0) (v := .int (iI (g0_opn b3))) (C := RX0) (T := TX0) (N := 14) hx hb hts hin0 hown hK hP 0 rfl rfl 8 (by decide) (hts (.fieldLink RX0 15 "BoatRuns$Boat" "open" "I") (by decide +kernel)) (fun _ h9 => h9) rfl dX0_bringAshore_20 ?_
  refine lv_iload_n hx hb dX0_bringAshore_23 rfl (lv_at hl 1 rfl) ?_
  obtain ⟨c4a, c4b, c4t, c4f⟩ := x_eqE hf
  refine xk_icmp_ne (tgt := 32) hx hb c4a c4b dX0_bringAshore_24 (by decide) (fun c4 => ?_) (fun c4 => ?_)
  · have hf := c4t c4
    refine lv_aload_n hx hb dX0_bringAshore_27 rfl (lv_at hl 0 rfl) ?_
    refine xk_iconst hx hb dX0_bringAshore_28 ?_
    refine va_put (D := (dC, dI)) (ci := 0) (v := .int (iI (-1))) (ty := .int) (C := RX0) (T := TX0) (N := 14) hx hb hts hin0 tyX0 tyX0_ok nmX0 hown hK hP (x_addr hD rfl) hS 0 rfl rfl 8 (by decide) (hts (.fieldLink RX0 15 "BoatRuns$Boat" "open" "I") (by decide +kernel)) (fun _ h9 => h9) rfl (by decide +kernel) rfl rfl (Nat.le_of_ble_eq_true rfl) dX0_bringAshore_29 (fun H locs hP _ hS => ?_)
    have hP : va_P (dC, dI) vwCl (w0C cs a (g0_room b3) (-1) (g0_flo b3) (g0_cst b3) (g0_mrg b3) (g0_stm b3) (g0_brk b3) (g0_keys b3) (g0_weis b3) (g0_homs b3) (g0_ords b3) (g0_flts b3) (g0_strs b3) (g0_rwts b3)) H := hP
    refine lv_aload_n hx hb dX0_bringAshore_32 rfl (lv_at hl 0 rfl) ?_
    refine xk_bipush hx hb dX0_bringAshore_33 (by decide) ?_
    obtain ⟨v5, ev5, hf⟩ := x_bind hf
    refine xc_ri (As := [.int (iI (-2))]) (rest := []) ⟨hx, hb, hml, hown, hts⟩ (c0_countAt l dC dI cs a (s0_opn b3 (-1)) (-2)  _ ev5) (cwV 1 hts gX0_bringAshore_X0_countAt rfl rfl rfl cdX0_countAt ⟨Nat.le_of_ble_eq_true rfl, Nat.le_of_ble_eq_true rfl⟩) hK hP [0, 1, 2, 3, 4, 5, 6, 7, 8, 9, 10, 11, 12, 13, 14] rfl 0 rfl rfl rfl hl.1 rfl (Nat.le_of_ble_eq_true rfl) dX0_bringAshore_35 ⟨Nat.zero_le _, Nat.zero_le _⟩ ?_
    obtain rfl := Option.some.inj hf
    exact xe_wi hx hb hr hlocks hS hP dX0_bringAshore_38
  · have hf := c4f c4
    refine lv_aload_n hx hb dX0_bringAshore_32 rfl (lv_at hl 0 rfl) ?_
    refine xk_bipush hx hb dX0_bringAshore_33 (by decide) ?_
    obtain ⟨v6, ev6, hf⟩ := x_bind hf
    refine xc_ri (As := [.int (iI (-2))]) (rest := []) ⟨hx, hb, hml, hown, hts⟩ (c0_countAt l dC dI cs a b3 (-2)  _ ev6) (cwV 1 hts gX0_bringAshore_X0_countAt rfl rfl rfl cdX0_countAt ⟨Nat.le_of_ble_eq_true rfl, Nat.le_of_ble_eq_true rfl⟩) hK hP [0, 1, 2, 3, 4, 5, 6, 7, 8, 9, 10, 11, 12, 13, 14] rfl 0 rfl rfl rfl hl.1 rfl (Nat.le_of_ble_eq_true rfl) dX0_bringAshore_35 ⟨Nat.zero_le _, Nat.zero_le _⟩ ?_
    obtain rfl := Option.some.inj hf
    exact xe_wi hx hb hr hlocks hS hP dX0_bringAshore_38
theorem cdX0_bringAshore : yX0_bringAshore.cls = RX0 ∧ yX0_bringAshore.cls ≠ "java/lang/invoke/MethodHandle" ∧ yX0_bringAshore.cls ≠ "java/lang/invoke/VarHandle" ∧ (parseMethodDescriptor yX0_bringAshore.desc).map (fun d => d.parameters.length) = some 1 := by decide +kernel

set_option maxHeartbeats 4000000 in
set_option maxRecDepth 100000 in
theorem c0_parcelFact (l : Launch) (dC : Nat → ClassId) (dI : Nat → Nat → Nat) (cs : Nat → ClassId) (a : Nat → Nat) (b : BoatS) (p0 : Int) (p1 : Int) (res : Int) (hf : f0_parcelFact b p0 p1 = some res) : Met l yX0_parcelFact wsX0_parcelFact ({ frames := 2, cells := 0, slots := 0, locals := 46 } : Room) (va_Pc [.ref (a 0), .int (iI p0), .int (iI p1)] (xPR (dC, dI) vwCl (w0 cs a b) (xT cs))) (vp_Si (fun r => r = iI res)) 0 0 (fun _ => False) := by
  refine Met.ofW (cc := cX0_parcelFact) (maxL := 4) (ret := (some .int)) (by decide) rfl ?_
  intro p e s m args below meth c s₁ B hml hv
  obtain ⟨rfl, hP, hK⟩ := hv
  have hx := B.exec
  have hb := B.bytes
  have hr := B.returns
  have hts := atoms_spec (ws := wsX0_parcelFact) B.pre
  have hown : s.vm.findClass RX0 = some m.cls := findClass_of_methodNamed B.named
  have hlocks := B.notSynchronized
  have hin0 : ∀ w ∈ wsX00, w ∈ wsX0_parcelFact := by decide +kernel
  have hl := lv_entry [.ref (a 0), .int (iI p0), .int (iI p1)] (n := 4) (Nat.le_of_ble_eq_true rfl)
  rw [lg_entry_eq]
  generalize (lg_sl [.ref (a 0), .int (iI p0), .int (iI p1)] ++ List.replicate (4 - (lg_sl [.ref (a 0), .int (iI p0), .int (iI p1)]).length) Slot.unset).toArray = ls at hl ⊢
  have hl : lv_has ls 4 [(0, .ref (a 0)), (1, .int (iI p0)), (2, .int (iI p1))] := hl
  unfold f0_parcelFact at hf
  refine lv_aload_n hx hb dX0_parcelFact_0 rfl (lv_at hl 0 rfl) ?_
  refine va_get (D := (dC, dI)) (ci := 0) (v := .ref (a 3)) (C := RX0) (T := TX0) (N := 14) hx hb hts hin0 hown hK hP 0 rfl rfl 3 (by decide) (hts (.fieldLink RX0 30 "BoatRuns$Boat" "homes" "LBoatRuns$Row;") (by decide +kernel)) (fun _ h9 => h9) rfl dX0_parcelFact_1 ?_
  refine lv_iload_n hx hb dX0_parcelFact_4 rfl (lv_at hl 1 rfl) ?_
  obtain ⟨v1, ev1, hf⟩ := x_bind hf
  refine xc_ri (As := [.int (iI p0)]) (rest := []) ⟨hx, hb, hml, hown, hts⟩ (c2_get l dC dI cs (a 3) (a 10) 120 (g0_homs b) p0 (by decide) _ ev1) (cwV 1 hts gX0_parcelFact_X2_get rfl rfl rfl cdX2_get ⟨Nat.le_of_ble_eq_true rfl, Nat.le_of_ble_eq_true rfl⟩) hK hP [3, 10] rfl 3 rfl rfl rfl hl.1 rfl (Nat.le_of_ble_eq_true rfl) dX0_parcelFact_5 ⟨Nat.zero_le _, Nat.zero_le _⟩ ?_
  refine lv_istore_n (lv' := [(3, .int (iI v1)), (0, .ref (a 0)), (1, .int (iI p0)), (2, .int (iI p1))]) hx hb dX0_parcelFact_8 rfl hl (by decide) rfl (fun ls hl => ?_)
  refine lv_iload_n hx hb dX0_parcelFact_9 rfl (lv_at hl 3 rfl) ?_
  obtain ⟨c2a, c2b, c2t, c2f⟩ := x_eqE hf
  by_cases c2 : p1 = 0
  · have hf := c2t c2
    refine xk_tabIn (tgt := 40) hx hb c2a c2 dX0_parcelFact_10 (by decide) rfl (by decide) ?_
    refine lv_aload_n hx hb dX0_parcelFact_40 rfl (lv_at hl 1 rfl) ?_
    refine va_get (D := (dC, dI)) (ci := 0) (v := .ref (a 1)) (C := RX0) (T := TX0) (N := 14) hx hb hts hin0 hown hK hP 0 rfl rfl 1 (by decide) (hts (.fieldLink RX0 23 "BoatRuns$Boat" "keys" "LBoatRuns$Row;") (by decide +kernel)) (fun _ h9 => h9) rfl dX0_parcelFact_41 ?_
    refine lv_iload_n hx hb dX0_parcelFact_44 rfl (lv_at hl 2 rfl) ?_
    obtain ⟨v3, ev3, hf⟩ := x_bind hf
    refine xc_ri (As := [.int (iI p0)]) (rest := []) ⟨hx, hb, hml, hown, hts⟩ (c2_get l dC dI cs (a 1) (a 8) 120 (g0_keys b) p0 (by decide) _ ev3) (cwV 1 hts gX0_parcelFact_X2_get rfl rfl rfl cdX2_get ⟨Nat.le_of_ble_eq_true rfl, Nat.le_of_ble_eq_true rfl⟩) hK hP [1, 8] rfl 1 rfl rfl rfl hl.1 rfl (Nat.le_of_ble_eq_true rfl) dX0_parcelFact_45 ⟨Nat.zero_le _, Nat.zero_le _⟩ ?_
    obtain rfl := Option.some.inj hf
    exact xe_ri hx hb hr hlocks dX0_parcelFact_48 rfl
  · have hf := c2f c2
    obtain ⟨c4a, c4b, c4t, c4f⟩ := x_eqE hf
    by_cases c4 : p1 = 1
    · have hf := c4t c4
      refine xk_tabIn (tgt := 49) hx hb c4a c4 dX0_parcelFact_10 (by decide) rfl (by decide) ?_
      refine lv_aload_n hx hb dX0_parcelFact_49 rfl (lv_at hl 1 rfl) ?_
      refine va_get (D := (dC, dI)) (ci := 0) (v := .ref (a 2)) (C := RX0) (T := TX0) (N := 14) hx hb hts hin0 hown hK hP 0 rfl rfl 2 (by decide) (hts (.fieldLink RX0 27 "BoatRuns$Boat" "weights" "LBoatRuns$Row;") (by decide +kernel)) (fun _ h9 => h9) rfl dX0_parcelFact_50 ?_
      refine lv_iload_n hx hb dX0_parcelFact_53 rfl (lv_at hl 2 rfl) ?_
      obtain ⟨v5, ev5, hf⟩ := x_bind hf
      refine xc_ri (As := [.int (iI p0)]) (rest := []) ⟨hx, hb, hml, hown, hts⟩ (c2_get l dC dI cs (a 2) (a 9) 120 (g0_weis b) p0 (by decide) _ ev5) (cwV 1 hts gX0_parcelFact_X2_get rfl rfl rfl cdX2_get ⟨Nat.le_of_ble_eq_true rfl, Nat.le_of_ble_eq_true rfl⟩) hK hP [2, 9] rfl 2 rfl rfl rfl hl.1 rfl (Nat.le_of_ble_eq_true rfl) dX0_parcelFact_54 ⟨Nat.zero_le _, Nat.zero_le _⟩ ?_
      obtain rfl := Option.some.inj hf
      exact xe_ri hx hb hr hlocks dX0_parcelFact_57 rfl
    · have hf := c4f c4
      obtain ⟨c6a, c6b, c6t, c6f⟩ := x_eqE hf
      by_cases c6 : p1 = 2
      · have hf := c6t c6
        refine xk_tabIn (tgt := 58) hx hb c6a c6 dX0_parcelFact_10 (by decide) rfl (by decide) ?_
        refine lv_iload_n hx hb dX0_parcelFact_58 rfl (lv_at hl 0 rfl) ?_
        refine xk_iconst hx hb dX0_parcelFact_59 ?_
        obtain ⟨c7a, c7b, c7t, c7f⟩ := x_eqE hf
        refine xk_icmp_ne (tgt := 67) hx hb c7a c7b dX0_parcelFact_60 (by decide) (fun c7 => ?_) (fun c7 => ?_)
        · have hf := c7t c7
          refine xk_iconst hx hb dX0_parcelFact_63 ?_
          refine lv_goto (tgt := 78) hx hb dX0_parcelFact_64 (by decide) ?_
          obtain rfl := Option.some.inj hf
          exact xe_ri hx hb hr hlocks dX0_parcelFact_78 rfl
        · have hf := c7f c7
          refine lv_iload_n hx hb dX0_parcelFact_67 rfl (lv_at hl 0 rfl) ?_
          refine xk_bipush hx hb dX0_parcelFact_68 (by decide) ?_
          obtain ⟨c8a, c8b, c8t, c8f⟩ := x_eqE hf
          refine xk_icmp_ne (tgt := 77) hx hb c8a c8b dX0_parcelFact_70 (by decide) (fun c8 => ?_) (fun c8 => ?_)
          · have hf := c8t c8
            refine xk_iconst hx hb dX0_parcelFact_73 ?_
            refine lv_goto (tgt := 78) hx hb dX0_parcelFact_74 (by decide) ?_
            obtain rfl := Option.some.inj hf
            exact xe_ri hx hb hr hlocks dX0_parcelFact_78 rfl
          · have hf := c8f c8
            refine xk_iconst hx hb dX0_parcelFact_77 ?_
            obtain rfl := Option.some.inj hf
            exact xe_ri hx hb hr hlocks dX0_parcelFact_78 rfl
      · have hf := c6f c6
        obtain ⟨c9a, c9b, c9t, c9f⟩ := x_eqE hf
        by_cases c9 : p1 = 3
        · have hf := c9t c9
          refine xk_tabIn (tgt := 79) hx hb c9a c9 dX0_parcelFact_10 (by decide) rfl (by decide) ?_
          refine lv_iload_n hx hb dX0_parcelFact_79 rfl (lv_at hl 0 rfl) ?_
          refine xk_iconst hx hb dX0_parcelFact_80 ?_
          obtain ⟨c10a, c10b, c10t, c10f⟩ := x_eqE hf
          refine xk_icmp_eq (tgt := 90) hx hb c10a c10b dX0_parcelFact_81 (by decide) (fun c10 => ?_) (fun c10 => ?_)
          · have hf := c10t c10
            refine xk_iconst hx hb dX0_parcelFact_90 ?_
            refine lv_goto (tgt := 95) hx hb dX0_parcelFact_91 (by decide) ?_
            obtain rfl := Option.some.inj hf
            exact xe_ri hx hb hr hlocks dX0_parcelFact_95 rfl
          · have hf := c10f c10
            refine lv_iload_n hx hb dX0_parcelFact_84 rfl (lv_at hl 0 rfl) ?_
            refine xk_bipush hx hb dX0_parcelFact_85 (by decide) ?_
            obtain ⟨c11a, c11b, c11t, c11f⟩ := x_eqE hf
            refine xk_icmp_ne (tgt := 94) hx hb c11a c11b dX0_parcelFact_87 (by decide) (fun c11 => ?_) (fun c11 => ?_)
            · have hf := c11t c11
              refine xk_iconst hx hb dX0_parcelFact_90 ?_
              refine lv_goto (tgt := 95) hx hb dX0_parcelFact_91 (by decide) ?_
              obtain rfl := Option.some.inj hf
              exact xe_ri hx hb hr hlocks dX0_parcelFact_95 rfl
            · have hf := c11f c11
              refine lv_iload_n hx hb dX0_parcelFact_94 rfl (lv_at hl 0 rfl) ?_
              obtain rfl := Option.some.inj hf
              exact xe_ri hx hb hr hlocks dX0_parcelFact_95 rfl
        · have hf := c9f c9
          refine xk_tabOut (tgt := 96) hx hb c9a dX0_parcelFact_10 (by omega) (by decide) ?_
          refine lv_iload_n hx hb dX0_parcelFact_96 rfl (lv_at hl 0 rfl) ?_
          refine xk_iconst hx hb dX0_parcelFact_97 ?_
          obtain ⟨c12a, c12b, c12t, c12f⟩ := x_eqE hf
          refine xk_icmp_ne (tgt := 105) hx hb c12a c12b dX0_parcelFact_98 (by decide) (fun c12 => ?_) (fun c12 => ?_)
          · have hf := c12t c12
            refine xk_iconst hx hb dX0_parcelFact_101 ?_
            refine lv_goto (tgt := 110) hx hb dX0_parcelFact_102 (by decide) ?_
            obtain rfl := Option.some.inj hf
            exact xe_ri hx hb hr hlocks dX0_parcelFact_110 rfl
          · have hf := c12f c12
            refine lv_aload_n hx hb dX0_parcelFact_105 rfl (lv_at hl 1 rfl) ?_
            refine lv_iload_n hx hb dX0_parcelFact_106 rfl (lv_at hl 2 rfl) ?_
            obtain ⟨v13, ev13, hf⟩ := x_bind hf
            refine xc_ri (As := [.int (iI p0)]) (rest := []) ⟨hx, hb, hml, hown, hts⟩ (c0_placeOf l dC dI cs a b p0  _ ev13) (cwV 1 hts gX0_parcelFact_X0_placeOf rfl rfl rfl cdX0_placeOf ⟨Nat.le_of_ble_eq_true rfl, Nat.le_of_ble_eq_true rfl⟩) hK hP [0, 1, 2, 3, 4, 5, 6, 7, 8, 9, 10, 11, 12, 13, 14] rfl 0 rfl rfl rfl hl.1 rfl (Nat.le_of_ble_eq_true rfl) dX0_parcelFact_107 ⟨Nat.zero_le _, Nat.zero_le _⟩ ?_
            obtain rfl := Option.some.inj hf
            exact xe_ri hx hb hr hlocks dX0_parcelFact_110 rfl
theorem cdX0_parcelFact : yX0_parcelFact.cls = RX0 ∧ yX0_parcelFact.cls ≠ "java/lang/invoke/MethodHandle" ∧ yX0_parcelFact.cls ≠ "java/lang/invoke/VarHandle" ∧ (parseMethodDescriptor yX0_parcelFact.desc).map (fun d => d.parameters.length) = some 2 := by decide +kernel

set_option maxHeartbeats 4000000 in
set_option maxRecDepth 100000 in
theorem c0_runFact (l : Launch) (dC : Nat → ClassId) (dI : Nat → Nat → Nat) (cs : Nat → ClassId) (a : Nat → Nat) (b : BoatS) (p0 : Int) (p1 : Int) (res : Int) (hf : f0_runFact b p0 p1 = some res) : Met l yX0_runFact wsX0_runFact ({ frames := 2, cells := 0, slots := 0, locals := 46 } : Room) (va_Pc [.ref (a 0), .int (iI p0), .int (iI p1)] (xPR (dC, dI) vwCl (w0 cs a b) (xT cs))) (vp_Si (fun r => r = iI res)) 0 0 (fun _ => False) := by
  refine Met.ofW (cc := cX0_runFact) (maxL := 3) (ret := (some .int)) (by decide) rfl ?_
  intro p e s m args below meth c s₁ B hml hv
  obtain ⟨rfl, hP, hK⟩ := hv
  have hx := B.exec
  have hb := B.bytes
  have hr := B.returns
  have hts := atoms_spec (ws := wsX0_runFact) B.pre
  have hown : s.vm.findClass RX0 = some m.cls := findClass_of_methodNamed B.named
  have hlocks := B.notSynchronized
  have hin0 : ∀ w ∈ wsX00, w ∈ wsX0_runFact := by decide +kernel
  have hl := lv_entry [.ref (a 0), .int (iI p0), .int (iI p1)] (n := 3) (Nat.le_of_ble_eq_true rfl)
  rw [lg_entry_eq]
  generalize (lg_sl [.ref (a 0), .int (iI p0), .int (iI p1)] ++ List.replicate (3 - (lg_sl [.ref (a 0), .int (iI p0), .int (iI p1)]).length) Slot.unset).toArray = ls at hl ⊢
  have hl : lv_has ls 3 [(0, .ref (a 0)), (1, .int (iI p0)), (2, .int (iI p1))] := hl
  unfold f0_runFact at hf
  refine lv_iload_n hx hb dX0_runFact_0 rfl (lv_at hl 2 rfl) ?_
  obtain ⟨c1a, c1b, c1t, c1f⟩ := x_eqE hf
  by_cases c1 : p1 = 0
  · have hf := c1t c1
    refine xk_tabIn (tgt := 36) hx hb c1a c1 dX0_runFact_1 (by decide) rfl (by decide) ?_
    refine lv_aload_n hx hb dX0_runFact_36 rfl (lv_at hl 0 rfl) ?_
    refine lv_iload_n hx hb dX0_runFact_37 rfl (lv_at hl 1 rfl) ?_
    obtain ⟨v2, ev2, hf⟩ := x_bind hf
    refine xc_ri (As := [.int (iI p0)]) (rest := []) ⟨hx, hb, hml, hown, hts⟩ (c0_countAt l dC dI cs a b p0  _ ev2) (cwV 1 hts gX0_runFact_X0_countAt rfl rfl rfl cdX0_countAt ⟨Nat.le_of_ble_eq_true rfl, Nat.le_of_ble_eq_true rfl⟩) hK hP [0, 1, 2, 3, 4, 5, 6, 7, 8, 9, 10, 11, 12, 13, 14] rfl 0 rfl rfl rfl hl.1 rfl (Nat.le_of_ble_eq_true rfl) dX0_runFact_38 ⟨Nat.zero_le _, Nat.zero_le _⟩ ?_
    obtain rfl := Option.some.inj hf
    exact xe_ri hx hb hr hlocks dX0_runFact_41 rfl
  · have hf := c1f c1
    obtain ⟨c3a, c3b, c3t, c3f⟩ := x_eqE hf
    by_cases c3 : p1 = 1
    · have hf := c3t c3
      refine xk_tabIn (tgt := 42) hx hb c3a c3 dX0_runFact_1 (by decide) rfl (by decide) ?_
      refine lv_aload_n hx hb dX0_runFact_42 rfl (lv_at hl 0 rfl) ?_
      refine va_get (D := (dC, dI)) (ci := 0) (v := .ref (a 7)) (C := RX0) (T := TX0) (N := 14) hx hb hts hin0 hown hK hP 0 rfl rfl 7 (by decide) (hts (.fieldLink RX0 42 "BoatRuns$Boat" "runWeights" "LBoatRuns$Row;") (by decide +kernel)) (fun _ h9 => h9) rfl dX0_runFact_43 ?_
      refine lv_aload_n hx hb dX0_runFact_46 rfl (lv_at hl 0 rfl) ?_
      refine va_get (D := (dC, dI)) (ci := 0) (v := .ref (a 5)) (C := RX0) (T := TX0) (N := 14) hx hb hts hin0 hown hK hP 0 rfl rfl 5 (by decide) (hts (.fieldLink RX0 36 "BoatRuns$Boat" "floats" "LBoatRuns$Row;") (by decide +kernel)) (fun _ h9 => h9) rfl dX0_runFact_47 ?_
      refine lv_iload_n hx hb dX0_runFact_50 rfl (lv_at hl 1 rfl) ?_
      obtain ⟨v4, ev4, hf⟩ := x_bind hf
      refine xc_ri (As := [.int (iI p0)]) (rest := [.ref (a 7)]) ⟨hx, hb, hml, hown, hts⟩ (c2_indexOf l dC dI cs (a 5) (a 12) 120 (g0_flts b) p0 (by decide) _ ev4) (cwV 1 hts gX0_runFact_X2_indexOf rfl rfl rfl cdX2_indexOf ⟨Nat.le_of_ble_eq_true rfl, Nat.le_of_ble_eq_true rfl⟩) hK hP [5, 12] rfl 5 rfl rfl rfl hl.1 rfl (Nat.le_of_ble_eq_true rfl) dX0_runFact_51 ⟨Nat.zero_le _, Nat.zero_le _⟩ ?_
      obtain ⟨v5, ev5, hf⟩ := x_bind hf
      refine xc_ri (As := [.int (iI v4)]) (rest := []) ⟨hx, hb, hml, hown, hts⟩ (c2_get l dC dI cs (a 7) (a 14) 120 (g0_rwts b) v4 (by decide) _ ev5) (cwV 1 hts gX0_runFact_X2_get rfl rfl rfl cdX2_get ⟨Nat.le_of_ble_eq_true rfl, Nat.le_of_ble_eq_true rfl⟩) hK hP [7, 14] rfl 7 rfl rfl rfl hl.1 rfl (Nat.le_of_ble_eq_true rfl) dX0_runFact_54 ⟨Nat.zero_le _, Nat.zero_le _⟩ ?_
      obtain rfl := Option.some.inj hf
      exact xe_ri hx hb hr hlocks dX0_runFact_57 rfl
    · have hf := c3f c3
      obtain ⟨c6a, c6b, c6t, c6f⟩ := x_eqE hf
      by_cases c6 : p1 = 2
      · have hf := c6t c6
        refine xk_tabIn (tgt := 58) hx hb c6a c6 dX0_runFact_1 (by decide) rfl (by decide) ?_
        refine lv_aload_n hx hb dX0_runFact_58 rfl (lv_at hl 0 rfl) ?_
        refine va_get (D := (dC, dI)) (ci := 0) (v := .ref (a 6)) (C := RX0) (T := TX0) (N := 14) hx hb hts hin0 hown hK hP 0 rfl rfl 6 (by decide) (hts (.fieldLink RX0 39 "BoatRuns$Boat" "strengths" "LBoatRuns$Row;") (by decide +kernel)) (fun _ h9 => h9) rfl dX0_runFact_59 ?_
        refine lv_aload_n hx hb dX0_runFact_62 rfl (lv_at hl 0 rfl) ?_
        refine va_get (D := (dC, dI)) (ci := 0) (v := .ref (a 5)) (C := RX0) (T := TX0) (N := 14) hx hb hts hin0 hown hK hP 0 rfl rfl 5 (by decide) (hts (.fieldLink RX0 36 "BoatRuns$Boat" "floats" "LBoatRuns$Row;") (by decide +kernel)) (fun _ h9 => h9) rfl dX0_runFact_63 ?_
        refine lv_iload_n hx hb dX0_runFact_66 rfl (lv_at hl 1 rfl) ?_
        obtain ⟨v7, ev7, hf⟩ := x_bind hf
        refine xc_ri (As := [.int (iI p0)]) (rest := [.ref (a 6)]) ⟨hx, hb, hml, hown, hts⟩ (c2_indexOf l dC dI cs (a 5) (a 12) 120 (g0_flts b) p0 (by decide) _ ev7) (cwV 1 hts gX0_runFact_X2_indexOf rfl rfl rfl cdX2_indexOf ⟨Nat.le_of_ble_eq_true rfl, Nat.le_of_ble_eq_true rfl⟩) hK hP [5, 12] rfl 5 rfl rfl rfl hl.1 rfl (Nat.le_of_ble_eq_true rfl) dX0_runFact_67 ⟨Nat.zero_le _, Nat.zero_le _⟩ ?_
        obtain ⟨v8, ev8, hf⟩ := x_bind hf
        refine xc_ri (As := [.int (iI v7)]) (rest := []) ⟨hx, hb, hml, hown, hts⟩ (c2_get l dC dI cs (a 6) (a 13) 120 (g0_strs b) v7 (by decide) _ ev8) (cwV 1 hts gX0_runFact_X2_get rfl rfl rfl cdX2_get ⟨Nat.le_of_ble_eq_true rfl, Nat.le_of_ble_eq_true rfl⟩) hK hP [6, 13] rfl 6 rfl rfl rfl hl.1 rfl (Nat.le_of_ble_eq_true rfl) dX0_runFact_70 ⟨Nat.zero_le _, Nat.zero_le _⟩ ?_
        obtain rfl := Option.some.inj hf
        exact xe_ri hx hb hr hlocks dX0_runFact_73 rfl
      · have hf := c6f c6
        obtain ⟨c9a, c9b, c9t, c9f⟩ := x_eqE hf
        by_cases c9 : p1 = 3
        · have hf := c9t c9
          refine xk_tabIn (tgt := 74) hx hb c9a c9 dX0_runFact_1 (by decide) rfl (by decide) ?_
          refine lv_aload_n hx hb dX0_runFact_74 rfl (lv_at hl 0 rfl) ?_
          refine va_get (D := (dC, dI)) (ci := 0) (v := .ref (a 1)) (C := RX0) (T := TX0) (N := 14) hx hb hts hin0 hown hK hP 0 rfl rfl 1 (by decide) (hts (.fieldLink RX0 23 "BoatRuns$Boat" "keys" "LBoatRuns$Row;") (by decide +kernel)) (fun _ h9 => h9) rfl dX0_runFact_75 ?_
          refine lv_aload_n hx hb dX0_runFact_78 rfl (lv_at hl 0 rfl) ?_
          refine lv_iload_n hx hb dX0_runFact_79 rfl (lv_at hl 1 rfl) ?_
          refine xk_iconst hx hb dX0_runFact_80 ?_
          obtain ⟨v10, ev10, hf⟩ := x_bind hf
          refine xc_ri (As := [.int (iI p0), .int (iI 0)]) (rest := [.ref (a 1)]) ⟨hx, hb, hml, hown, hts⟩ (c0_parcelAt l dC dI cs a b p0 0  _ ev10) (cwV 2 hts gX0_runFact_X0_parcelAt rfl rfl rfl cdX0_parcelAt ⟨Nat.le_of_ble_eq_true rfl, Nat.le_of_ble_eq_true rfl⟩) hK hP [0, 1, 2, 3, 4, 5, 6, 7, 8, 9, 10, 11, 12, 13, 14] rfl 0 rfl rfl rfl hl.1 rfl (Nat.le_of_ble_eq_true rfl) dX0_runFact_81 ⟨Nat.zero_le _, Nat.zero_le _⟩ ?_
          obtain ⟨v11, ev11, hf⟩ := x_bind hf
          refine xc_ri (As := [.int (iI v10)]) (rest := []) ⟨hx, hb, hml, hown, hts⟩ (c2_get l dC dI cs (a 1) (a 8) 120 (g0_keys b) v10 (by decide) _ ev11) (cwV 1 hts gX0_runFact_X2_get rfl rfl rfl cdX2_get ⟨Nat.le_of_ble_eq_true rfl, Nat.le_of_ble_eq_true rfl⟩) hK hP [1, 8] rfl 1 rfl rfl rfl hl.1 rfl (Nat.le_of_ble_eq_true rfl) dX0_runFact_84 ⟨Nat.zero_le _, Nat.zero_le _⟩ ?_
          obtain rfl := Option.some.inj hf
          exact xe_ri hx hb hr hlocks dX0_runFact_87 rfl
        · have hf := c9f c9
          obtain ⟨c12a, c12b, c12t, c12f⟩ := x_eqE hf
          by_cases c12 : p1 = 4
          · have hf := c12t c12
            refine xk_tabIn (tgt := 88) hx hb c12a c12 dX0_runFact_1 (by decide) rfl (by decide) ?_
            refine lv_aload_n hx hb dX0_runFact_88 rfl (lv_at hl 0 rfl) ?_
            refine va_get (D := (dC, dI)) (ci := 0) (v := .ref (a 1)) (C := RX0) (T := TX0) (N := 14) hx hb hts hin0 hown hK hP 0 rfl rfl 1 (by decide) (hts (.fieldLink RX0 23 "BoatRuns$Boat" "keys" "LBoatRuns$Row;") (by decide +kernel)) (fun _ h9 => h9) rfl dX0_runFact_89 ?_
            refine lv_aload_n hx hb dX0_runFact_92 rfl (lv_at hl 0 rfl) ?_
            refine lv_iload_n hx hb dX0_runFact_93 rfl (lv_at hl 1 rfl) ?_
            obtain ⟨v13, ev13, hf⟩ := x_bind hf
            refine xc_ri (As := [.int (iI p0)]) (rest := [.ref (a 1)]) ⟨hx, hb, hml, hown, hts⟩ (c0_lastAt l dC dI cs a b p0  _ ev13) (cwV 1 hts gX0_runFact_X0_lastAt rfl rfl rfl cdX0_lastAt ⟨Nat.le_of_ble_eq_true rfl, Nat.le_of_ble_eq_true rfl⟩) hK hP [0, 1, 2, 3, 4, 5, 6, 7, 8, 9, 10, 11, 12, 13, 14] rfl 0 rfl rfl rfl hl.1 rfl (Nat.le_of_ble_eq_true rfl) dX0_runFact_94 ⟨Nat.zero_le _, Nat.zero_le _⟩ ?_
            obtain ⟨v14, ev14, hf⟩ := x_bind hf
            refine xc_ri (As := [.int (iI v13)]) (rest := []) ⟨hx, hb, hml, hown, hts⟩ (c2_get l dC dI cs (a 1) (a 8) 120 (g0_keys b) v13 (by decide) _ ev14) (cwV 1 hts gX0_runFact_X2_get rfl rfl rfl cdX2_get ⟨Nat.le_of_ble_eq_true rfl, Nat.le_of_ble_eq_true rfl⟩) hK hP [1, 8] rfl 1 rfl rfl rfl hl.1 rfl (Nat.le_of_ble_eq_true rfl) dX0_runFact_97 ⟨Nat.zero_le _, Nat.zero_le _⟩ ?_
            obtain rfl := Option.some.inj hf
            exact xe_ri hx hb hr hlocks dX0_runFact_100 rfl
          · have hf := c12f c12
            refine xk_tabOut (tgt := 101) hx hb c12a dX0_runFact_1 (by omega) (by decide) ?_
            refine lv_aload_n hx hb dX0_runFact_101 rfl (lv_at hl 0 rfl) ?_
            refine va_get (D := (dC, dI)) (ci := 0) (v := .int (iI (g0_opn b))) (C := RX0) (T := TX0) (N := 14) hx hb hts hin0 hown hK hP 0 rfl rfl 8 (by decide) (hts (.fieldLink RX0 15 "BoatRuns$Boat" "open" "I") (by decide +kernel)) (fun _ h9 => h9) rfl dX0_runFact_102 ?_
            refine lv_iload_n hx hb dX0_runFact_105 rfl (lv_at hl 1 rfl) ?_
            obtain ⟨c15a, c15b, c15t, c15f⟩ := x_eqE hf
            refine xk_icmp_ne (tgt := 113) hx hb c15a c15b dX0_runFact_106 (by decide) (fun c15 => ?_) (fun c15 => ?_)
            · have hf := c15t c15
              refine xk_iconst hx hb dX0_runFact_109 ?_
              refine lv_goto (tgt := 114) hx hb dX0_runFact_110 (by decide) ?_
              obtain rfl := Option.some.inj hf
              exact xe_ri hx hb hr hlocks dX0_runFact_114 rfl
            · have hf := c15f c15
              refine xk_iconst hx hb dX0_runFact_113 ?_
              obtain rfl := Option.some.inj hf
              exact xe_ri hx hb hr hlocks dX0_runFact_114 rfl
theorem cdX0_runFact : yX0_runFact.cls = RX0 ∧ yX0_runFact.cls ≠ "java/lang/invoke/MethodHandle" ∧ yX0_runFact.cls ≠ "java/lang/invoke/VarHandle" ∧ (parseMethodDescriptor yX0_runFact.desc).map (fun d => d.parameters.length) = some 2 := by decide +kernel

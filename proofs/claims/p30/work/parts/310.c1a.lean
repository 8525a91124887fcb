set_option maxHeartbeats 4000000 in
set_option maxRecDepth 100000 in
theorem c1_save (l : Launch) (dC : Nat → ClassId) (dI : Nat → Nat → Nat) (cs : Nat → ClassId) (a : Nat → Nat) (aq : Nat → Nat) (sz : Nat) (h : HisS) (o : BoatS) (res : HisS) (hf : f1_save h o = some res) : Met l yX1_save wsX1_save ({ frames := 3, cells := 0, slots := 0, locals := 57 } : Room) (va_Pc [.ref (a 0), .ref (aq 0)] (xPW (dC, dI) vwCl ((w1 cs a h ++ [w0 cs aq o]).flatten) (xT cs) sz)) (xQv (dC, dI) vwCl ((w1 cs a h ++ [w0 cs aq o]).flatten) ((w1 cs a res ++ [w0 cs aq o]).flatten) sz) 0 0 (va_A ((w1 cs a h ++ [w0 cs aq o]).flatten) sz) := by
  refine Met.ofW (cc := cX1_save) (maxL := 3) (ret := none) (by decide) rfl ?_
  intro p e s m args below meth c s₁ B hml hv
  obtain ⟨rfl, hsz, hP, hK, hD0⟩ := hv
  have hx := B.exec
  have hb := B.bytes
  have hr := B.returns
  have hts := atoms_spec (ws := wsX1_save) B.pre
  have hown : s.vm.findClass RX1 = some m.cls := findClass_of_methodNamed B.named
  have hlocks := B.notSynchronized
  have hin1 : ∀ w ∈ wsX10, w ∈ wsX1_save := by decide +kernel
  subst hsz
  have hD := hD0.self (sz := s.heap.size)
  have hA : ∀ z9 : Nat, s.heap.size ≤ z9 → va_A ((w1 cs a h ++ [w0 cs aq o]).flatten) s.heap.size z9 := fun z9 h => Or.inr h
  have hS : va_S (va_A ((w1 cs a h ++ [w0 cs aq o]).flatten) s.heap.size) s.heap s.heap [] := va_S.rf
  have hl := lv_entry [.ref (a 0), .ref (aq 0)] (n := 3) (Nat.le_of_ble_eq_true rfl)
  rw [lg_entry_eq]
  generalize (lg_sl [.ref (a 0), .ref (aq 0)] ++ List.replicate (3 - (lg_sl [.ref (a 0), .ref (aq 0)]).length) Slot.unset).toArray = ls at hl ⊢
  have hl : lv_has ls 3 [(0, .ref (a 0)), (1, .ref (aq 0))] := hl
  unfold f1_save at hf
  refine lv_aload_n hx hb dX1_save_0 rfl (lv_at hl 0 rfl) ?_
  refine lv_aload_n hx hb dX1_save_1 rfl (lv_at hl 0 rfl) ?_
  refine va_get (D := (dC, dI)) (ci := 1) (v := .int (iI (g1_nxt h))) (C := RX1) (T := TX1) (N := 3) hx hb hts hin1 hown hK hP 0 rfl rfl 1 (by decide) (hts (.fieldLink RX1 22 "BoatRuns$History" "next" "I") (by decide +kernel)) (fun _ h9 => h9) rfl dX1_save_2 ?_
  obtain ⟨v1, ev1, hf⟩ := x_bind hf
  refine va_csq (W.runV (As := [.int (iI (g1_nxt h))]) (rest := []) ⟨hx, hb, hml, hown, hts⟩ (c1_placeAt l dC dI cs a h (g1_nxt h) _ ev1) (cwV 1 hts gX1_save_X1_placeAt rfl rfl rfl cdX1_placeAt ⟨Nat.le_of_ble_eq_true rfl, Nat.le_of_ble_eq_true rfl⟩) ⟨xPR_blind, va_recv hK hP (ci := 1) (q0 := 0) rfl rfl, fun U hU hW => ⟨rfl, by rw [hU]; exact x_pre6 (wcs := w1 cs a h) hP rfl, va_K.moved hW.alike hK⟩⟩ rfl rfl hl.1 rfl (lv_room (Nat.le_of_ble_eq_true rfl)) dX1_save_5 ⟨Nat.zero_le _, Nat.zero_le _⟩) (fun r9 hr9 => ?_)
  obtain ⟨c2a, c2b, c2t, c2f⟩ := x_eqE hf
  by_cases c2 : v1 = 0
  · have hf := c2t c2
    have hr9 : r9 = some (a 2) := by rw [hr9, c2]; rfl
    subst hr9
    refine lv_astore_n (lv' := [(2, .ref (a 2)), (0, .ref (a 0)), (1, .ref (aq 0))]) hx hb dX1_save_8 rfl hl (by decide) rfl (fun ls hl => ?_)
    refine lv_aload_n hx hb dX1_save_9 rfl (lv_at hl 0 rfl) ?_
    refine lv_ifnull hx hb dX1_save_10 ?_
    refine lv_aload_n hx hb dX1_save_13 rfl (lv_at hl 0 rfl) ?_
    refine lv_aload_n hx hb dX1_save_14 rfl (lv_at hl 2 rfl) ?_
    obtain ⟨b3, eb3, hf⟩ := x_bind hf
    refine xf_wv (As := [.ref (aq 0)]) (rest := []) (wcs := [w0 cs (x_sh a 2) (g1_h0 h)] ++ [w0 cs aq o]) (w1s := [w0 cs (x_sh a 2) b3] ++ [w0 cs aq o]) ⟨hx, hb, hml, hown, hts⟩ (c0_copy l dC dI cs (x_sh a 2) aq _ (g1_h0 h) o  _ eb3) (cwV 1 hts gX1_save_X0_copy rfl rfl rfl cdX0_copy ⟨Nat.le_of_ble_eq_true rfl, Nat.le_of_ble_eq_true rfl⟩) hK hP (x_addrF hD rfl) hS hA [2, 6] (by simp only [List.flatten_cons, List.flatten_nil, List.append_nil, List.cons_append, List.nil_append]) (by simp only [List.flatten_cons, List.flatten_nil, List.append_nil, List.cons_append, List.nil_append]) rfl (by decide) rfl rfl rfl rfl hl.1 rfl (Nat.le_of_ble_eq_true rfl) dX1_save_15 ⟨Nat.zero_le _, Nat.zero_le _⟩ (fun H locs hP hS => ?_)
    have hP : va_P (dC, dI) vwCl ((w1C cs a (g1_nxt h) (g1_cnt h) b3 (g1_h1 h) (g1_h2 h) (g1_h3 h) ++ [w0 cs aq o]).flatten) H := hP
    refine lv_aload_n hx hb dX1_save_18 rfl (lv_at hl 1 rfl) ?_
    refine lv_aload_n hx hb dX1_save_19 rfl (lv_at hl 1 rfl) ?_
    refine va_get (D := (dC, dI)) (ci := 1) (v := .int (iI (g1_nxt h))) (C := RX1) (T := TX1) (N := 3) hx hb hts hin1 hown hK hP 0 rfl rfl 1 (by decide) (hts (.fieldLink RX1 22 "BoatRuns$History" "next" "I") (by decide +kernel)) (fun _ h9 => h9) rfl dX1_save_20 ?_
    refine xk_iconst hx hb dX1_save_23 ?_
    refine xk_iadd hx hb dX1_save_24 ?_
    refine xk_iconst hx hb dX1_save_25 ?_
    obtain ⟨v4, ev4, hf⟩ := x_bind hf
    refine xk_irem hx hb ev4 dX1_save_26 ?_
    refine va_put (D := (dC, dI)) (ci := 1) (v := .int (iI v4)) (ty := .int) (C := RX1) (T := TX1) (N := 3) hx hb hts hin1 tyX1 tyX1_ok nmX1 hown hK hP (x_addrF hD rfl) hS 0 rfl rfl 1 (by decide) (hts (.fieldLink RX1 22 "BoatRuns$History" "next" "I") (by decide +kernel)) (fun _ h9 => h9) rfl (by decide +kernel) rfl rfl (Nat.le_of_ble_eq_true rfl) dX1_save_27 (fun H locs hP _ hS => ?_)
    have hP : va_P (dC, dI) vwCl ((w1C cs a v4 (g1_cnt h) b3 (g1_h1 h) (g1_h2 h) (g1_h3 h) ++ [w0 cs aq o]).flatten) H := hP
    refine lv_aload_n hx hb dX1_save_30 rfl (lv_at hl 1 rfl) ?_
    refine lv_aload_n hx hb dX1_save_31 rfl (lv_at hl 1 rfl) ?_
    refine va_get (D := (dC, dI)) (ci := 1) (v := .int (iI (g1_cnt h))) (C := RX1) (T := TX1) (N := 3) hx hb hts hin1 hown hK hP 0 rfl rfl 2 (by decide) (hts (.fieldLink RX1 18 "BoatRuns$History" "count" "I") (by decide +kernel)) (fun _ h9 => h9) rfl dX1_save_32 ?_
    refine xk_iconst hx hb dX1_save_35 ?_
    refine xk_iadd hx hb dX1_save_36 ?_
    refine xk_iconst hx hb dX1_save_37 ?_
    obtain ⟨v5, ev5, hf⟩ := x_bind hf
    refine xk_mmin hx hb (by rw [hml]; exact hl.1.symm) hown (hts (.methodLink RX1 33 Lib.Math.min.name) (by decide +kernel)) (hts (.static Lib.Math.min.name) (by decide +kernel)) (hts (.initialized "java/lang/Math") (by decide +kernel)) (hts (.code Lib.Math.min.name Lib.Math.min.code 2 (some .int)) (by decide +kernel)) (Nat.le_of_ble_eq_true rfl) (Nat.le_of_ble_eq_true rfl) (Nat.zero_le _) (Nat.zero_le _) ev5 dX1_save_38 ?_
    refine va_put (D := (dC, dI)) (ci := 1) (v := .int (iI v5)) (ty := .int) (C := RX1) (T := TX1) (N := 3) hx hb hts hin1 tyX1 tyX1_ok nmX1 hown hK hP (x_addrF hD rfl) hS 0 rfl rfl 2 (by decide) (hts (.fieldLink RX1 18 "BoatRuns$History" "count" "I") (by decide +kernel)) (fun _ h9 => h9) rfl (by decide +kernel) rfl rfl (Nat.le_of_ble_eq_true rfl) dX1_save_41 (fun H locs hP _ hS => ?_)
    have hP : va_P (dC, dI) vwCl ((w1C cs a v4 v5 b3 (g1_h1 h) (g1_h2 h) (g1_h3 h) ++ [w0 cs aq o]).flatten) H := hP
    obtain rfl := Option.some.inj hf
    exact xe_wv hx hb hr hlocks hS hP dX1_save_44
  · have hf := c2f c2
    obtain ⟨c6a, c6b, c6t, c6f⟩ := x_eqE hf
    by_cases c6 : v1 = 1
    · have hf := c6t c6
      have hr9 : r9 = some (a 17) := by rw [hr9, c6]; rfl
      subst hr9
      refine lv_astore_n (lv' := [(2, .ref (a 17)), (0, .ref (a 0)), (1, .ref (aq 0))]) hx hb dX1_save_8 rfl hl (by decide) rfl (fun ls hl => ?_)
      refine lv_aload_n hx hb dX1_save_9 rfl (lv_at hl 0 rfl) ?_
      refine lv_ifnull hx hb dX1_save_10 ?_
      refine lv_aload_n hx hb dX1_save_13 rfl (lv_at hl 0 rfl) ?_
      refine lv_aload_n hx hb dX1_save_14 rfl (lv_at hl 2 rfl) ?_
      obtain ⟨b7, eb7, hf⟩ := x_bind hf
      refine xf_wv (As := [.ref (aq 0)]) (rest := []) (wcs := [w0 cs (x_sh a 17) (g1_h1 h)] ++ [w0 cs aq o]) (w1s := [w0 cs (x_sh a 17) b7] ++ [w0 cs aq o]) ⟨hx, hb, hml, hown, hts⟩ (c0_copy l dC dI cs (x_sh a 17) aq _ (g1_h1 h) o  _ eb7) (cwV 1 hts gX1_save_X0_copy rfl rfl rfl cdX0_copy ⟨Nat.le_of_ble_eq_true rfl, Nat.le_of_ble_eq_true rfl⟩) hK hP (x_addrF hD rfl) hS hA [3, 6] (by simp only [List.flatten_cons, List.flatten_nil, List.append_nil, List.cons_append, List.nil_append]) (by simp only [List.flatten_cons, List.flatten_nil, List.append_nil, List.cons_append, List.nil_append]) rfl (by decide) rfl rfl rfl rfl hl.1 rfl (Nat.le_of_ble_eq_true rfl) dX1_save_15 ⟨Nat.zero_le _, Nat.zero_le _⟩ (fun H locs hP hS => ?_)
      have hP : va_P (dC, dI) vwCl ((w1C cs a (g1_nxt h) (g1_cnt h) (g1_h0 h) b7 (g1_h2 h) (g1_h3 h) ++ [w0 cs aq o]).flatten) H := hP
      refine lv_aload_n hx hb dX1_save_18 rfl (lv_at hl 1 rfl) ?_
      refine lv_aload_n hx hb dX1_save_19 rfl (lv_at hl 1 rfl) ?_
      refine va_get (D := (dC, dI)) (ci := 1) (v := .int (iI (g1_nxt h))) (C := RX1) (T := TX1) (N := 3) hx hb hts hin1 hown hK hP 0 rfl rfl 1 (by decide) (hts (.fieldLink RX1 22 "BoatRuns$History" "next" "I") (by decide +kernel)) (fun _ h9 => h9) rfl dX1_save_20 ?_
      refine xk_iconst hx hb dX1_save_23 ?_
      refine xk_iadd hx hb dX1_save_24 ?_
      refine xk_iconst hx hb dX1_save_25 ?_
      obtain ⟨v8, ev8, hf⟩ := x_bind hf
      refine xk_irem hx hb ev8 dX1_save_26 ?_
      refine va_put (D := (dC, dI)) (ci := 1) (v := .int (iI v8)) (ty := .int) (C := RX1) (T := TX1) (N := 3) hx hb hts hin1 tyX1 tyX1_ok nmX1 hown hK hP (x_addrF hD rfl) hS 0 rfl rfl 1 (by decide) (hts (.fieldLink RX1 22 "BoatRuns$History" "next" "I") (by decide +kernel)) (fun _ h9 => h9) rfl (by decide +kernel) rfl rfl (Nat.le_of_ble_eq_true rfl) dX1_save_27 (fun H locs hP _ hS => ?_)
      have hP : va_P (dC, dI) vwCl ((w1C cs a v8 (g1_cnt h) (g1_h0 h) b7 (g1_h2 h) (g1_h3 h) ++ [w0 cs aq o]).flatten) H := hP
      refine lv_aload_n hx hb dX1_save_30 rfl (lv_at hl 1 rfl) ?_
      refine lv_aload_n hx hb dX1_save_31 rfl (lv_at hl 1 rfl) ?_
      refine va_get (D := (dC, dI)) (ci := 1) (v := .int (iI (g1_cnt h))) (C := RX1) (T := TX1) (N := 3) hx hb hts hin1 hown hK hP 0 rfl rfl 2 (by decide) (hts (.fieldLink RX1 18 "BoatRuns$History" "count" "I") (by decide +kernel)) (fun _ h9 => h9) rfl dX1_save_32 ?_
      refine xk_iconst hx hb dX1_save_35 ?_
      refine xk_iadd hx hb dX1_save_36 ?_
      refine xk_iconst hx hb dX1_save_37 ?_
      obtain ⟨v9, ev9, hf⟩ := x_bind hf
      refine xk_mmin hx hb (by rw [hml]; exact hl.1.symm) hown (hts (.methodLink RX1 33 Lib.Math.min.name) (by decide +kernel)) (hts (.static Lib.Math.min.name) (by decide +kernel)) (hts (.initialized "java/lang/Math") (by decide +kernel)) (hts (.code Lib.Math.min.name Lib.Math.min.code 2 (some .int)) (by decide +kernel)) (Nat.le_of_ble_eq_true rfl) (Nat.le_of_ble_eq_true rfl) (Nat.zero_le _) (Nat.zero_le _) ev9 dX1_save_38 ?_
      refine va_put (D := (dC, dI)) (ci := 1) (v := .int (iI v9)) (ty := .int) (C := RX1) (T := TX1) (N := 3) hx hb hts hin1 tyX1 tyX1_ok nmX1 hown hK hP (x_addrF hD rfl) hS 0 rfl rfl 2 (by decide) (hts (.fieldLink RX1 18 "BoatRuns$History" "count" "I") (by decide +kernel)) (fun _ h9 => h9) rfl (by decide +kernel) rfl rfl (Nat.le_of_ble_eq_true rfl) dX1_save_41 (fun H locs hP _ hS => ?_)
      have hP : va_P (dC, dI) vwCl ((w1C cs a v8 v9 (g1_h0 h) b7 (g1_h2 h) (g1_h3 h) ++ [w0 cs aq o]).flatten) H := hP
      obtain rfl := Option.some.inj hf
      exact xe_wv hx hb hr hlocks hS hP dX1_save_44
    · have hf := c6f c6
      obtain ⟨c10a, c10b, c10t, c10f⟩ := x_eqE hf
      by_cases c10 : v1 = 2
      · have hf := c10t c10
        have hr9 : r9 = some (a 32) := by rw [hr9, c10]; rfl
        subst hr9
        refine lv_astore_n (lv' := [(2, .ref (a 32)), (0, .ref (a 0)), (1, .ref (aq 0))]) hx hb dX1_save_8 rfl hl (by decide) rfl (fun ls hl => ?_)
        refine lv_aload_n hx hb dX1_save_9 rfl (lv_at hl 0 rfl) ?_
        refine lv_ifnull hx hb dX1_save_10 ?_
        refine lv_aload_n hx hb dX1_save_13 rfl (lv_at hl 0 rfl) ?_
        refine lv_aload_n hx hb dX1_save_14 rfl (lv_at hl 2 rfl) ?_
        obtain ⟨b11, eb11, hf⟩ := x_bind hf
        refine xf_wv (As := [.ref (aq 0)]) (rest := []) (wcs := [w0 cs (x_sh a 32) (g1_h2 h)] ++ [w0 cs aq o]) (w1s := [w0 cs (x_sh a 32) b11] ++ [w0 cs aq o]) ⟨hx, hb, hml, hown, hts⟩ (c0_copy l dC dI cs (x_sh a 32) aq _ (g1_h2 h) o  _ eb11) (cwV 1 hts gX1_save_X0_copy rfl rfl rfl cdX0_copy ⟨Nat.le_of_ble_eq_true rfl, Nat.le_of_ble_eq_true rfl⟩) hK hP (x_addrF hD rfl) hS hA [4, 6] (by simp only [List.flatten_cons, List.flatten_nil, List.append_nil, List.cons_append, List.nil_append]) (by simp only [List.flatten_cons, List.flatten_nil, List.append_nil, List.cons_append, List.nil_append]) rfl (by decide) rfl rfl rfl rfl hl.1 rfl (Nat.le_of_ble_eq_true rfl) dX1_save_15 ⟨Nat.zero_le _, Nat.zero_le _⟩ (fun H locs hP hS => ?_)
        have hP : va_P (dC, dI) vwCl ((w1C cs a (g1_nxt h) (g1_cnt h) (g1_h0 h) (g1_h1 h) b11 (g1_h3 h) ++ [w0 cs aq o]).flatten) H := hP
        refine lv_aload_n hx hb dX1_save_18 rfl (lv_at hl 1 rfl) ?_
        refine lv_aload_n hx hb dX1_save_19 rfl (lv_at hl 1 rfl) ?_
        refine va_get (D := (dC, dI)) (ci := 1) (v := .int (iI (g1_nxt h))) (C := RX1) (T := TX1) (N := 3) hx hb hts hin1 hown hK hP 0 rfl rfl 1 (by decide) (hts (.fieldLink RX1 22 "BoatRuns$History" "next" "I") (by decide +kernel)) (fun _ h9 => h9) rfl dX1_save_20 ?_
        refine xk_iconst hx hb dX1_save_23 ?_
        refine xk_iadd hx hb dX1_save_24 ?_
        refine xk_iconst hx hb dX1_save_25 ?_
        obtain ⟨v12, ev12, hf⟩ := x_bind hf
        refine xk_irem hx hb ev12 dX1_save_26 ?_
        refine va_put (D := (dC, dI)) (ci := 1) (v := .int (iI v12)) (ty := .int) (C := RX1) (T := TX1) (N := 3) hx hb hts hin1 tyX1 tyX1_ok nmX1 hown hK hP (x_addrF hD rfl) hS 0 rfl rfl 1 (by decide) (hts (.fieldLink RX1 22 "BoatRuns$History" "next" "I") (by decide +kernel)) (fun _ h9 => h9) rfl (by decide +kernel) rfl rfl (Nat.le_of_ble_eq_true rfl) dX1_save_27 (fun H locs hP _ hS => ?_)
        have hP : va_P (dC, dI) vwCl ((w1C cs a v12 (g1_cnt h) (g1_h0 h) (g1_h1 h) b11 (g1_h3 h) ++ [w0 cs aq o]).flatten) H := hP
        refine lv_aload_n hx hb dX1_save_30 rfl (lv_at hl 1 rfl) ?_
        refine lv_aload_n hx hb dX1_save_31 rfl (lv_at hl 1 rfl) ?_
        refine va_get (D := (dC, dI)) (ci := 1) (v := .int (iI (g1_cnt h))) (C := RX1) (T := TX1) (N := 3) hx hb hts hin1 hown hK hP 0 rfl rfl 2 (by decide) (hts (.fieldLink RX1 18 "BoatRuns$History" "count" "I") (by decide +kernel)) (fun _ h9 => h9) rfl dX1_save_32 ?_
        refine xk_iconst hx hb dX1_save_35 ?_
        refine xk_iadd hx hb dX1_save_36 ?_
        refine xk_iconst hx hb dX1_save_37 ?_
        obtain ⟨v13, ev13, hf⟩ := x_bind hf
        refine xk_mmin hx hb (by rw [hml]; exact hl.1.symm) hown (hts (.methodLink RX1 33 Lib.Math.min.name) (by decide +kernel)) (hts (.static Lib.Math.min.name) (by decide +kernel)) (hts (.initialized "java/lang/Math") (by decide +kernel)) (hts (.code Lib.Math.min.name Lib.Math.min.code 2 (some .int)) (by decide +kernel)) (Nat.le_of_ble_eq_true rfl) (Nat.le_of_ble_eq_true rfl) (Nat.zero_le _) (Nat.zero_le _) ev13 dX1_save_38 ?_
        refine va_put (D := (dC, dI)) (ci := 1) (v := .int (iI v13)) (ty := .int) (C := RX1) (T := TX1) (N := 3) hx hb hts hin1 tyX1 tyX1_ok nmX1 hown hK hP (x_addrF hD rfl) hS 0 rfl rfl 2 (by decide) (hts (.fieldLink RX1 18 "BoatRuns$History" "count" "I") (by decide +kernel)) (fun _ h9 => h9) rfl (by decide +kernel) rfl rfl (Nat.le_of_ble_eq_true rfl) dX1_save_41 (fun H locs hP _ hS => ?_)
        have hP : va_P (dC, dI) vwCl ((w1C cs a v12 v13 (g1_h0 h) (g1_h1 h) b11 (g1_h3 h) ++ [w0 cs aq o]).flatten) H := hP
        obtain rfl := Option.some.inj hf
        exact xe_wv hx hb hr hlocks hS hP dX1_save_44
      · have hf := c10f c10
        obtain ⟨c14a, c14b, c14t, c14f⟩ := x_eqE hf
        by_cases c14 : v1 = 3
        · have hf := c14t c14
          have hr9 : r9 = some (a 47) := by rw [hr9, c14]; rfl
          subst hr9
          refine lv_astore_n (lv' := [(2, .ref (a 47)), (0, .ref (a 0)), (1, .ref (aq 0))]) hx hb dX1_save_8 rfl hl (by decide) rfl (fun ls hl => ?_)
          refine lv_aload_n hx hb dX1_save_9 rfl (lv_at hl 0 rfl) ?_
          refine lv_ifnull hx hb dX1_save_10 ?_
          refine lv_aload_n hx hb dX1_save_13 rfl (lv_at hl 0 rfl) ?_
          refine lv_aload_n hx hb dX1_save_14 rfl (lv_at hl 2 rfl) ?_
          obtain ⟨b15, eb15, hf⟩ := x_bind hf
          refine xf_wv (As := [.ref (aq 0)]) (rest := []) (wcs := [w0 cs (x_sh a 47) (g1_h3 h)] ++ [w0 cs aq o]) (w1s := [w0 cs (x_sh a 47) b15] ++ [w0 cs aq o]) ⟨hx, hb, hml, hown, hts⟩ (c0_copy l dC dI cs (x_sh a 47) aq _ (g1_h3 h) o  _ eb15) (cwV 1 hts gX1_save_X0_copy rfl rfl rfl cdX0_copy ⟨Nat.le_of_ble_eq_true rfl, Nat.le_of_ble_eq_true rfl⟩) hK hP (x_addrF hD rfl) hS hA [5, 6] (by simp only [List.flatten_cons, List.flatten_nil, List.append_nil, List.cons_append, List.nil_append]) (by simp only [List.flatten_cons, List.flatten_nil, List.append_nil, List.cons_append, List.nil_append]) rfl (by decide) rfl rfl rfl rfl hl.1 rfl (Nat.le_of_ble_eq_true rfl) dX1_save_15 ⟨Nat.zero_le _, Nat.zero_le _⟩ (fun H locs hP hS => ?_)
          have hP : va_P (dC, dI) vwCl ((w1C cs a (g1_nxt h) (g1_cnt h) (g1_h0 h) (g1_h1 h) (g1_h2 h) b15 ++ [w0 cs aq o]).flatten) H := hP
          refine lv_aload_n hx hb dX1_save_18 rfl (lv_at hl 1 rfl) ?_
          refine lv_aload_n hx hb dX1_save_19 rfl (lv_at hl 1 rfl) ?_
          refine va_get (D := (dC, dI)) (ci := 1) (v := .int (iI (g1_nxt h))) (C := RX1) (T := TX1) (N := 3) hx hb hts hin1 hown hK hP 0 rfl rfl 1 (by decide) (hts (.fieldLink RX1 22 "BoatRuns$History" "next" "I") (by decide +kernel)) (fun _ h9 => h9) rfl dX1_save_20 ?_
          refine xk_iconst hx hb dX1_save_23 ?_
          refine xk_iadd hx hb dX1_save_24 ?_
          refine xk_iconst hx hb dX1_save_25 ?_
          obtain ⟨v16, ev16, hf⟩ := x_bind hf
          refine xk_irem hx hb ev16 dX1_save_26 ?_
          refine va_put (D := (dC, dI)) (ci := 1) (v := .int (iI v16)) (ty := .int) (C := RX1) (T := TX1) (N := 3) hx hb hts hin1 tyX1 tyX1_ok nmX1 hown hK hP (x_addrF hD rfl) hS 0 rfl rfl 1 (by decide) (hts (.fieldLink RX1 22 "BoatRuns$History" "next" "I") (by decide +kernel)) (fun _ h9 => h9) rfl (by decide +kernel) rfl rfl (Nat.le_of_ble_eq_true rfl) dX1_save_27 (fun H locs hP _ hS => ?_)
          have hP : va_P (dC, dI) vwCl ((w1C cs a v16 (g1_cnt h) (g1_h0 h) (g1_h1 h) (g1_h2 h) b15 ++ [w0 cs aq o]).flatten) H := hP
          refine lv_aload_n hx hb dX1_save_30 rfl (lv_at hl 1 rfl) ?_
          refine lv_aload_n hx hb dX1_save_31 rfl (lv_at hl 1 rfl) ?_
          refine va_get (D := (dC, dI)) (ci := 1) (v := .int (iI (g1_cnt h))) (C := RX1) (T := TX1) (N := 3) hx hb hts hin1 hown hK hP 0 rfl rfl 2 (by decide) (hts (.fieldLink RX1 18 "BoatRuns$History" "count" "I") (by decide +kernel)) (fun _ h9 => h9) rfl dX1_save_32 ?_
          refine xk_iconst hx hb dX1_save_35 ?_
          refine xk_iadd hx hb dX1_save_36 ?_
          refine xk_iconst hx hb dX1_save_37 ?_
          obtain ⟨v17, ev17, hf⟩ := x_bind hf
          refine xk_mmin hx hb (by rw [hml]; exact hl.1.symm) hown (hts (.methodLink RX1 33 Lib.Math.min.name) (by decide +kernel)) (hts (.static Lib.Math.min.name) (by decide +kernel)) (hts (.initialized "java/lang/Math") (by decide +kernel)) (hts (.code Lib.Math.min.name Lib.Math.min.code 2 (some .int)) (by decide +kernel)) (Nat.le_of_ble_eq_true rfl) (Nat.le_of_ble_eq_true rfl) (Nat.zero_le _) (Nat.zero_le _) ev17 dX1_save_38 ?_
          refine va_put (D := (dC, dI)) (ci := 1) (v := .int (iI v17)) (ty := .int) (C := RX1) (T := TX1) (N := 3) hx hb hts hin1 tyX1 tyX1_ok nmX1 hown hK hP (x_addrF hD rfl) hS 0 rfl rfl 2 (by decide) (hts (.fieldLink RX1 18 "BoatRuns$History" "count" "I") (by decide +kernel)) (fun _ h9 => h9) rfl (by decide +kernel) rfl rfl (Nat.le_of_ble_eq_true rfl) dX1_save_41 (fun H locs hP _ hS => ?_)
          have hP : va_P (dC, dI) vwCl ((w1C cs a v16 v17 (g1_h0 h) (g1_h1 h) (g1_h2 h) b15 ++ [w0 cs aq o]).flatten) H := hP
          obtain rfl := Option.some.inj hf
          exact xe_wv hx hb hr hlocks hS hP dX1_save_44
        · have hf := c14f c14
          have hr9 : r9 = none := by rw [hr9]; unfold x_hp; rw [if_neg c2, if_neg c6, if_neg c10, if_neg c14]
          subst hr9
          refine lv_astore_nN (lv' := [(2, .null), (0, .ref (a 0)), (1, .ref (aq 0))]) hx hb dX1_save_8 rfl hl (by decide) rfl (fun ls hl => ?_)
          refine lv_aload_nN hx hb dX1_save_9 rfl (lv_at hl 0 rfl) ?_
          refine lv_ifnullN (tgt := 44) hx hb dX1_save_10 (by decide) ?_
          obtain rfl := Option.some.inj hf
          exact xe_wv hx hb hr hlocks hS hP dX1_save_44
theorem cdX1_save : yX1_save.cls = RX1 ∧ yX1_save.cls ≠ "java/lang/invoke/MethodHandle" ∧ yX1_save.cls ≠ "java/lang/invoke/VarHandle" ∧ (parseMethodDescriptor yX1_save.desc).map (fun d => d.parameters.length) = some 1 := by decide +kernel

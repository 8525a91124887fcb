set_option maxHeartbeats 4000000 in
set_option maxRecDepth 100000 in
theorem kL_tighten (l : Launch) (hlS : l.stackTraces = false) (dC : Nat → ClassId) (dI : Nat → Nat → Nat) (cs : Nat → ClassId) (ao : Nat) (a : Nat → Nat) (sz : Nat) (vo : Int → Int) (y : BrS) (p1 : Int) (res : Int × (Int → Int) × BrS) (hf : fL_tighten vo y p1 = some res) : Met l yL_tighten wsL_tighten ({ frames := 7, cells := 1, slots := 6, locals := 103 } : Room) (va_Pc [.ref (a 0), .int (iI p1), .ref ao] (xPL (dC, dI) vwCl (([[qcC cs ao 1 vo]] ++ w4 cs a y).flatten) (xT cs) sz)) (xQi (dC, dI) vwCl (([[qcC cs ao 1 vo]] ++ w4 cs a y).flatten) (([[qcC cs ao 1 res.2.1]] ++ w4 cs a res.2.2).flatten) sz res.1) 1 6 (va_A (([[qcC cs ao 1 vo]] ++ w4 cs a y).flatten) sz) := by
  refine x_ofWH (cc := cL_tighten) (maxL := 4) (ret := some .int) (hh := [(0, 8, 11, 72)]) (by decide) rfl ?_
  intro p e s m args below meth c s₁ B hml htab hv
  obtain ⟨rfl, ⟨⟨hsz, hP, hK, hD0⟩, hTh⟩, hN⟩ := hv
  have hx := B.exec
  have hb := B.bytes
  have hr := B.returns
  have hts := atoms_spec (ws := wsL_tighten) B.pre
  have hown : s.vm.findClass RL = some m.cls := findClass_of_methodNamed B.named
  have hlocks := B.notSynchronized
  subst hsz
  have hD := hD0.self (sz := s.heap.size)
  have hA : ∀ z9 : Nat, s.heap.size ≤ z9 → va_A (([[qcC cs ao 1 vo]] ++ w4 cs a y).flatten) s.heap.size z9 := fun z9 h => Or.inr h
  have hS : va_S (va_A (([[qcC cs ao 1 vo]] ++ w4 cs a y).flatten) s.heap.size) s.heap s.heap [] := va_S.rf
  have hl := lv_entry [.ref (a 0), .int (iI p1), .ref ao] (n := 4) (Nat.le_of_ble_eq_true rfl)
  rw [lg_entry_eq]
  generalize (lg_sl [.ref (a 0), .int (iI p1), .ref ao] ++ List.replicate (4 - (lg_sl [.ref (a 0), .int (iI p1), .ref ao]).length) Slot.unset).toArray = ls at hl ⊢
  have hl : lv_has ls 4 [(0, .ref (a 0)), (1, .int (iI p1)), (2, .ref ao)] := hl
  unfold fL_tighten at hf
  refine lv_aload_n hx hb dL_tighten_0 rfl (lv_at hl 2 rfl) ?_
  refine xk_iconst hx hb dL_tighten_1 ?_
  refine lv_aload_n hx hb dL_tighten_2 rfl (lv_at hl 0 rfl) ?_
  refine lv_iload_n hx hb dL_tighten_3 rfl (lv_at hl 1 rfl) ?_
  obtain ⟨⟨c9, v9, y9⟩, e9, hf⟩ := x_bind hf
  obtain ⟨ca, cb, ct, cf⟩ := x_eqE hf
  refine xf_xi (As := [.int (iI p1)]) (rest := [.int (iI 0), .ref ao]) (wcs := w4 cs a y) (w1s := w4 cs a y9) ⟨hx, hb, hml, hown, hts⟩ (c4_tighten l hlS dC dI cs a _ y p1 _ e9) (cwV 1 hts gL_tighten_X4_tighten rfl rfl rfl cdX4_tighten ⟨Nat.le_of_ble_eq_true rfl, Nat.le_of_ble_eq_true rfl⟩) hK hP hD hS hA hTh [1, 2, 3, 4, 5, 6, 7, 8, 9, 10] rfl rfl rfl (by decide) rfl rfl rfl rfl hl.1 rfl (Nat.le_of_ble_eq_true rfl) dL_tighten_4 ⟨Nat.le_of_ble_eq_true rfl, Nat.le_of_ble_eq_true rfl⟩ (fun hk H locs hP hS => ?_) (fun hk H locs q9 ce hP hS hce hcv hcl => ?_)
  · have hf := ct hk
    have hP : va_P (dC, dI) vwCl (([[qcC cs ao 1 vo]] ++ w4 cs a y9).flatten) H := hP
    have hD : va_D (va_A (([[qcC cs ao 1 vo]] ++ w4 cs a y).flatten) s.heap.size) (([[qcC cs ao 1 vo]] ++ w4 cs a y9).flatten) := x_addrF hD rfl
    refine xk_iast (f := vo) hx hb hK hP hD hS 0 0 (z_stT0 (by decide) (by decide)) (by decide) rfl rfl dL_tighten_7 (fun H locs hP hS => ?_)
    have hP : va_P (dC, dI) vwCl (([[qcC cs ao 1 (x_up vo 0 v9)]] ++ w4 cs a y9).flatten) H := hP
    refine lv_goto (tgt := 14) hx hb dL_tighten_8 (by decide) ?_
    refine xk_iconst hx hb dL_tighten_14 ?_
    obtain rfl := Option.some.inj hf
    exact xe_wi hx hb hr hlocks hS hP dL_tighten_15
  · have hf := cf hk
    obtain ⟨c0a, c0b, c0t, c0f⟩ := x_eqE hf
    by_cases c0 : c9 = 3
    · have hf := c0t c0
      obtain rfl := Option.some.inj hf
      have hE : x_cl c9 = "java/util/NoSuchElementException" := by rw [c0]; rfl
      rw [hE] at hcl
      refine vx_catch (own := RL) (name := "java/util/NoSuchElementException") hown [] ⟨0, 8, 11, 72⟩ [] (htab.trans rfl) (fun z hz => by cases hz) (by decide) (by decide) (hts (.classLink RL 72 "java/util/NoSuchElementException") (by decide +kernel)) (va_Nw.use (w := .castable "java/util/NoSuchElementException" "java/util/NoSuchElementException") rfl (hTh.1 _ (by decide))) hce hcv hcl ?_
      refine W.eq (g2 := F0 m 11 ls [.ref q9]) rfl ?_
      refine lv_astore_n (lv' := [(3, .ref q9), (0, .ref (a 0)), (1, .int (iI p1)), (2, .ref ao)]) hx hb dL_tighten_11 rfl hl (by decide) rfl (fun ls hl => ?_)
      refine xk_iconst hx hb dL_tighten_12 ?_
      exact xe_wi hx hb hr hlocks hS hP dL_tighten_13
    · have hf := c0f c0
      cases hf
theorem cdL_tighten : yL_tighten.cls ≠ "java/lang/invoke/MethodHandle" ∧ yL_tighten.cls ≠ "java/lang/invoke/VarHandle" ∧ (parseMethodDescriptor yL_tighten.desc).map (fun d => d.parameters.length) = some 3 := by decide +kernel

set_option maxHeartbeats 4000000 in
set_option maxRecDepth 100000 in
theorem kL_land (l : Launch) (hlS : l.stackTraces = false) (dC : Nat → ClassId) (dI : Nat → Nat → Nat) (cs : Nat → ClassId) (ao : Nat) (a : Nat → Nat) (sz : Nat) (vo : Int → Int) (y : BrS) (p1 : Int) (res : Int × (Int → Int) × BrS) (hf : fL_land vo y p1 = some res) : Met l yL_land wsL_land ({ frames := 7, cells := 1, slots := 6, locals := 103 } : Room) (va_Pc [.ref (a 0), .int (iI p1), .ref ao] (xPL (dC, dI) vwCl (([[qcC cs ao 1 vo]] ++ w4 cs a y).flatten) (xT cs) sz)) (xQi (dC, dI) vwCl (([[qcC cs ao 1 vo]] ++ w4 cs a y).flatten) (([[qcC cs ao 1 res.2.1]] ++ w4 cs a res.2.2).flatten) sz res.1) 1 6 (va_A (([[qcC cs ao 1 vo]] ++ w4 cs a y).flatten) sz) := by
  refine x_ofWH (cc := cL_land) (maxL := 4) (ret := some .int) (hh := [(0, 8, 11, 72), (0, 8, 14, 67)]) (by decide) rfl ?_
  intro p e s m args below meth c s₁ B hml htab hv
  obtain ⟨rfl, ⟨⟨hsz, hP, hK, hD0⟩, hTh⟩, hN⟩ := hv
  have hx := B.exec
  have hb := B.bytes
  have hr := B.returns
  have hts := atoms_spec (ws := wsL_land) B.pre
  have hown : s.vm.findClass RL = some m.cls := findClass_of_methodNamed B.named
  have hlocks := B.notSynchronized
  subst hsz
  have hD := hD0.self (sz := s.heap.size)
  have hA : ∀ z9 : Nat, s.heap.size ≤ z9 → va_A (([[qcC cs ao 1 vo]] ++ w4 cs a y).flatten) s.heap.size z9 := fun z9 h => Or.inr h
  have hS : va_S (va_A (([[qcC cs ao 1 vo]] ++ w4 cs a y).flatten) s.heap.size) s.heap s.heap [] := va_S.rf
  have hl := lv_entry [.ref (a 0), .int (iI p1), .ref ao] (n := 4) (Nat.le_of_ble_eq_true rfl)
  rw [lg_entry_eq]
  generalize (lg_sl [.ref (a 0), .int (iI p1), .ref ao] ++ List.replicate (4 - (lg_sl [.ref (a 0), .int (iI p1), .ref ao]).length) Slot.unset).toArray = ls at hl ⊢
  have hl : lv_has ls 4 [(0, .ref (a 0)), (1, .int (iI p1)), (2, .ref ao)] := hl
  unfold fL_land at hf
  refine lv_aload_n hx hb dL_land_0 rfl (lv_at hl 2 rfl) ?_
  refine xk_iconst hx hb dL_land_1 ?_
  refine lv_aload_n hx hb dL_land_2 rfl (lv_at hl 0 rfl) ?_
  refine lv_iload_n hx hb dL_land_3 rfl (lv_at hl 1 rfl) ?_
  obtain ⟨⟨c9, v9, y9⟩, e9, hf⟩ := x_bind hf
  obtain ⟨ca, cb, ct, cf⟩ := x_eqE hf
  refine xf_xi (As := [.int (iI p1)]) (rest := [.int (iI 0), .ref ao]) (wcs := w4 cs a y) (w1s := w4 cs a y9) ⟨hx, hb, hml, hown, hts⟩ (c4_land l hlS dC dI cs a _ y p1 _ e9) (cwV 1 hts gL_land_X4_land rfl rfl rfl cdX4_land ⟨Nat.le_of_ble_eq_true rfl, Nat.le_of_ble_eq_true rfl⟩) hK hP hD hS hA hTh [1, 2, 3, 4, 5, 6, 7, 8, 9, 10] rfl rfl rfl (by decide) rfl rfl rfl rfl hl.1 rfl (Nat.le_of_ble_eq_true rfl) dL_land_4 ⟨Nat.le_of_ble_eq_true rfl, Nat.le_of_ble_eq_true rfl⟩ (fun hk H locs hP hS => ?_) (fun hk H locs q9 ce hP hS hce hcv hcl => ?_)
  · have hf := ct hk
    have hP : va_P (dC, dI) vwCl (([[qcC cs ao 1 vo]] ++ w4 cs a y9).flatten) H := hP
    have hD : va_D (va_A (([[qcC cs ao 1 vo]] ++ w4 cs a y).flatten) s.heap.size) (([[qcC cs ao 1 vo]] ++ w4 cs a y9).flatten) := x_addrF hD rfl
    refine xk_iast (f := vo) hx hb hK hP hD hS 0 0 (z_stT0 (by decide) (by decide)) (by decide) rfl rfl dL_land_7 (fun H locs hP hS => ?_)
    have hP : va_P (dC, dI) vwCl (([[qcC cs ao 1 (x_up vo 0 v9)]] ++ w4 cs a y9).flatten) H := hP
    refine lv_goto (tgt := 17) hx hb dL_land_8 (by decide) ?_
    refine xk_iconst hx hb dL_land_17 ?_
    obtain rfl := Option.some.inj hf
    exact xe_wi hx hb hr hlocks hS hP dL_land_18
  · have hf := cf hk
    obtain ⟨c0a, c0b, c0t, c0f⟩ := x_eqE hf
    by_cases c0 : c9 = 3
    · have hf := c0t c0
      obtain rfl := Option.some.inj hf
      have hE : x_cl c9 = "java/util/NoSuchElementException" := by rw [c0]; rfl
      rw [hE] at hcl
      refine vx_catch (own := RL) (name := "java/util/NoSuchElementException") hown [] ⟨0, 8, 11, 72⟩ [⟨0, 8, 14, 67⟩] (htab.trans rfl) (fun z hz => by cases hz) (by decide) (by decide) (hts (.classLink RL 72 "java/util/NoSuchElementException") (by decide +kernel)) (va_Nw.use (w := .castable "java/util/NoSuchElementException" "java/util/NoSuchElementException") rfl (hTh.1 _ (by decide))) hce hcv hcl ?_
      refine W.eq (g2 := F0 m 11 ls [.ref q9]) rfl ?_
      refine lv_astore_n (lv' := [(3, .ref q9), (0, .ref (a 0)), (1, .int (iI p1)), (2, .ref ao)]) hx hb dL_land_11 rfl hl (by decide) rfl (fun ls hl => ?_)
      refine xk_iconst hx hb dL_land_12 ?_
      exact xe_wi hx hb hr hlocks hS hP dL_land_13
    · have hf := c0f c0
      obtain ⟨c1a, c1b, c1t, c1f⟩ := x_eqE hf
      by_cases c1 : c9 = 2
      · have hf := c1t c1
        obtain rfl := Option.some.inj hf
        have hE : x_cl c9 = "java/lang/IllegalStateException" := by rw [c1]; rfl
        rw [hE] at hcl
        refine vx_catch (own := RL) (name := "java/lang/IllegalStateException") hown [⟨0, 8, 11, 72⟩] ⟨0, 8, 14, 67⟩ [] (htab.trans rfl) (fun z hz => by rcases List.mem_singleton.mp hz with rfl; exact Or.inr ⟨by decide, "java/util/NoSuchElementException", hts (.classLink RL 72 "java/util/NoSuchElementException") (by decide +kernel), hN ("java/lang/IllegalStateException", "java/util/NoSuchElementException") (by decide)⟩) (by decide) (by decide) (hts (.classLink RL 67 "java/lang/IllegalStateException") (by decide +kernel)) (va_Nw.use (w := .castable "java/lang/IllegalStateException" "java/lang/IllegalStateException") rfl (hTh.1 _ (by decide))) hce hcv hcl ?_
        refine W.eq (g2 := F0 m 14 ls [.ref q9]) rfl ?_
        refine lv_astore_n (lv' := [(3, .ref q9), (0, .ref (a 0)), (1, .int (iI p1)), (2, .ref ao)]) hx hb dL_land_14 rfl hl (by decide) rfl (fun ls hl => ?_)
        refine xk_iconst hx hb dL_land_15 ?_
        exact xe_wi hx hb hr hlocks hS hP dL_land_16
      · have hf := c1f c1
        cases hf
theorem cdL_land : yL_land.cls ≠ "java/lang/invoke/MethodHandle" ∧ yL_land.cls ≠ "java/lang/invoke/VarHandle" ∧ (parseMethodDescriptor yL_land.desc).map (fun d => d.parameters.length) = some 3 := by decide +kernel

set_option maxHeartbeats 4000000 in
set_option maxRecDepth 100000 in
theorem kL_inRun (l : Launch) (hlS : l.stackTraces = false) (dC : Nat → ClassId) (dI : Nat → Nat → Nat) (cs : Nat → ClassId) (ao : Nat) (a : Nat → Nat) (sz : Nat) (vo : Int → Int) (y : BrS) (p1 : Int) (p2 : Int) (res : Int × (Int → Int) × BrS) (hf : fL_inRun vo y p1 p2 = some res) : Met l yL_inRun wsL_inRun ({ frames := 7, cells := 1, slots := 6, locals := 104 } : Room) (va_Pc [.ref (a 0), .int (iI p1), .int (iI p2), .ref ao] (xPL (dC, dI) vwCl (([[qcC cs ao 1 vo]] ++ w4 cs a y).flatten) (xT cs) sz)) (xQi (dC, dI) vwCl (([[qcC cs ao 1 vo]] ++ w4 cs a y).flatten) (([[qcC cs ao 1 res.2.1]] ++ w4 cs a res.2.2).flatten) sz res.1) 1 6 (va_A (([[qcC cs ao 1 vo]] ++ w4 cs a y).flatten) sz) := by
  refine x_ofWH (cc := cL_inRun) (maxL := 5) (ret := some .int) (hh := [(0, 9, 12, 72), (0, 9, 16, 91)]) (by decide) rfl ?_
  intro p e s m args below meth c s₁ B hml htab hv
  obtain ⟨rfl, ⟨⟨hsz, hP, hK, hD0⟩, hTh⟩, hN⟩ := hv
  have hx := B.exec
  have hb := B.bytes
  have hr := B.returns
  have hts := atoms_spec (ws := wsL_inRun) B.pre
  have hown : s.vm.findClass RL = some m.cls := findClass_of_methodNamed B.named
  have hlocks := B.notSynchronized
  subst hsz
  have hD := hD0.self (sz := s.heap.size)
  have hA : ∀ z9 : Nat, s.heap.size ≤ z9 → va_A (([[qcC cs ao 1 vo]] ++ w4 cs a y).flatten) s.heap.size z9 := fun z9 h => Or.inr h
  have hS : va_S (va_A (([[qcC cs ao 1 vo]] ++ w4 cs a y).flatten) s.heap.size) s.heap s.heap [] := va_S.rf
  have hl := lv_entry [.ref (a 0), .int (iI p1), .int (iI p2), .ref ao] (n := 5) (Nat.le_of_ble_eq_true rfl)
  rw [lg_entry_eq]
  generalize (lg_sl [.ref (a 0), .int (iI p1), .int (iI p2), .ref ao] ++ List.replicate (5 - (lg_sl [.ref (a 0), .int (iI p1), .int (iI p2), .ref ao]).length) Slot.unset).toArray = ls at hl ⊢
  have hl : lv_has ls 5 [(0, .ref (a 0)), (1, .int (iI p1)), (2, .int (iI p2)), (3, .ref ao)] := hl
  unfold fL_inRun at hf
  refine lv_aload_n hx hb dL_inRun_0 rfl (lv_at hl 3 rfl) ?_
  refine xk_iconst hx hb dL_inRun_1 ?_
  refine lv_aload_n hx hb dL_inRun_2 rfl (lv_at hl 0 rfl) ?_
  refine lv_iload_n hx hb dL_inRun_3 rfl (lv_at hl 1 rfl) ?_
  refine lv_iload_n hx hb dL_inRun_4 rfl (lv_at hl 2 rfl) ?_
  obtain ⟨⟨c9, v9, y9⟩, e9, hf⟩ := x_bind hf
  obtain ⟨ca, cb, ct, cf⟩ := x_eqE hf
  refine xf_xi (As := [.int (iI p1), .int (iI p2)]) (rest := [.int (iI 0), .ref ao]) (wcs := w4 cs a y) (w1s := w4 cs a y9) ⟨hx, hb, hml, hown, hts⟩ (c4_inRun l hlS dC dI cs a _ y p1 p2 _ e9) (cwV 2 hts gL_inRun_X4_inRun rfl rfl rfl cdX4_inRun ⟨Nat.le_of_ble_eq_true rfl, Nat.le_of_ble_eq_true rfl⟩) hK hP hD hS hA hTh [1, 2, 3, 4, 5, 6, 7, 8, 9, 10] rfl rfl rfl (by decide) rfl rfl rfl rfl hl.1 rfl (Nat.le_of_ble_eq_true rfl) dL_inRun_5 ⟨Nat.le_of_ble_eq_true rfl, Nat.le_of_ble_eq_true rfl⟩ (fun hk H locs hP hS => ?_) (fun hk H locs q9 ce hP hS hce hcv hcl => ?_)
  · have hf := ct hk
    have hP : va_P (dC, dI) vwCl (([[qcC cs ao 1 vo]] ++ w4 cs a y9).flatten) H := hP
    have hD : va_D (va_A (([[qcC cs ao 1 vo]] ++ w4 cs a y).flatten) s.heap.size) (([[qcC cs ao 1 vo]] ++ w4 cs a y9).flatten) := x_addrF hD rfl
    refine xk_iast (f := vo) hx hb hK hP hD hS 0 0 (z_stT0 (by decide) (by decide)) (by decide) rfl rfl dL_inRun_8 (fun H locs hP hS => ?_)
    have hP : va_P (dC, dI) vwCl (([[qcC cs ao 1 (x_up vo 0 v9)]] ++ w4 cs a y9).flatten) H := hP
    refine lv_goto (tgt := 20) hx hb dL_inRun_9 (by decide) ?_
    refine xk_iconst hx hb dL_inRun_20 ?_
    obtain rfl := Option.some.inj hf
    exact xe_wi hx hb hr hlocks hS hP dL_inRun_21
  · have hf := cf hk
    obtain ⟨c0a, c0b, c0t, c0f⟩ := x_eqE hf
    by_cases c0 : c9 = 3
    · have hf := c0t c0
      obtain rfl := Option.some.inj hf
      have hE : x_cl c9 = "java/util/NoSuchElementException" := by rw [c0]; rfl
      rw [hE] at hcl
      refine vx_catch (own := RL) (name := "java/util/NoSuchElementException") hown [] ⟨0, 9, 12, 72⟩ [⟨0, 9, 16, 91⟩] (htab.trans rfl) (fun z hz => by cases hz) (by decide) (by decide) (hts (.classLink RL 72 "java/util/NoSuchElementException") (by decide +kernel)) (va_Nw.use (w := .castable "java/util/NoSuchElementException" "java/util/NoSuchElementException") rfl (hTh.1 _ (by decide))) hce hcv hcl ?_
      refine W.eq (g2 := F0 m 12 ls [.ref q9]) rfl ?_
      refine lv_astore (lv' := [(4, .ref q9), (0, .ref (a 0)), (1, .int (iI p1)), (2, .int (iI p2)), (3, .ref ao)]) hx hb dL_inRun_12 hl (by decide) rfl (fun ls hl => ?_)
      refine xk_iconst hx hb dL_inRun_14 ?_
      exact xe_wi hx hb hr hlocks hS hP dL_inRun_15
    · have hf := c0f c0
      obtain ⟨c1a, c1b, c1t, c1f⟩ := x_eqE hf
      by_cases c1 : c9 = 4
      · have hf := c1t c1
        obtain rfl := Option.some.inj hf
        have hE : x_cl c9 = "java/lang/IndexOutOfBoundsException" := by rw [c1]; rfl
        rw [hE] at hcl
        refine vx_catch (own := RL) (name := "java/lang/IndexOutOfBoundsException") hown [⟨0, 9, 12, 72⟩] ⟨0, 9, 16, 91⟩ [] (htab.trans rfl) (fun z hz => by rcases List.mem_singleton.mp hz with rfl; exact Or.inr ⟨by decide, "java/util/NoSuchElementException", hts (.classLink RL 72 "java/util/NoSuchElementException") (by decide +kernel), hN ("java/lang/IndexOutOfBoundsException", "java/util/NoSuchElementException") (by decide)⟩) (by decide) (by decide) (hts (.classLink RL 91 "java/lang/IndexOutOfBoundsException") (by decide +kernel)) (va_Nw.use (w := .castable "java/lang/IndexOutOfBoundsException" "java/lang/IndexOutOfBoundsException") rfl (hTh.1 _ (by decide))) hce hcv hcl ?_
        refine W.eq (g2 := F0 m 16 ls [.ref q9]) rfl ?_
        refine lv_astore (lv' := [(4, .ref q9), (0, .ref (a 0)), (1, .int (iI p1)), (2, .int (iI p2)), (3, .ref ao)]) hx hb dL_inRun_16 hl (by decide) rfl (fun ls hl => ?_)
        refine xk_iconst hx hb dL_inRun_18 ?_
        exact xe_wi hx hb hr hlocks hS hP dL_inRun_19
      · have hf := c1f c1
        cases hf
theorem cdL_inRun : yL_inRun.cls ≠ "java/lang/invoke/MethodHandle" ∧ yL_inRun.cls ≠ "java/lang/invoke/VarHandle" ∧ (parseMethodDescriptor yL_inRun.desc).map (fun d => d.parameters.length) = some 4 := by decide +kernel

set_option maxHeartbeats 4000000 in
set_option maxRecDepth 100000 in
theorem kL_ashore (l : Launch) (hlS : l.stackTraces = false) (dC : Nat → ClassId) (dI : Nat → Nat → Nat) (cs : Nat → ClassId) (ao : Nat) (a : Nat → Nat) (sz : Nat) (vo : Int → Int) (y : BrS) (p1 : Int) (res : Int × (Int → Int) × BrS) (hf : fL_ashore vo y p1 = some res) : Met l yL_ashore wsL_ashore ({ frames := 7, cells := 1, slots := 6, locals := 103 } : Room) (va_Pc [.ref (a 0), .int (iI p1), .ref ao] (xPL (dC, dI) vwCl (([[qcC cs ao 1 vo]] ++ w4 cs a y).flatten) (xT cs) sz)) (xQi (dC, dI) vwCl (([[qcC cs ao 1 vo]] ++ w4 cs a y).flatten) (([[qcC cs ao 1 res.2.1]] ++ w4 cs a res.2.2).flatten) sz res.1) 1 6 (va_A (([[qcC cs ao 1 vo]] ++ w4 cs a y).flatten) sz) := by
  refine x_ofWH (cc := cL_ashore) (maxL := 4) (ret := some .int) (hh := [(0, 8, 11, 91)]) (by decide) rfl ?_
  intro p e s m args below meth c s₁ B hml htab hv
  obtain ⟨rfl, ⟨⟨hsz, hP, hK, hD0⟩, hTh⟩, hN⟩ := hv
  have hx := B.exec
  have hb := B.bytes
  have hr := B.returns
  have hts := atoms_spec (ws := wsL_ashore) B.pre
  have hown : s.vm.findClass RL = some m.cls := findClass_of_methodNamed B.named
  have hlocks := B.notSynchronized
  subst hsz
  have hD := hD0.self (sz := s.heap.size)
  have hA : ∀ z9 : Nat, s.heap.size ≤ z9 → va_A (([[qcC cs ao 1 vo]] ++ w4 cs a y).flatten) s.heap.size z9 := fun z9 h => Or.inr h
  have hS : va_S (va_A (([[qcC cs ao 1 vo]] ++ w4 cs a y).flatten) s.heap.size) s.heap s.heap [] := va_S.rf
  have hl := lv_entry [.ref (a 0), .int (iI p1), .ref ao] (n := 4) (Nat.le_of_ble_eq_true rfl)
  rw [lg_entry_eq]
  generalize (lg_sl [.ref (a 0), .int (iI p1), .ref ao] ++ List.replicate (4 - (lg_sl [.ref (a 0), .int (iI p1), .ref ao]).length) Slot.unset).toArray = ls at hl ⊢
  have hl : lv_has ls 4 [(0, .ref (a 0)), (1, .int (iI p1)), (2, .ref ao)] := hl
  unfold fL_ashore at hf
  refine lv_aload_n hx hb dL_ashore_0 rfl (lv_at hl 2 rfl) ?_
  refine xk_iconst hx hb dL_ashore_1 ?_
  refine lv_aload_n hx hb dL_ashore_2 rfl (lv_at hl 0 rfl) ?_
  refine lv_iload_n hx hb dL_ashore_3 rfl (lv_at hl 1 rfl) ?_
  obtain ⟨⟨c9, v9, y9⟩, e9, hf⟩ := x_bind hf
  obtain ⟨ca, cb, ct, cf⟩ := x_eqE hf
  refine xf_xi (As := [.int (iI p1)]) (rest := [.int (iI 0), .ref ao]) (wcs := w4 cs a y) (w1s := w4 cs a y9) ⟨hx, hb, hml, hown, hts⟩ (c4_ashore l hlS dC dI cs a _ y p1 _ e9) (cwV 1 hts gL_ashore_X4_ashore rfl rfl rfl cdX4_ashore ⟨Nat.le_of_ble_eq_true rfl, Nat.le_of_ble_eq_true rfl⟩) hK hP hD hS hA hTh [1, 2, 3, 4, 5, 6, 7, 8, 9, 10] rfl rfl rfl (by decide) rfl rfl rfl rfl hl.1 rfl (Nat.le_of_ble_eq_true rfl) dL_ashore_4 ⟨Nat.le_of_ble_eq_true rfl, Nat.le_of_ble_eq_true rfl⟩ (fun hk H locs hP hS => ?_) (fun hk H locs q9 ce hP hS hce hcv hcl => ?_)
  · have hf := ct hk
    have hP : va_P (dC, dI) vwCl (([[qcC cs ao 1 vo]] ++ w4 cs a y9).flatten) H := hP
    have hD : va_D (va_A (([[qcC cs ao 1 vo]] ++ w4 cs a y).flatten) s.heap.size) (([[qcC cs ao 1 vo]] ++ w4 cs a y9).flatten) := x_addrF hD rfl
    refine xk_iast (f := vo) hx hb hK hP hD hS 0 0 (z_stT0 (by decide) (by decide)) (by decide) rfl rfl dL_ashore_7 (fun H locs hP hS => ?_)
    have hP : va_P (dC, dI) vwCl (([[qcC cs ao 1 (x_up vo 0 v9)]] ++ w4 cs a y9).flatten) H := hP
    refine lv_goto (tgt := 14) hx hb dL_ashore_8 (by decide) ?_
    refine xk_iconst hx hb dL_ashore_14 ?_
    obtain rfl := Option.some.inj hf
    exact xe_wi hx hb hr hlocks hS hP dL_ashore_15
  · have hf := cf hk
    obtain ⟨c0a, c0b, c0t, c0f⟩ := x_eqE hf
    by_cases c0 : c9 = 4
    · have hf := c0t c0
      obtain rfl := Option.some.inj hf
      have hE : x_cl c9 = "java/lang/IndexOutOfBoundsException" := by rw [c0]; rfl
      rw [hE] at hcl
      refine vx_catch (own := RL) (name := "java/lang/IndexOutOfBoundsException") hown [] ⟨0, 8, 11, 91⟩ [] (htab.trans rfl) (fun z hz => by cases hz) (by decide) (by decide) (hts (.classLink RL 91 "java/lang/IndexOutOfBoundsException") (by decide +kernel)) (va_Nw.use (w := .castable "java/lang/IndexOutOfBoundsException" "java/lang/IndexOutOfBoundsException") rfl (hTh.1 _ (by decide))) hce hcv hcl ?_
      refine W.eq (g2 := F0 m 11 ls [.ref q9]) rfl ?_
      refine lv_astore_n (lv' := [(3, .ref q9), (0, .ref (a 0)), (1, .int (iI p1)), (2, .ref ao)]) hx hb dL_ashore_11 rfl hl (by decide) rfl (fun ls hl => ?_)
      refine xk_iconst hx hb dL_ashore_12 ?_
      exact xe_wi hx hb hr hlocks hS hP dL_ashore_13
    · have hf := c0f c0
      cases hf
theorem cdL_ashore : yL_ashore.cls ≠ "java/lang/invoke/MethodHandle" ∧ yL_ashore.cls ≠ "java/lang/invoke/VarHandle" ∧ (parseMethodDescriptor yL_ashore.desc).map (fun d => d.parameters.length) = some 3 := by decide +kernel

theorem x_kind {cl : List vw_C} {D : va_G} {tys : List (ClassId × FieldType)} {cA cB : ClassId} {ty : FieldType} {s : State} (i : Nat) (hK : va_K D cl (tys ++ [(cA, ty)]) s) (h : tys[i]? = some (cB, ty)) (hty : ∀ C, ty ≠ .object C) : cA = cB := by
  have h1 := (hK.2 tys.length (cA, ty) (by simp)).2
  have h2 := (hK.2 i (cB, ty) (by rw [List.getElem?_append_left (List.getElem?_eq_some_iff.mp h).1]; exact h)).2
  unfold va_RA at h1 h2
  cases ty <;> first | exact absurd rfl (hty _) | exact Option.some.inj (h1.symm.trans h2)
theorem x_kindO {cl : List vw_C} {D : va_G} {tys : List (ClassId × FieldType)} {cA cB : ClassId} {C : String} {s : State} (i : Nat) (hK : va_K D cl (tys ++ [(cA, .object C)]) s) (h : tys[i]? = some (cB, .object C)) : cA = cB := by
  obtain ⟨_, _, _, _, _, h1⟩ := (hK.2 tys.length (cA, .object C) (by simp)).2
  obtain ⟨_, _, _, _, _, h2⟩ := (hK.2 i (cB, .object C) (by rw [List.getElem?_append_left (List.getElem?_eq_some_iff.mp h).1]; exact h)).2
  exact Option.some.inj (h1.symm.trans h2)
theorem x_zero (cA : ClassId) (N : Nat) : vp_cell cA (N, .inl (xA (fun _ => 0))) = arrV cA N (fun _ => defaultValue .int) := by
  rw [vp_cell_i]; congr 1
theorem x_zeroZ (cA : ClassId) (N : Nat) : vp_cell cA (N, .inl (xA (fun _ => 0))) = arrV cA N (fun _ => defaultValue .boolean) := by
  rw [vp_cell_i]; congr 1
def xPN (D : va_G) (cl : List vw_C) (ws : va_W) (tys : List (ClassId × FieldType)) (sz : Nat) : State → Prop := fun U => xPW D cl ws tys sz U ∧ va_AO "BoatRuns$Boat" U
theorem xPN_blind {D : va_G} {cl : List vw_C} {ws : va_W} {tys : List (ClassId × FieldType)} {vs : List Value} {sz : Nat} : FrameBlind (va_Pc vs (xPN D cl ws tys sz)) := fun a U g mk h => ⟨h.1, (xPW_blind (vs := vs) a U g mk ⟨h.1, h.2.1⟩).2, h.2.2⟩
def i2 : RowS := (0, fun _ => 0)
def i0 : BoatS := (4, -1, 0, 0, 0, 0, 0, i2, i2, i2, i2, i2, i2, i2)
def i3 : TextS := (0, -1, i2, i2, i2, i2)
def i1 : HisS := (0, 0, i0, i0, i0, i0)
def i4 : BrS := (i0, i0, i1, i3)
set_option maxHeartbeats 4000000 in
set_option maxRecDepth 100000 in
theorem c2_init (l : Launch) (dC : Nat → ClassId) (dI : Nat → Nat → Nat) (cs : Nat → ClassId) (a0 : Nat) (sz : Nat) (N : Nat) (hN : N ≤ 1000) : Met l yX2_init wsX2_init ({ frames := 1, cells := 1, slots := N, locals := 14 } : Room) (va_Pc [.ref a0, .int (iI (N : Int))] (xPW (dC, dI) vwCl ([(a0, .inr (2, [.null, .int 0]))]) (xT cs) sz)) (va_Qv (fun _ : Nat => True) (fun q t => va_P (dC, dI) vwCl (w2 cs a0 q N i2) t.heap ∧ va_D (va_A ([(a0, .inr (2, [.null, .int 0]))]) sz) (w2 cs a0 q N i2)) (va_A ([(a0, .inr (2, [.null, .int 0]))]) sz)) 1 N (va_A ([(a0, .inr (2, [.null, .int 0]))]) sz) := by
  refine Met.ofW (cc := cX2_init) (maxL := 2) (ret := none) (by decide) rfl ?_
  intro p e s m args below meth c s₁ B hml hv
  obtain ⟨rfl, hsz, hP, hK, hD0⟩ := hv
  have hx := B.exec
  have hb := B.bytes
  have hr := B.returns
  have hts := atoms_spec (ws := wsX2_init) B.pre
  have hown : s.vm.findClass RX2 = some m.cls := findClass_of_methodNamed B.named
  have hlocks := B.notSynchronized
  have hin : meth.name = "<init>" := (name_of_methodNamed B.named B.method).1
  have hin2 : ∀ w ∈ wsX20, w ∈ wsX2_init := by decide +kernel
  subst hsz
  have hD := hD0.self (sz := s.heap.size)
  generalize hAe : va_A ([(a0, .inr (2, [.null, .int 0]))]) s.heap.size = A at hD ⊢
  have hA : ∀ z9 : Nat, s.heap.size ≤ z9 → A z9 := fun z9 h => by rw [← hAe]; exact Or.inr h
  have hS : va_S A s.heap s.heap [] := va_S.rf
  have hl := lv_entry [.ref a0, .int (iI (N : Int))] (n := 2) (Nat.le_of_ble_eq_true rfl)
  rw [lg_entry_eq]
  generalize (lg_sl [.ref a0, .int (iI (N : Int))] ++ List.replicate (2 - (lg_sl [.ref a0, .int (iI (N : Int))]).length) Slot.unset).toArray = ls at hl ⊢
  have hl : lv_has ls 2 [(0, .ref a0), (1, .int (iI (N : Int)))] := hl
  refine lv_aload_n hx hb dX2_init_0 rfl (lv_at hl 0 rfl) ?_
  refine W.objInit hx hb hown (hts (.methodLink RX2 3 objectInit) (by decide +kernel)) (hts (.instanceMethod objectInit) (by decide +kernel)) (hts (.code objectInit ⟨#[0xb1]⟩ 1 none) (by decide +kernel)) rfl (by rw [hml]; exact hl.1) rfl dX2_init_1 (Nat.le_of_ble_eq_true rfl) (Nat.le_of_ble_eq_true rfl) ?_
  refine W.eq (g2 := F0 m 4 ls []) rfl ?_
  refine lv_aload_n hx hb dX2_init_4 rfl (lv_at hl 0 rfl) ?_
  refine lv_iload_n hx hb dX2_init_5 rfl (lv_at hl 1 rfl) ?_
  refine xk_iconst hx hb dX2_init_6 ?_
  refine xk_mmax hx hb (by rw [hml]; exact hl.1.symm) hown (hts (.methodLink RX2 9 Lib.Math.max.name) (by decide +kernel)) (hts (.static Lib.Math.max.name) (by decide +kernel)) (hts (.initialized "java/lang/Math") (by decide +kernel)) (hts (.code Lib.Math.max.name Lib.Math.max.code 2 (some .int)) (by decide +kernel)) (Nat.le_of_ble_eq_true rfl) (Nat.le_of_ble_eq_true rfl) (Nat.zero_le _) (Nat.zero_le _) (v := (N : Int)) (by unfold x_max; rw [if_pos (by constructor <;> constructor <;> omega), if_neg (by omega)]) dX2_init_7 ?_
  refine va_newa (atype := .int) (ty := .int) (N' := N) (a0 := (N, .inl (xA (fun _ => 0)))) hx hb (hts (.arrayClass .int) (by decide +kernel)) rfl hK hP hD hS hA (fun cA => x_zero cA N) (by rw [← iI_0, iI_lt (by constructor <;> omega) (by decide)]; omega) (by rw [iI_clamp (by omega) (by omega)]; omega) (by show N * 4 ≤ 536870912; omega) (Nat.le_of_ble_eq_true rfl) (by show 0 + N ≤ N; omega) dX2_init_10 (fun q1 cA H hK1 hP hD hS => ?_)
  obtain rfl := x_kind 0 hK1 (cB := cs 0) rfl (fun C h => by cases h)
  have hP : va_P (dC, dI) vwCl ([(a0, .inr (2, [.null, .int 0]))] ++ [(q1, .inl (cs 0, (N, .inl (xA (fun _ => 0)))))]) H := hP
  have hD : va_D A ([(a0, .inr (2, [.null, .int 0]))] ++ [(q1, .inl (cs 0, (N, .inl (xA (fun _ => 0)))))]) := hD
  refine va_putF (D := (dC, dI)) (ci := 2) (v := .ref q1) (ty := .array .int) (C := RX2) (T := TX2) (N := 2) hx hb hts hin2 tyX2 tyX2_ok nmX2 hown hK hP hD hS 0 rfl rfl 0 (by decide) (hts (.fieldLink RX2 15 "BoatRuns$Row" "cells" "[I") (by decide +kernel)) (fun _ h9 => h9) rfl hin rfl (by decide +kernel) rfl rfl (Nat.le_of_ble_eq_true rfl) dX2_init_12 (fun H locs hP hD hS => ?_)
  have hP : va_P (dC, dI) vwCl ([(a0, .inr (2, [.ref q1, .int 0]))] ++ [(q1, .inl (cs 0, (N, .inl (xA (fun _ => 0)))))]) H := hP
  have hD : va_D A ([(a0, .inr (2, [.ref q1, .int 0]))] ++ [(q1, .inl (cs 0, (N, .inl (xA (fun _ => 0)))))]) := hD
  have hP9 : va_P (dC, dI) vwCl (w2 cs a0 q1 N i2) H := hP
  have hD9 : va_D A (w2 cs a0 q1 N i2) := hD
  subst hAe
  refine W.widen (k := 1) (n := N) (by omega) (by omega) ?_
  exact W.vret hx hb hr (fun t ht hW => ⟨⟨q1, rfl, trivial, ⟨by show va_P (dC, dI) vwCl (w2 cs a0 q1 N i2) t.heap; rw [ht]; exact hP9, hD9⟩⟩, hS.F ht⟩) hS.2.2 dX2_init_15 hlocks
set_option maxHeartbeats 4000000 in
set_option maxRecDepth 100000 in
theorem c0_init (l : Launch) (dC : Nat → ClassId) (dI : Nat → Nat → Nat) (cs : Nat → ClassId) (a0 : Nat) (sz : Nat) : Met l yX0_init wsX0_init ({ frames := 2, cells := 14, slots := 854, locals := 35 } : Room) (va_Pc [.ref a0] (xPW (dC, dI) vwCl ([(a0, .inr (0, [.int 0, .null, .null, .null, .null, .null, .null, .null, .int 0, .int 0, .int 0, .int 0, .int 0, .int 0]))]) (xT cs) sz)) (va_Qv (fun _ : Nat → Nat => True) (fun a t => a 0 = a0 ∧ va_P (dC, dI) vwCl (w0 cs a i0) t.heap ∧ va_D (va_A ([(a0, .inr (0, [.int 0, .null, .null, .null, .null, .null, .null, .null, .int 0, .int 0, .int 0, .int 0, .int 0, .int 0]))]) sz) (w0 cs a i0)) (va_A ([(a0, .inr (0, [.int 0, .null, .null, .null, .null, .null, .null, .null, .int 0, .int 0, .int 0, .int 0, .int 0, .int 0]))]) sz)) 14 854 (va_A ([(a0, .inr (0, [.int 0, .null, .null, .null, .null, .null, .null, .null, .int 0, .int 0, .int 0, .int 0, .int 0, .int 0]))]) sz) := by
  refine Met.ofW (cc := cX0_init) (maxL := 1) (ret := none) (by decide) rfl ?_
  intro p e s m args below meth c s₁ B hml hv
  obtain ⟨rfl, hsz, hP, hK, hD0⟩ := hv
  have hx := B.exec
  have hb := B.bytes
  have hr := B.returns
  have hts := atoms_spec (ws := wsX0_init) B.pre
  have hown : s.vm.findClass RX0 = some m.cls := findClass_of_methodNamed B.named
  have hlocks := B.notSynchronized
  have hin : meth.name = "<init>" := (name_of_methodNamed B.named B.method).1
  have hin0 : ∀ w ∈ wsX00, w ∈ wsX0_init := by decide +kernel
  have hin2 : ∀ w ∈ wsX20, w ∈ wsX0_init := by decide +kernel
  subst hsz
  have hD := hD0.self (sz := s.heap.size)
  generalize hAe : va_A ([(a0, .inr (0, [.int 0, .null, .null, .null, .null, .null, .null, .null, .int 0, .int 0, .int 0, .int 0, .int 0, .int 0]))]) s.heap.size = A at hD ⊢
  have hA : ∀ z9 : Nat, s.heap.size ≤ z9 → A z9 := fun z9 h => by rw [← hAe]; exact Or.inr h
  have hS : va_S A s.heap s.heap [] := va_S.rf
  have hl := lv_entry [.ref a0] (n := 1) (Nat.le_of_ble_eq_true rfl)
  rw [lg_entry_eq]
  generalize (lg_sl [.ref a0] ++ List.replicate (1 - (lg_sl [.ref a0]).length) Slot.unset).toArray = ls at hl ⊢
  have hl : lv_has ls 1 [(0, .ref a0)] := hl
  refine lv_aload_n hx hb dX0_init_0 rfl (lv_at hl 0 rfl) ?_
  refine W.objInit hx hb hown (hts (.methodLink RX0 3 objectInit) (by decide +kernel)) (hts (.instanceMethod objectInit) (by decide +kernel)) (hts (.code objectInit ⟨#[0xb1]⟩ 1 none) (by decide +kernel)) rfl (by rw [hml]; exact hl.1) rfl dX0_init_1 (Nat.le_of_ble_eq_true rfl) (Nat.le_of_ble_eq_true rfl) ?_
  refine W.eq (g2 := F0 m 4 ls []) rfl ?_
  refine lv_aload_n hx hb dX0_init_4 rfl (lv_at hl 0 rfl) ?_
  refine xk_iconst hx hb dX0_init_5 ?_
  refine va_put (D := (dC, dI)) (ci := 0) (v := .int (iI 4)) (ty := .int) (C := RX0) (T := TX0) (N := 14) hx hb hts hin0 tyX0 tyX0_ok nmX0 hown hK hP hD hS 0 rfl rfl 0 (by decide) (hts (.fieldLink RX0 9 "BoatRuns$Boat" "room" "I") (by decide +kernel)) (fun _ h9 => h9) rfl (by decide +kernel) rfl rfl (Nat.le_of_ble_eq_true rfl) dX0_init_6 (fun H locs hP hD hS => ?_)
  have hP : va_P (dC, dI) vwCl ([(a0, .inr (0, [.int (iI 4), .null, .null, .null, .null, .null, .null, .null, .int 0, .int 0, .int 0, .int 0, .int 0, .int 0]))]) H := hP
  have hD : va_D A ([(a0, .inr (0, [.int (iI 4), .null, .null, .null, .null, .null, .null, .null, .int 0, .int 0, .int 0, .int 0, .int 0, .int 0]))]) := hD
  refine lv_aload_n hx hb dX0_init_9 rfl (lv_at hl 0 rfl) ?_
  refine xk_iconst hx hb dX0_init_10 ?_
  refine va_put (D := (dC, dI)) (ci := 0) (v := .int (iI (-1))) (ty := .int) (C := RX0) (T := TX0) (N := 14) hx hb hts hin0 tyX0 tyX0_ok nmX0 hown hK hP hD hS 0 rfl rfl 8 (by decide) (hts (.fieldLink RX0 15 "BoatRuns$Boat" "open" "I") (by decide +kernel)) (fun _ h9 => h9) rfl (by decide +kernel) rfl rfl (Nat.le_of_ble_eq_true rfl) dX0_init_11 (fun H locs hP hD hS => ?_)
  have hP : va_P (dC, dI) vwCl ([(a0, .inr (0, [.int (iI 4), .null, .null, .null, .null, .null, .null, .null, .int (iI (-1)), .int 0, .int 0, .int 0, .int 0, .int 0]))]) H := hP
  have hD : va_D A ([(a0, .inr (0, [.int (iI 4), .null, .null, .null, .null, .null, .null, .null, .int (iI (-1)), .int 0, .int 0, .int 0, .int 0, .int 0]))]) := hD
  refine lv_aload_n hx hb dX0_init_14 rfl (lv_at hl 0 rfl) ?_
  refine va_new (ci := 2) (fs := [.null, .int 0]) (C := RX2) (T := TX2) (N := 2) hx hb hts hin2 tyX2 tyX2_ok hown (hts (.classLink RX0 18 RX2) (by decide +kernel)) (hts (.instantiable RX2 2) (by decide +kernel)) (hts (.initialized RX2) (by decide +kernel)) hK hP hD hS hA rfl (fun j hj => by rcases (show j = 0 ∨ j = 1 by omega) with rfl | rfl <;> rfl) (Nat.le_of_ble_eq_true rfl) (Nat.le_of_ble_eq_true rfl) dX0_init_15 (fun q1 H hP hD hS => ?_)
  have hP : va_P (dC, dI) vwCl ([(a0, .inr (0, [.int (iI 4), .null, .null, .null, .null, .null, .null, .null, .int (iI (-1)), .int 0, .int 0, .int 0, .int 0, .int 0]))] ++ [(q1, .inr (2, [.null, .int 0]))]) H := hP
  have hD : va_D A ([(a0, .inr (0, [.int (iI 4), .null, .null, .null, .null, .null, .null, .null, .int (iI (-1)), .int 0, .int 0, .int 0, .int 0, .int 0]))] ++ [(q1, .inr (2, [.null, .int 0]))]) := hD
  refine lv_dup hx hb dX0_init_18 rfl ?_
  refine xk_bipush hx hb dX0_init_19 (by decide) ?_
  have hPc := hP.sub (ws' := [(q1, .inr (2, [.null, .int 0]))]) [1] rfl
  have hDc := hD.sub (ws' := [(q1, .inr (2, [.null, .int 0]))]) [1] (by decide) rfl
  have hFc := va_free (wc := [(q1, .inr (2, [.null, .int 0]))]) hD hS hA [1] rfl
  refine va_callv (va_runI (As := [.int (iI 120)]) (rest := [.ref q1, .ref a0]) ⟨hx, hb, hml, hown, hts⟩ (c2_init l dC dI cs q1 H.size 120 (by decide)) (cwI 1 hts gX0_init_X2_init rfl rfl rfl (hts (.initialized RX2) (by decide +kernel)) (hts (.methodLink RX0 20 yX2_init) (by decide +kernel)) (hts (.instanceMethod yX2_init) (by decide +kernel)) rfl (by decide +kernel) ⟨Nat.le_of_ble_eq_true rfl, Nat.le_of_ble_eq_true rfl⟩) ⟨xPW_blind, fun U hU hW => ⟨rfl, by rw [hU], by rw [hU]; exact hPc, va_K.moved hW.alike hK, hDc.weaken (fun _ _ _ _ => trivial)⟩⟩ rfl rfl hl.1 rfl (lv_room (Nat.le_of_ble_eq_true rfl)) dX0_init_21 ⟨Nat.le_of_ble_eq_true rfl, Nat.le_of_ble_eq_true rfl⟩) hS (fun z9 _ h => hFc z9 h) hFc (fun u2 t H locs ht hvm hw hB hz1 hk1 hS => ?_)
  obtain ⟨hP1, hD1⟩ := hB
  rw [ht] at hP1
  obtain ⟨hP, hD⟩ := va_join (wr := [(a0, .inr (0, [.int (iI 4), .null, .null, .null, .null, .null, .null, .null, .int (iI (-1)), .int 0, .int 0, .int 0, .int 0, .int 0]))]) (w1 := w2 cs q1 u2 120 i2) hP hD [1] [0] rfl rfl (by decide) (by decide) hk1 hFc hP1 hD1
  have hP : va_P (dC, dI) vwCl ([(a0, .inr (0, [.int (iI 4), .null, .null, .null, .null, .null, .null, .null, .int (iI (-1)), .int 0, .int 0, .int 0, .int 0, .int 0]))] ++ w2 cs q1 u2 120 i2) H := hP
  have hD : va_D A ([(a0, .inr (0, [.int (iI 4), .null, .null, .null, .null, .null, .null, .null, .int (iI (-1)), .int 0, .int 0, .int 0, .int 0, .int 0]))] ++ w2 cs q1 u2 120 i2) := hD
  refine va_putF (D := (dC, dI)) (ci := 0) (v := .ref q1) (ty := .object "BoatRuns$Row") (C := RX0) (T := TX0) (N := 14) hx hb hts hin0 tyX0 tyX0_ok nmX0 hown hK hP hD hS 0 rfl rfl 1 (by decide) (hts (.fieldLink RX0 23 "BoatRuns$Boat" "keys" "LBoatRuns$Row;") (by decide +kernel)) (fun _ h9 => h9) rfl hin rfl (by decide +kernel) rfl rfl (Nat.le_of_ble_eq_true rfl) dX0_init_24 (fun H locs hP hD hS => ?_)
  have hP : va_P (dC, dI) vwCl ([(a0, .inr (0, [.int (iI 4), .ref q1, .null, .null, .null, .null, .null, .null, .int (iI (-1)), .int 0, .int 0, .int 0, .int 0, .int 0]))] ++ w2 cs q1 u2 120 i2) H := hP
  have hD : va_D A ([(a0, .inr (0, [.int (iI 4), .ref q1, .null, .null, .null, .null, .null, .null, .int (iI (-1)), .int 0, .int 0, .int 0, .int 0, .int 0]))] ++ w2 cs q1 u2 120 i2) := hD
  refine lv_aload_n hx hb dX0_init_27 rfl (lv_at hl 0 rfl) ?_
  refine va_new (ci := 2) (fs := [.null, .int 0]) (C := RX2) (T := TX2) (N := 2) hx hb hts hin2 tyX2 tyX2_ok hown (hts (.classLink RX0 18 RX2) (by decide +kernel)) (hts (.instantiable RX2 2) (by decide +kernel)) (hts (.initialized RX2) (by decide +kernel)) hK hP hD hS hA rfl (fun j hj => by rcases (show j = 0 ∨ j = 1 by omega) with rfl | rfl <;> rfl) (Nat.le_of_ble_eq_true rfl) (Nat.le_of_ble_eq_true rfl) dX0_init_28 (fun q3 H hP hD hS => ?_)
  have hP : va_P (dC, dI) vwCl ([(a0, .inr (0, [.int (iI 4), .ref q1, .null, .null, .null, .null, .null, .null, .int (iI (-1)), .int 0, .int 0, .int 0, .int 0, .int 0]))] ++ w2 cs q1 u2 120 i2 ++ [(q3, .inr (2, [.null, .int 0]))]) H := hP
  have hD : va_D A ([(a0, .inr (0, [.int (iI 4), .ref q1, .null, .null, .null, .null, .null, .null, .int (iI (-1)), .int 0, .int 0, .int 0, .int 0, .int 0]))] ++ w2 cs q1 u2 120 i2 ++ [(q3, .inr (2, [.null, .int 0]))]) := hD
  refine lv_dup hx hb dX0_init_31 rfl ?_
  refine xk_bipush hx hb dX0_init_32 (by decide) ?_
  have hPc := hP.sub (ws' := [(q3, .inr (2, [.null, .int 0]))]) [3] rfl
  have hDc := hD.sub (ws' := [(q3, .inr (2, [.null, .int 0]))]) [3] (by decide) rfl
  have hFc := va_free (wc := [(q3, .inr (2, [.null, .int 0]))]) hD hS hA [3] rfl
  refine va_callv (va_runI (As := [.int (iI 120)]) (rest := [.ref q3, .ref a0]) ⟨hx, hb, hml, hown, hts⟩ (c2_init l dC dI cs q3 H.size 120 (by decide)) (cwI 1 hts gX0_init_X2_init rfl rfl rfl (hts (.initialized RX2) (by decide +kernel)) (hts (.methodLink RX0 20 yX2_init) (by decide +kernel)) (hts (.instanceMethod yX2_init) (by decide +kernel)) rfl (by decide +kernel) ⟨Nat.le_of_ble_eq_true rfl, Nat.le_of_ble_eq_true rfl⟩) ⟨xPW_blind, fun U hU hW => ⟨rfl, by rw [hU], by rw [hU]; exact hPc, va_K.moved hW.alike hK, hDc.weaken (fun _ _ _ _ => trivial)⟩⟩ rfl rfl hl.1 rfl (lv_room (Nat.le_of_ble_eq_true rfl)) dX0_init_34 ⟨Nat.le_of_ble_eq_true rfl, Nat.le_of_ble_eq_true rfl⟩) hS (fun z9 _ h => hFc z9 h) hFc (fun u4 t H locs ht hvm hw hB hz1 hk1 hS => ?_)
  obtain ⟨hP1, hD1⟩ := hB
  rw [ht] at hP1
  obtain ⟨hP, hD⟩ := va_join (wr := [(a0, .inr (0, [.int (iI 4), .ref q1, .null, .null, .null, .null, .null, .null, .int (iI (-1)), .int 0, .int 0, .int 0, .int 0, .int 0]))] ++ w2 cs q1 u2 120 i2) (w1 := w2 cs q3 u4 120 i2) hP hD [3] [0, 1, 2] rfl rfl (by decide) (by decide) hk1 hFc hP1 hD1
  have hP : va_P (dC, dI) vwCl ([(a0, .inr (0, [.int (iI 4), .ref q1, .null, .null, .null, .null, .null, .null, .int (iI (-1)), .int 0, .int 0, .int 0, .int 0, .int 0]))] ++ w2 cs q1 u2 120 i2 ++ w2 cs q3 u4 120 i2) H := hP
  have hD : va_D A ([(a0, .inr (0, [.int (iI 4), .ref q1, .null, .null, .null, .null, .null, .null, .int (iI (-1)), .int 0, .int 0, .int 0, .int 0, .int 0]))] ++ w2 cs q1 u2 120 i2 ++ w2 cs q3 u4 120 i2) := hD
  refine va_putF (D := (dC, dI)) (ci := 0) (v := .ref q3) (ty := .object "BoatRuns$Row") (C := RX0) (T := TX0) (N := 14) hx hb hts hin0 tyX0 tyX0_ok nmX0 hown hK hP hD hS 0 rfl rfl 2 (by decide) (hts (.fieldLink RX0 27 "BoatRuns$Boat" "weights" "LBoatRuns$Row;") (by decide +kernel)) (fun _ h9 => h9) rfl hin rfl (by decide +kernel) rfl rfl (Nat.le_of_ble_eq_true rfl) dX0_init_37 (fun H locs hP hD hS => ?_)
  have hP : va_P (dC, dI) vwCl ([(a0, .inr (0, [.int (iI 4), .ref q1, .ref q3, .null, .null, .null, .null, .null, .int (iI (-1)), .int 0, .int 0, .int 0, .int 0, .int 0]))] ++ w2 cs q1 u2 120 i2 ++ w2 cs q3 u4 120 i2) H := hP
  have hD : va_D A ([(a0, .inr (0, [.int (iI 4), .ref q1, .ref q3, .null, .null, .null, .null, .null, .int (iI (-1)), .int 0, .int 0, .int 0, .int 0, .int 0]))] ++ w2 cs q1 u2 120 i2 ++ w2 cs q3 u4 120 i2) := hD
  refine lv_aload_n hx hb dX0_init_40 rfl (lv_at hl 0 rfl) ?_
  refine va_new (ci := 2) (fs := [.null, .int 0]) (C := RX2) (T := TX2) (N := 2) hx hb hts hin2 tyX2 tyX2_ok hown (hts (.classLink RX0 18 RX2) (by decide +kernel)) (hts (.instantiable RX2 2) (by decide +kernel)) (hts (.initialized RX2) (by decide +kernel)) hK hP hD hS hA rfl (fun j hj => by rcases (show j = 0 ∨ j = 1 by omega) with rfl | rfl <;> rfl) (Nat.le_of_ble_eq_true rfl) (Nat.le_of_ble_eq_true rfl) dX0_init_41 (fun q5 H hP hD hS => ?_)
  have hP : va_P (dC, dI) vwCl ([(a0, .inr (0, [.int (iI 4), .ref q1, .ref q3, .null, .null, .null, .null, .null, .int (iI (-1)), .int 0, .int 0, .int 0, .int 0, .int 0]))] ++ w2 cs q1 u2 120 i2 ++ w2 cs q3 u4 120 i2 ++ [(q5, .inr (2, [.null, .int 0]))]) H := hP
  have hD : va_D A ([(a0, .inr (0, [.int (iI 4), .ref q1, .ref q3, .null, .null, .null, .null, .null, .int (iI (-1)), .int 0, .int 0, .int 0, .int 0, .int 0]))] ++ w2 cs q1 u2 120 i2 ++ w2 cs q3 u4 120 i2 ++ [(q5, .inr (2, [.null, .int 0]))]) := hD
  refine lv_dup hx hb dX0_init_44 rfl ?_
  refine xk_bipush hx hb dX0_init_45 (by decide) ?_
  have hPc := hP.sub (ws' := [(q5, .inr (2, [.null, .int 0]))]) [5] rfl
  have hDc := hD.sub (ws' := [(q5, .inr (2, [.null, .int 0]))]) [5] (by decide) rfl
  have hFc := va_free (wc := [(q5, .inr (2, [.null, .int 0]))]) hD hS hA [5] rfl
  refine va_callv (va_runI (As := [.int (iI 120)]) (rest := [.ref q5, .ref a0]) ⟨hx, hb, hml, hown, hts⟩ (c2_init l dC dI cs q5 H.size 120 (by decide)) (cwI 1 hts gX0_init_X2_init rfl rfl rfl (hts (.initialized RX2) (by decide +kernel)) (hts (.methodLink RX0 20 yX2_init) (by decide +kernel)) (hts (.instanceMethod yX2_init) (by decide +kernel)) rfl (by decide +kernel) ⟨Nat.le_of_ble_eq_true rfl, Nat.le_of_ble_eq_true rfl⟩) ⟨xPW_blind, fun U hU hW => ⟨rfl, by rw [hU], by rw [hU]; exact hPc, va_K.moved hW.alike hK, hDc.weaken (fun _ _ _ _ => trivial)⟩⟩ rfl rfl hl.1 rfl (lv_room (Nat.le_of_ble_eq_true rfl)) dX0_init_47 ⟨Nat.le_of_ble_eq_true rfl, Nat.le_of_ble_eq_true rfl⟩) hS (fun z9 _ h => hFc z9 h) hFc (fun u6 t H locs ht hvm hw hB hz1 hk1 hS => ?_)
  obtain ⟨hP1, hD1⟩ := hB
  rw [ht] at hP1
  obtain ⟨hP, hD⟩ := va_join (wr := [(a0, .inr (0, [.int (iI 4), .ref q1, .ref q3, .null, .null, .null, .null, .null, .int (iI (-1)), .int 0, .int 0, .int 0, .int 0, .int 0]))] ++ w2 cs q1 u2 120 i2 ++ w2 cs q3 u4 120 i2) (w1 := w2 cs q5 u6 120 i2) hP hD [5] [0, 1, 2, 3, 4] rfl rfl (by decide) (by decide) hk1 hFc hP1 hD1
  have hP : va_P (dC, dI) vwCl ([(a0, .inr (0, [.int (iI 4), .ref q1, .ref q3, .null, .null, .null, .null, .null, .int (iI (-1)), .int 0, .int 0, .int 0, .int 0, .int 0]))] ++ w2 cs q1 u2 120 i2 ++ w2 cs q3 u4 120 i2 ++ w2 cs q5 u6 120 i2) H := hP
  have hD : va_D A ([(a0, .inr (0, [.int (iI 4), .ref q1, .ref q3, .null, .null, .null, .null, .null, .int (iI (-1)), .int 0, .int 0, .int 0, .int 0, .int 0]))] ++ w2 cs q1 u2 120 i2 ++ w2 cs q3 u4 120 i2 ++ w2 cs q5 u6 120 i2) := hD
  refine va_putF (D := (dC, dI)) (ci := 0) (v := .ref q5) (ty := .object "BoatRuns$Row") (C := RX0) (T := TX0) (N := 14) hx hb hts hin0 tyX0 tyX0_ok nmX0 hown hK hP hD hS 0 rfl rfl 3 (by decide) (hts (.fieldLink RX0 30 "BoatRuns$Boat" "homes" "LBoatRuns$Row;") (by decide +kernel)) (fun _ h9 => h9) rfl hin rfl (by decide +kernel) rfl rfl (Nat.le_of_ble_eq_true rfl) dX0_init_50 (fun H locs hP hD hS => ?_)
  have hP : va_P (dC, dI) vwCl ([(a0, .inr (0, [.int (iI 4), .ref q1, .ref q3, .ref q5, .null, .null, .null, .null, .int (iI (-1)), .int 0, .int 0, .int 0, .int 0, .int 0]))] ++ w2 cs q1 u2 120 i2 ++ w2 cs q3 u4 120 i2 ++ w2 cs q5 u6 120 i2) H := hP
  have hD : va_D A ([(a0, .inr (0, [.int (iI 4), .ref q1, .ref q3, .ref q5, .null, .null, .null, .null, .int (iI (-1)), .int 0, .int 0, .int 0, .int 0, .int 0]))] ++ w2 cs q1 u2 120 i2 ++ w2 cs q3 u4 120 i2 ++ w2 cs q5 u6 120 i2) := hD
  refine lv_aload_n hx hb dX0_init_53 rfl (lv_at hl 0 rfl) ?_
  refine va_new (ci := 2) (fs := [.null, .int 0]) (C := RX2) (T := TX2) (N := 2) hx hb hts hin2 tyX2 tyX2_ok hown (hts (.classLink RX0 18 RX2) (by decide +kernel)) (hts (.instantiable RX2 2) (by decide +kernel)) (hts (.initialized RX2) (by decide +kernel)) hK hP hD hS hA rfl (fun j hj => by rcases (show j = 0 ∨ j = 1 by omega) with rfl | rfl <;> rfl) (Nat.le_of_ble_eq_true rfl) (Nat.le_of_ble_eq_true rfl) dX0_init_54 (fun q7 H hP hD hS => ?_)
  have hP : va_P (dC, dI) vwCl ([(a0, .inr (0, [.int (iI 4), .ref q1, .ref q3, .ref q5, .null, .null, .null, .null, .int (iI (-1)), .int 0, .int 0, .int 0, .int 0, .int 0]))] ++ w2 cs q1 u2 120 i2 ++ w2 cs q3 u4 120 i2 ++ w2 cs q5 u6 120 i2 ++ [(q7, .inr (2, [.null, .int 0]))]) H := hP
  have hD : va_D A ([(a0, .inr (0, [.int (iI 4), .ref q1, .ref q3, .ref q5, .null, .null, .null, .null, .int (iI (-1)), .int 0, .int 0, .int 0, .int 0, .int 0]))] ++ w2 cs q1 u2 120 i2 ++ w2 cs q3 u4 120 i2 ++ w2 cs q5 u6 120 i2 ++ [(q7, .inr (2, [.null, .int 0]))]) := hD
  refine lv_dup hx hb dX0_init_57 rfl ?_
  refine xk_bipush hx hb dX0_init_58 (by decide) ?_
  have hPc := hP.sub (ws' := [(q7, .inr (2, [.null, .int 0]))]) [7] rfl
  have hDc := hD.sub (ws' := [(q7, .inr (2, [.null, .int 0]))]) [7] (by decide) rfl
  have hFc := va_free (wc := [(q7, .inr (2, [.null, .int 0]))]) hD hS hA [7] rfl
  refine va_callv (va_runI (As := [.int (iI 120)]) (rest := [.ref q7, .ref a0]) ⟨hx, hb, hml, hown, hts⟩ (c2_init l dC dI cs q7 H.size 120 (by decide)) (cwI 1 hts gX0_init_X2_init rfl rfl rfl (hts (.initialized RX2) (by decide +kernel)) (hts (.methodLink RX0 20 yX2_init) (by decide +kernel)) (hts (.instanceMethod yX2_init) (by decide +kernel)) rfl (by decide +kernel) ⟨Nat.le_of_ble_eq_true rfl, Nat.le_of_ble_eq_true rfl⟩) ⟨xPW_blind, fun U hU hW => ⟨rfl, by rw [hU], by rw [hU]; exact hPc, va_K.moved hW.alike hK, hDc.weaken (fun _ _ _ _ => trivial)⟩⟩ rfl rfl hl.1 rfl (lv_room (Nat.le_of_ble_eq_true rfl)) dX0_init_60 ⟨Nat.le_of_ble_eq_true rfl, Nat.le_of_ble_eq_true rfl⟩) hS (fun z9 _ h => hFc z9 h) hFc (fun u8 t H locs ht hvm hw hB hz1 hk1 hS => ?_)
  obtain ⟨hP1, hD1⟩ := hB
  rw [ht] at hP1
  obtain ⟨hP, hD⟩ := va_join (wr := [(a0, .inr (0, [.int (iI 4), .ref q1, .ref q3, .ref q5, .null, .null, .null, .null, .int (iI (-1)), .int 0, .int 0, .int 0, .int 0, .int 0]))] ++ w2 cs q1 u2 120 i2 ++ w2 cs q3 u4 120 i2 ++ w2 cs q5 u6 120 i2) (w1 := w2 cs q7 u8 120 i2) hP hD [7] [0, 1, 2, 3, 4, 5, 6] rfl rfl (by decide) (by decide) hk1 hFc hP1 hD1
  have hP : va_P (dC, dI) vwCl ([(a0, .inr (0, [.int (iI 4), .ref q1, .ref q3, .ref q5, .null, .null, .null, .null, .int (iI (-1)), .int 0, .int 0, .int 0, .int 0, .int 0]))] ++ w2 cs q1 u2 120 i2 ++ w2 cs q3 u4 120 i2 ++ w2 cs q5 u6 120 i2 ++ w2 cs q7 u8 120 i2) H := hP
  have hD : va_D A ([(a0, .inr (0, [.int (iI 4), .ref q1, .ref q3, .ref q5, .null, .null, .null, .null, .int (iI (-1)), .int 0, .int 0, .int 0, .int 0, .int 0]))] ++ w2 cs q1 u2 120 i2 ++ w2 cs q3 u4 120 i2 ++ w2 cs q5 u6 120 i2 ++ w2 cs q7 u8 120 i2) := hD
  refine va_putF (D := (dC, dI)) (ci := 0) (v := .ref q7) (ty := .object "BoatRuns$Row") (C := RX0) (T := TX0) (N := 14) hx hb hts hin0 tyX0 tyX0_ok nmX0 hown hK hP hD hS 0 rfl rfl 4 (by decide) (hts (.fieldLink RX0 33 "BoatRuns$Boat" "order" "LBoatRuns$Row;") (by decide +kernel)) (fun _ h9 => h9) rfl hin rfl (by decide +kernel) rfl rfl (Nat.le_of_ble_eq_true rfl) dX0_init_63 (fun H locs hP hD hS => ?_)
  have hP : va_P (dC, dI) vwCl ([(a0, .inr (0, [.int (iI 4), .ref q1, .ref q3, .ref q5, .ref q7, .null, .null, .null, .int (iI (-1)), .int 0, .int 0, .int 0, .int 0, .int 0]))] ++ w2 cs q1 u2 120 i2 ++ w2 cs q3 u4 120 i2 ++ w2 cs q5 u6 120 i2 ++ w2 cs q7 u8 120 i2) H := hP
  have hD : va_D A ([(a0, .inr (0, [.int (iI 4), .ref q1, .ref q3, .ref q5, .ref q7, .null, .null, .null, .int (iI (-1)), .int 0, .int 0, .int 0, .int 0, .int 0]))] ++ w2 cs q1 u2 120 i2 ++ w2 cs q3 u4 120 i2 ++ w2 cs q5 u6 120 i2 ++ w2 cs q7 u8 120 i2) := hD
  refine lv_aload_n hx hb dX0_init_66 rfl (lv_at hl 0 rfl) ?_
  refine va_new (ci := 2) (fs := [.null, .int 0]) (C := RX2) (T := TX2) (N := 2) hx hb hts hin2 tyX2 tyX2_ok hown (hts (.classLink RX0 18 RX2) (by decide +kernel)) (hts (.instantiable RX2 2) (by decide +kernel)) (hts (.initialized RX2) (by decide +kernel)) hK hP hD hS hA rfl (fun j hj => by rcases (show j = 0 ∨ j = 1 by omega) with rfl | rfl <;> rfl) (Nat.le_of_ble_eq_true rfl) (Nat.le_of_ble_eq_true rfl) dX0_init_67 (fun q9 H hP hD hS => ?_)
  have hP : va_P (dC, dI) vwCl ([(a0, .inr (0, [.int (iI 4), .ref q1, .ref q3, .ref q5, .ref q7, .null, .null, .null, .int (iI (-1)), .int 0, .int 0, .int 0, .int 0, .int 0]))] ++ w2 cs q1 u2 120 i2 ++ w2 cs q3 u4 120 i2 ++ w2 cs q5 u6 120 i2 ++ w2 cs q7 u8 120 i2 ++ [(q9, .inr (2, [.null, .int 0]))]) H := hP
  have hD : va_D A ([(a0, .inr (0, [.int (iI 4), .ref q1, .ref q3, .ref q5, .ref q7, .null, .null, .null, .int (iI (-1)), .int 0, .int 0, .int 0, .int 0, .int 0]))] ++ w2 cs q1 u2 120 i2 ++ w2 cs q3 u4 120 i2 ++ w2 cs q5 u6 120 i2 ++ w2 cs q7 u8 120 i2 ++ [(q9, .inr (2, [.null, .int 0]))]) := hD
  refine lv_dup hx hb dX0_init_70 rfl ?_
  refine xk_bipush hx hb dX0_init_71 (by decide) ?_
  have hPc := hP.sub (ws' := [(q9, .inr (2, [.null, .int 0]))]) [9] rfl
  have hDc := hD.sub (ws' := [(q9, .inr (2, [.null, .int 0]))]) [9] (by decide) rfl
  have hFc := va_free (wc := [(q9, .inr (2, [.null, .int 0]))]) hD hS hA [9] rfl
  refine va_callv (va_runI (As := [.int (iI 120)]) (rest := [.ref q9, .ref a0]) ⟨hx, hb, hml, hown, hts⟩ (c2_init l dC dI cs q9 H.size 120 (by decide)) (cwI 1 hts gX0_init_X2_init rfl rfl rfl (hts (.initialized RX2) (by decide +kernel)) (hts (.methodLink RX0 20 yX2_init) (by decide +kernel)) (hts (.instanceMethod yX2_init) (by decide +kernel)) rfl (by decide +kernel) ⟨Nat.le_of_ble_eq_true rfl, Nat.le_of_ble_eq_true rfl⟩) ⟨xPW_blind, fun U hU hW => ⟨rfl, by rw [hU], by rw [hU]; exact hPc, va_K.moved hW.alike hK, hDc.weaken (fun _ _ _ _ => trivial)⟩⟩ rfl rfl hl.1 rfl (lv_room (Nat.le_of_ble_eq_true rfl)) dX0_init_73 ⟨Nat.le_of_ble_eq_true rfl, Nat.le_of_ble_eq_true rfl⟩) hS (fun z9 _ h => hFc z9 h) hFc (fun u10 t H locs ht hvm hw hB hz1 hk1 hS => ?_)
  obtain ⟨hP1, hD1⟩ := hB
  rw [ht] at hP1
  obtain ⟨hP, hD⟩ := va_join (wr := [(a0, .inr (0, [.int (iI 4), .ref q1, .ref q3, .ref q5, .ref q7, .null, .null, .null, .int (iI (-1)), .int 0, .int 0, .int 0, .int 0, .int 0]))] ++ w2 cs q1 u2 120 i2 ++ w2 cs q3 u4 120 i2 ++ w2 cs q5 u6 120 i2 ++ w2 cs q7 u8 120 i2) (w1 := w2 cs q9 u10 120 i2) hP hD [9] [0, 1, 2, 3, 4, 5, 6, 7, 8] rfl rfl (by decide) (by decide) hk1 hFc hP1 hD1
  have hP : va_P (dC, dI) vwCl ([(a0, .inr (0, [.int (iI 4), .ref q1, .ref q3, .ref q5, .ref q7, .null, .null, .null, .int (iI (-1)), .int 0, .int 0, .int 0, .int 0, .int 0]))] ++ w2 cs q1 u2 120 i2 ++ w2 cs q3 u4 120 i2 ++ w2 cs q5 u6 120 i2 ++ w2 cs q7 u8 120 i2 ++ w2 cs q9 u10 120 i2) H := hP
  have hD : va_D A ([(a0, .inr (0, [.int (iI 4), .ref q1, .ref q3, .ref q5, .ref q7, .null, .null, .null, .int (iI (-1)), .int 0, .int 0, .int 0, .int 0, .int 0]))] ++ w2 cs q1 u2 120 i2 ++ w2 cs q3 u4 120 i2 ++ w2 cs q5 u6 120 i2 ++ w2 cs q7 u8 120 i2 ++ w2 cs q9 u10 120 i2) := hD
  refine va_putF (D := (dC, dI)) (ci := 0) (v := .ref q9) (ty := .object "BoatRuns$Row") (C := RX0) (T := TX0) (N := 14) hx hb hts hin0 tyX0 tyX0_ok nmX0 hown hK hP hD hS 0 rfl rfl 5 (by decide) (hts (.fieldLink RX0 36 "BoatRuns$Boat" "floats" "LBoatRuns$Row;") (by decide +kernel)) (fun _ h9 => h9) rfl hin rfl (by decide +kernel) rfl rfl (Nat.le_of_ble_eq_true rfl) dX0_init_76 (fun H locs hP hD hS => ?_)
  have hP : va_P (dC, dI) vwCl ([(a0, .inr (0, [.int (iI 4), .ref q1, .ref q3, .ref q5, .ref q7, .ref q9, .null, .null, .int (iI (-1)), .int 0, .int 0, .int 0, .int 0, .int 0]))] ++ w2 cs q1 u2 120 i2 ++ w2 cs q3 u4 120 i2 ++ w2 cs q5 u6 120 i2 ++ w2 cs q7 u8 120 i2 ++ w2 cs q9 u10 120 i2) H := hP
  have hD : va_D A ([(a0, .inr (0, [.int (iI 4), .ref q1, .ref q3, .ref q5, .ref q7, .ref q9, .null, .null, .int (iI (-1)), .int 0, .int 0, .int 0, .int 0, .int 0]))] ++ w2 cs q1 u2 120 i2 ++ w2 cs q3 u4 120 i2 ++ w2 cs q5 u6 120 i2 ++ w2 cs q7 u8 120 i2 ++ w2 cs q9 u10 120 i2) := hD
  refine lv_aload_n hx hb dX0_init_79 rfl (lv_at hl 0 rfl) ?_
  refine va_new (ci := 2) (fs := [.null, .int 0]) (C := RX2) (T := TX2) (N := 2) hx hb hts hin2 tyX2 tyX2_ok hown (hts (.classLink RX0 18 RX2) (by decide +kernel)) (hts (.instantiable RX2 2) (by decide +kernel)) (hts (.initialized RX2) (by decide +kernel)) hK hP hD hS hA rfl (fun j hj => by rcases (show j = 0 ∨ j = 1 by omega) with rfl | rfl <;> rfl) (Nat.le_of_ble_eq_true rfl) (Nat.le_of_ble_eq_true rfl) dX0_init_80 (fun q11 H hP hD hS => ?_)
  have hP : va_P (dC, dI) vwCl ([(a0, .inr (0, [.int (iI 4), .ref q1, .ref q3, .ref q5, .ref q7, .ref q9, .null, .null, .int (iI (-1)), .int 0, .int 0, .int 0, .int 0, .int 0]))] ++ w2 cs q1 u2 120 i2 ++ w2 cs q3 u4 120 i2 ++ w2 cs q5 u6 120 i2 ++ w2 cs q7 u8 120 i2 ++ w2 cs q9 u10 120 i2 ++ [(q11, .inr (2, [.null, .int 0]))]) H := hP
  have hD : va_D A ([(a0, .inr (0, [.int (iI 4), .ref q1, .ref q3, .ref q5, .ref q7, .ref q9, .null, .null, .int (iI (-1)), .int 0, .int 0, .int 0, .int 0, .int 0]))] ++ w2 cs q1 u2 120 i2 ++ w2 cs q3 u4 120 i2 ++ w2 cs q5 u6 120 i2 ++ w2 cs q7 u8 120 i2 ++ w2 cs q9 u10 120 i2 ++ [(q11, .inr (2, [.null, .int 0]))]) := hD
  refine lv_dup hx hb dX0_init_83 rfl ?_
  refine xk_bipush hx hb dX0_init_84 (by decide) ?_
  have hPc := hP.sub (ws' := [(q11, .inr (2, [.null, .int 0]))]) [11] rfl
  have hDc := hD.sub (ws' := [(q11, .inr (2, [.null, .int 0]))]) [11] (by decide) rfl
  have hFc := va_free (wc := [(q11, .inr (2, [.null, .int 0]))]) hD hS hA [11] rfl
  refine va_callv (va_runI (As := [.int (iI 120)]) (rest := [.ref q11, .ref a0]) ⟨hx, hb, hml, hown, hts⟩ (c2_init l dC dI cs q11 H.size 120 (by decide)) (cwI 1 hts gX0_init_X2_init rfl rfl rfl (hts (.initialized RX2) (by decide +kernel)) (hts (.methodLink RX0 20 yX2_init) (by decide +kernel)) (hts (.instanceMethod yX2_init) (by decide +kernel)) rfl (by decide +kernel) ⟨Nat.le_of_ble_eq_true rfl, Nat.le_of_ble_eq_true rfl⟩) ⟨xPW_blind, fun U hU hW => ⟨rfl, by rw [hU], by rw [hU]; exact hPc, va_K.moved hW.alike hK, hDc.weaken (fun _ _ _ _ => trivial)⟩⟩ rfl rfl hl.1 rfl (lv_room (Nat.le_of_ble_eq_true rfl)) dX0_init_86 ⟨Nat.le_of_ble_eq_true rfl, Nat.le_of_ble_eq_true rfl⟩) hS (fun z9 _ h => hFc z9 h) hFc (fun u12 t H locs ht hvm hw hB hz1 hk1 hS => ?_)
  obtain ⟨hP1, hD1⟩ := hB
  rw [ht] at hP1
  obtain ⟨hP, hD⟩ := va_join (wr := [(a0, .inr (0, [.int (iI 4), .ref q1, .ref q3, .ref q5, .ref q7, .ref q9, .null, .null, .int (iI (-1)), .int 0, .int 0, .int 0, .int 0, .int 0]))] ++ w2 cs q1 u2 120 i2 ++ w2 cs q3 u4 120 i2 ++ w2 cs q5 u6 120 i2 ++ w2 cs q7 u8 120 i2 ++ w2 cs q9 u10 120 i2) (w1 := w2 cs q11 u12 120 i2) hP hD [11] [0, 1, 2, 3, 4, 5, 6, 7, 8, 9, 10] rfl rfl (by decide) (by decide) hk1 hFc hP1 hD1
  have hP : va_P (dC, dI) vwCl ([(a0, .inr (0, [.int (iI 4), .ref q1, .ref q3, .ref q5, .ref q7, .ref q9, .null, .null, .int (iI (-1)), .int 0, .int 0, .int 0, .int 0, .int 0]))] ++ w2 cs q1 u2 120 i2 ++ w2 cs q3 u4 120 i2 ++ w2 cs q5 u6 120 i2 ++ w2 cs q7 u8 120 i2 ++ w2 cs q9 u10 120 i2 ++ w2 cs q11 u12 120 i2) H := hP
  have hD : va_D A ([(a0, .inr (0, [.int (iI 4), .ref q1, .ref q3, .ref q5, .ref q7, .ref q9, .null, .null, .int (iI (-1)), .int 0, .int 0, .int 0, .int 0, .int 0]))] ++ w2 cs q1 u2 120 i2 ++ w2 cs q3 u4 120 i2 ++ w2 cs q5 u6 120 i2 ++ w2 cs q7 u8 120 i2 ++ w2 cs q9 u10 120 i2 ++ w2 cs q11 u12 120 i2) := hD
  refine va_putF (D := (dC, dI)) (ci := 0) (v := .ref q11) (ty := .object "BoatRuns$Row") (C := RX0) (T := TX0) (N := 14) hx hb hts hin0 tyX0 tyX0_ok nmX0 hown hK hP hD hS 0 rfl rfl 6 (by decide) (hts (.fieldLink RX0 39 "BoatRuns$Boat" "strengths" "LBoatRuns$Row;") (by decide +kernel)) (fun _ h9 => h9) rfl hin rfl (by decide +kernel) rfl rfl (Nat.le_of_ble_eq_true rfl) dX0_init_89 (fun H locs hP hD hS => ?_)
  have hP : va_P (dC, dI) vwCl ([(a0, .inr (0, [.int (iI 4), .ref q1, .ref q3, .ref q5, .ref q7, .ref q9, .ref q11, .null, .int (iI (-1)), .int 0, .int 0, .int 0, .int 0, .int 0]))] ++ w2 cs q1 u2 120 i2 ++ w2 cs q3 u4 120 i2 ++ w2 cs q5 u6 120 i2 ++ w2 cs q7 u8 120 i2 ++ w2 cs q9 u10 120 i2 ++ w2 cs q11 u12 120 i2) H := hP
  have hD : va_D A ([(a0, .inr (0, [.int (iI 4), .ref q1, .ref q3, .ref q5, .ref q7, .ref q9, .ref q11, .null, .int (iI (-1)), .int 0, .int 0, .int 0, .int 0, .int 0]))] ++ w2 cs q1 u2 120 i2 ++ w2 cs q3 u4 120 i2 ++ w2 cs q5 u6 120 i2 ++ w2 cs q7 u8 120 i2 ++ w2 cs q9 u10 120 i2 ++ w2 cs q11 u12 120 i2) := hD
  refine lv_aload_n hx hb dX0_init_92 rfl (lv_at hl 0 rfl) ?_
  refine va_new (ci := 2) (fs := [.null, .int 0]) (C := RX2) (T := TX2) (N := 2) hx hb hts hin2 tyX2 tyX2_ok hown (hts (.classLink RX0 18 RX2) (by decide +kernel)) (hts (.instantiable RX2 2) (by decide +kernel)) (hts (.initialized RX2) (by decide +kernel)) hK hP hD hS hA rfl (fun j hj => by rcases (show j = 0 ∨ j = 1 by omega) with rfl | rfl <;> rfl) (Nat.le_of_ble_eq_true rfl) (Nat.le_of_ble_eq_true rfl) dX0_init_93 (fun q13 H hP hD hS => ?_)
  have hP : va_P (dC, dI) vwCl ([(a0, .inr (0, [.int (iI 4), .ref q1, .ref q3, .ref q5, .ref q7, .ref q9, .ref q11, .null, .int (iI (-1)), .int 0, .int 0, .int 0, .int 0, .int 0]))] ++ w2 cs q1 u2 120 i2 ++ w2 cs q3 u4 120 i2 ++ w2 cs q5 u6 120 i2 ++ w2 cs q7 u8 120 i2 ++ w2 cs q9 u10 120 i2 ++ w2 cs q11 u12 120 i2 ++ [(q13, .inr (2, [.null, .int 0]))]) H := hP
  have hD : va_D A ([(a0, .inr (0, [.int (iI 4), .ref q1, .ref q3, .ref q5, .ref q7, .ref q9, .ref q11, .null, .int (iI (-1)), .int 0, .int 0, .int 0, .int 0, .int 0]))] ++ w2 cs q1 u2 120 i2 ++ w2 cs q3 u4 120 i2 ++ w2 cs q5 u6 120 i2 ++ w2 cs q7 u8 120 i2 ++ w2 cs q9 u10 120 i2 ++ w2 cs q11 u12 120 i2 ++ [(q13, .inr (2, [.null, .int 0]))]) := hD
  refine lv_dup hx hb dX0_init_96 rfl ?_
  refine xk_bipush hx hb dX0_init_97 (by decide) ?_
  have hPc := hP.sub (ws' := [(q13, .inr (2, [.null, .int 0]))]) [13] rfl
  have hDc := hD.sub (ws' := [(q13, .inr (2, [.null, .int 0]))]) [13] (by decide) rfl
  have hFc := va_free (wc := [(q13, .inr (2, [.null, .int 0]))]) hD hS hA [13] rfl
  refine va_callv (va_runI (As := [.int (iI 120)]) (rest := [.ref q13, .ref a0]) ⟨hx, hb, hml, hown, hts⟩ (c2_init l dC dI cs q13 H.size 120 (by decide)) (cwI 1 hts gX0_init_X2_init rfl rfl rfl (hts (.initialized RX2) (by decide +kernel)) (hts (.methodLink RX0 20 yX2_init) (by decide +kernel)) (hts (.instanceMethod yX2_init) (by decide +kernel)) rfl (by decide +kernel) ⟨Nat.le_of_ble_eq_true rfl, Nat.le_of_ble_eq_true rfl⟩) ⟨xPW_blind, fun U hU hW => ⟨rfl, by rw [hU], by rw [hU]; exact hPc, va_K.moved hW.alike hK, hDc.weaken (fun _ _ _ _ => trivial)⟩⟩ rfl rfl hl.1 rfl (lv_room (Nat.le_of_ble_eq_true rfl)) dX0_init_99 ⟨Nat.le_of_ble_eq_true rfl, Nat.le_of_ble_eq_true rfl⟩) hS (fun z9 _ h => hFc z9 h) hFc (fun u14 t H locs ht hvm hw hB hz1 hk1 hS => ?_)
  obtain ⟨hP1, hD1⟩ := hB
  rw [ht] at hP1
  obtain ⟨hP, hD⟩ := va_join (wr := [(a0, .inr (0, [.int (iI 4), .ref q1, .ref q3, .ref q5, .ref q7, .ref q9, .ref q11, .null, .int (iI (-1)), .int 0, .int 0, .int 0, .int 0, .int 0]))] ++ w2 cs q1 u2 120 i2 ++ w2 cs q3 u4 120 i2 ++ w2 cs q5 u6 120 i2 ++ w2 cs q7 u8 120 i2 ++ w2 cs q9 u10 120 i2 ++ w2 cs q11 u12 120 i2) (w1 := w2 cs q13 u14 120 i2) hP hD [13] [0, 1, 2, 3, 4, 5, 6, 7, 8, 9, 10, 11, 12] rfl rfl (by decide) (by decide) hk1 hFc hP1 hD1
  have hP : va_P (dC, dI) vwCl ([(a0, .inr (0, [.int (iI 4), .ref q1, .ref q3, .ref q5, .ref q7, .ref q9, .ref q11, .null, .int (iI (-1)), .int 0, .int 0, .int 0, .int 0, .int 0]))] ++ w2 cs q1 u2 120 i2 ++ w2 cs q3 u4 120 i2 ++ w2 cs q5 u6 120 i2 ++ w2 cs q7 u8 120 i2 ++ w2 cs q9 u10 120 i2 ++ w2 cs q11 u12 120 i2 ++ w2 cs q13 u14 120 i2) H := hP
  have hD : va_D A ([(a0, .inr (0, [.int (iI 4), .ref q1, .ref q3, .ref q5, .ref q7, .ref q9, .ref q11, .null, .int (iI (-1)), .int 0, .int 0, .int 0, .int 0, .int 0]))] ++ w2 cs q1 u2 120 i2 ++ w2 cs q3 u4 120 i2 ++ w2 cs q5 u6 120 i2 ++ w2 cs q7 u8 120 i2 ++ w2 cs q9 u10 120 i2 ++ w2 cs q11 u12 120 i2 ++ w2 cs q13 u14 120 i2) := hD
  refine va_putF (D := (dC, dI)) (ci := 0) (v := .ref q13) (ty := .object "BoatRuns$Row") (C := RX0) (T := TX0) (N := 14) hx hb hts hin0 tyX0 tyX0_ok nmX0 hown hK hP hD hS 0 rfl rfl 7 (by decide) (hts (.fieldLink RX0 42 "BoatRuns$Boat" "runWeights" "LBoatRuns$Row;") (by decide +kernel)) (fun _ h9 => h9) rfl hin rfl (by decide +kernel) rfl rfl (Nat.le_of_ble_eq_true rfl) dX0_init_102 (fun H locs hP hD hS => ?_)
  have hP : va_P (dC, dI) vwCl ([(a0, .inr (0, [.int (iI 4), .ref q1, .ref q3, .ref q5, .ref q7, .ref q9, .ref q11, .ref q13, .int (iI (-1)), .int 0, .int 0, .int 0, .int 0, .int 0]))] ++ w2 cs q1 u2 120 i2 ++ w2 cs q3 u4 120 i2 ++ w2 cs q5 u6 120 i2 ++ w2 cs q7 u8 120 i2 ++ w2 cs q9 u10 120 i2 ++ w2 cs q11 u12 120 i2 ++ w2 cs q13 u14 120 i2) H := hP
  have hD : va_D A ([(a0, .inr (0, [.int (iI 4), .ref q1, .ref q3, .ref q5, .ref q7, .ref q9, .ref q11, .ref q13, .int (iI (-1)), .int 0, .int 0, .int 0, .int 0, .int 0]))] ++ w2 cs q1 u2 120 i2 ++ w2 cs q3 u4 120 i2 ++ w2 cs q5 u6 120 i2 ++ w2 cs q7 u8 120 i2 ++ w2 cs q9 u10 120 i2 ++ w2 cs q11 u12 120 i2 ++ w2 cs q13 u14 120 i2) := hD
  obtain ⟨aa, haa⟩ : ∃ z : Nat → Nat, z = fun k => [a0, q1, q3, q5, q7, q9, q11, q13, u2, u4, u6, u8, u10, u12, u14].getD k 0 := ⟨_, rfl⟩
  have hP9 : va_P (dC, dI) vwCl (w0 cs aa i0) H := by subst haa; exact hP.sub [0, 1, 3, 5, 7, 9, 11, 13, 2, 4, 6, 8, 10, 12, 14] rfl
  have hD9 : va_D A (w0 cs aa i0) := by subst haa; exact hD.sub [0, 1, 3, 5, 7, 9, 11, 13, 2, 4, 6, 8, 10, 12, 14] (by decide) rfl
  have ha0 : aa 0 = a0 := by rw [haa]; rfl
  subst hAe
  refine W.widen (k := 14) (n := 854) (by omega) (by omega) ?_
  exact W.vret hx hb hr (fun t ht hW => ⟨⟨aa, rfl, trivial, ⟨ha0, by show va_P (dC, dI) vwCl (w0 cs aa i0) t.heap; rw [ht]; exact hP9, hD9⟩⟩, hS.F ht⟩) hS.2.2 dX0_init_105 hlocks
set_option maxHeartbeats 4000000 in
set_option maxRecDepth 100000 in
theorem c3_init (l : Launch) (dC : Nat → ClassId) (dI : Nat → Nat → Nat) (cs : Nat → ClassId) (a0 : Nat) (sz : Nat) : Met l yX3_init wsX3_init ({ frames := 2, cells := 8, slots := 258, locals := 35 } : Room) (va_Pc [.ref a0] (xPW (dC, dI) vwCl ([(a0, .inr (3, [.null, .null, .null, .null, .int 0, .int 0]))]) (xT cs) sz)) (va_Qv (fun _ : Nat → Nat => True) (fun a t => a 0 = a0 ∧ va_P (dC, dI) vwCl (w3 cs a i3) t.heap ∧ va_D (va_A ([(a0, .inr (3, [.null, .null, .null, .null, .int 0, .int 0]))]) sz) (w3 cs a i3)) (va_A ([(a0, .inr (3, [.null, .null, .null, .null, .int 0, .int 0]))]) sz)) 8 258 (va_A ([(a0, .inr (3, [.null, .null, .null, .null, .int 0, .int 0]))]) sz) := by
  refine Met.ofW (cc := cX3_init) (maxL := 1) (ret := none) (by decide) rfl ?_
  intro p e s m args below meth c s₁ B hml hv
  obtain ⟨rfl, hsz, hP, hK, hD0⟩ := hv
  have hx := B.exec
  have hb := B.bytes
  have hr := B.returns
  have hts := atoms_spec (ws := wsX3_init) B.pre
  have hown : s.vm.findClass RX3 = some m.cls := findClass_of_methodNamed B.named
  have hlocks := B.notSynchronized
  have hin : meth.name = "<init>" := (name_of_methodNamed B.named B.method).1
  have hin2 : ∀ w ∈ wsX20, w ∈ wsX3_init := by decide +kernel
  have hin3 : ∀ w ∈ wsX30, w ∈ wsX3_init := by decide +kernel
  subst hsz
  have hD := hD0.self (sz := s.heap.size)
  generalize hAe : va_A ([(a0, .inr (3, [.null, .null, .null, .null, .int 0, .int 0]))]) s.heap.size = A at hD ⊢
  have hA : ∀ z9 : Nat, s.heap.size ≤ z9 → A z9 := fun z9 h => by rw [← hAe]; exact Or.inr h
  have hS : va_S A s.heap s.heap [] := va_S.rf
  have hl := lv_entry [.ref a0] (n := 1) (Nat.le_of_ble_eq_true rfl)
  rw [lg_entry_eq]
  generalize (lg_sl [.ref a0] ++ List.replicate (1 - (lg_sl [.ref a0]).length) Slot.unset).toArray = ls at hl ⊢
  have hl : lv_has ls 1 [(0, .ref a0)] := hl
  refine lv_aload_n hx hb dX3_init_0 rfl (lv_at hl 0 rfl) ?_
  refine W.objInit hx hb hown (hts (.methodLink RX3 3 objectInit) (by decide +kernel)) (hts (.instanceMethod objectInit) (by decide +kernel)) (hts (.code objectInit ⟨#[0xb1]⟩ 1 none) (by decide +kernel)) rfl (by rw [hml]; exact hl.1) rfl dX3_init_1 (Nat.le_of_ble_eq_true rfl) (Nat.le_of_ble_eq_true rfl) ?_
  refine W.eq (g2 := F0 m 4 ls []) rfl ?_
  refine lv_aload_n hx hb dX3_init_4 rfl (lv_at hl 0 rfl) ?_
  refine va_new (ci := 2) (fs := [.null, .int 0]) (C := RX2) (T := TX2) (N := 2) hx hb hts hin2 tyX2 tyX2_ok hown (hts (.classLink RX3 9 RX2) (by decide +kernel)) (hts (.instantiable RX2 2) (by decide +kernel)) (hts (.initialized RX2) (by decide +kernel)) hK hP hD hS hA rfl (fun j hj => by rcases (show j = 0 ∨ j = 1 by omega) with rfl | rfl <;> rfl) (Nat.le_of_ble_eq_true rfl) (Nat.le_of_ble_eq_true rfl) dX3_init_5 (fun q1 H hP hD hS => ?_)
  have hP : va_P (dC, dI) vwCl ([(a0, .inr (3, [.null, .null, .null, .null, .int 0, .int 0]))] ++ [(q1, .inr (2, [.null, .int 0]))]) H := hP
  have hD : va_D A ([(a0, .inr (3, [.null, .null, .null, .null, .int 0, .int 0]))] ++ [(q1, .inr (2, [.null, .int 0]))]) := hD
  refine lv_dup hx hb dX3_init_8 rfl ?_
  refine xk_bipush hx hb dX3_init_9 (by decide) ?_
  have hPc := hP.sub (ws' := [(q1, .inr (2, [.null, .int 0]))]) [1] rfl
  have hDc := hD.sub (ws' := [(q1, .inr (2, [.null, .int 0]))]) [1] (by decide) rfl
  have hFc := va_free (wc := [(q1, .inr (2, [.null, .int 0]))]) hD hS hA [1] rfl
  refine va_callv (va_runI (As := [.int (iI 100)]) (rest := [.ref q1, .ref a0]) ⟨hx, hb, hml, hown, hts⟩ (c2_init l dC dI cs q1 H.size 100 (by decide)) (cwI 1 hts gX3_init_X2_init rfl rfl rfl (hts (.initialized RX2) (by decide +kernel)) (hts (.methodLink RX3 11 yX2_init) (by decide +kernel)) (hts (.instanceMethod yX2_init) (by decide +kernel)) rfl (by decide +kernel) ⟨Nat.le_of_ble_eq_true rfl, Nat.le_of_ble_eq_true rfl⟩) ⟨xPW_blind, fun U hU hW => ⟨rfl, by rw [hU], by rw [hU]; exact hPc, va_K.moved hW.alike hK, hDc.weaken (fun _ _ _ _ => trivial)⟩⟩ rfl rfl hl.1 rfl (lv_room (Nat.le_of_ble_eq_true rfl)) dX3_init_11 ⟨Nat.le_of_ble_eq_true rfl, Nat.le_of_ble_eq_true rfl⟩) hS (fun z9 _ h => hFc z9 h) hFc (fun u2 t H locs ht hvm hw hB hz1 hk1 hS => ?_)
  obtain ⟨hP1, hD1⟩ := hB
  rw [ht] at hP1
  obtain ⟨hP, hD⟩ := va_join (wr := [(a0, .inr (3, [.null, .null, .null, .null, .int 0, .int 0]))]) (w1 := w2 cs q1 u2 100 i2) hP hD [1] [0] rfl rfl (by decide) (by decide) hk1 hFc hP1 hD1
  have hP : va_P (dC, dI) vwCl ([(a0, .inr (3, [.null, .null, .null, .null, .int 0, .int 0]))] ++ w2 cs q1 u2 100 i2) H := hP
  have hD : va_D A ([(a0, .inr (3, [.null, .null, .null, .null, .int 0, .int 0]))] ++ w2 cs q1 u2 100 i2) := hD
  refine va_putF (D := (dC, dI)) (ci := 3) (v := .ref q1) (ty := .object "BoatRuns$Row") (C := RX3) (T := TX3) (N := 6) hx hb hts hin3 tyX3 tyX3_ok nmX3 hown hK hP hD hS 0 rfl rfl 0 (by decide) (hts (.fieldLink RX3 14 "BoatRuns$Text" "bytes" "LBoatRuns$Row;") (by decide +kernel)) (fun _ h9 => h9) rfl hin rfl (by decide +kernel) rfl rfl (Nat.le_of_ble_eq_true rfl) dX3_init_14 (fun H locs hP hD hS => ?_)
  have hP : va_P (dC, dI) vwCl ([(a0, .inr (3, [.ref q1, .null, .null, .null, .int 0, .int 0]))] ++ w2 cs q1 u2 100 i2) H := hP
  have hD : va_D A ([(a0, .inr (3, [.ref q1, .null, .null, .null, .int 0, .int 0]))] ++ w2 cs q1 u2 100 i2) := hD
  refine lv_aload_n hx hb dX3_init_17 rfl (lv_at hl 0 rfl) ?_
  refine va_new (ci := 2) (fs := [.null, .int 0]) (C := RX2) (T := TX2) (N := 2) hx hb hts hin2 tyX2 tyX2_ok hown (hts (.classLink RX3 9 RX2) (by decide +kernel)) (hts (.instantiable RX2 2) (by decide +kernel)) (hts (.initialized RX2) (by decide +kernel)) hK hP hD hS hA rfl (fun j hj => by rcases (show j = 0 ∨ j = 1 by omega) with rfl | rfl <;> rfl) (Nat.le_of_ble_eq_true rfl) (Nat.le_of_ble_eq_true rfl) dX3_init_18 (fun q3 H hP hD hS => ?_)
  have hP : va_P (dC, dI) vwCl ([(a0, .inr (3, [.ref q1, .null, .null, .null, .int 0, .int 0]))] ++ w2 cs q1 u2 100 i2 ++ [(q3, .inr (2, [.null, .int 0]))]) H := hP
  have hD : va_D A ([(a0, .inr (3, [.ref q1, .null, .null, .null, .int 0, .int 0]))] ++ w2 cs q1 u2 100 i2 ++ [(q3, .inr (2, [.null, .int 0]))]) := hD
  refine lv_dup hx hb dX3_init_21 rfl ?_
  refine xk_bipush hx hb dX3_init_22 (by decide) ?_
  have hPc := hP.sub (ws' := [(q3, .inr (2, [.null, .int 0]))]) [3] rfl
  have hDc := hD.sub (ws' := [(q3, .inr (2, [.null, .int 0]))]) [3] (by decide) rfl
  have hFc := va_free (wc := [(q3, .inr (2, [.null, .int 0]))]) hD hS hA [3] rfl
  refine va_callv (va_runI (As := [.int (iI 50)]) (rest := [.ref q3, .ref a0]) ⟨hx, hb, hml, hown, hts⟩ (c2_init l dC dI cs q3 H.size 50 (by decide)) (cwI 1 hts gX3_init_X2_init rfl rfl rfl (hts (.initialized RX2) (by decide +kernel)) (hts (.methodLink RX3 11 yX2_init) (by decide +kernel)) (hts (.instanceMethod yX2_init) (by decide +kernel)) rfl (by decide +kernel) ⟨Nat.le_of_ble_eq_true rfl, Nat.le_of_ble_eq_true rfl⟩) ⟨xPW_blind, fun U hU hW => ⟨rfl, by rw [hU], by rw [hU]; exact hPc, va_K.moved hW.alike hK, hDc.weaken (fun _ _ _ _ => trivial)⟩⟩ rfl rfl hl.1 rfl (lv_room (Nat.le_of_ble_eq_true rfl)) dX3_init_24 ⟨Nat.le_of_ble_eq_true rfl, Nat.le_of_ble_eq_true rfl⟩) hS (fun z9 _ h => hFc z9 h) hFc (fun u4 t H locs ht hvm hw hB hz1 hk1 hS => ?_)
  obtain ⟨hP1, hD1⟩ := hB
  rw [ht] at hP1
  obtain ⟨hP, hD⟩ := va_join (wr := [(a0, .inr (3, [.ref q1, .null, .null, .null, .int 0, .int 0]))] ++ w2 cs q1 u2 100 i2) (w1 := w2 cs q3 u4 50 i2) hP hD [3] [0, 1, 2] rfl rfl (by decide) (by decide) hk1 hFc hP1 hD1
  have hP : va_P (dC, dI) vwCl ([(a0, .inr (3, [.ref q1, .null, .null, .null, .int 0, .int 0]))] ++ w2 cs q1 u2 100 i2 ++ w2 cs q3 u4 50 i2) H := hP
  have hD : va_D A ([(a0, .inr (3, [.ref q1, .null, .null, .null, .int 0, .int 0]))] ++ w2 cs q1 u2 100 i2 ++ w2 cs q3 u4 50 i2) := hD
  refine va_putF (D := (dC, dI)) (ci := 3) (v := .ref q3) (ty := .object "BoatRuns$Row") (C := RX3) (T := TX3) (N := 6) hx hb hts hin3 tyX3 tyX3_ok nmX3 hown hK hP hD hS 0 rfl rfl 1 (by decide) (hts (.fieldLink RX3 20 "BoatRuns$Text" "kinds" "LBoatRuns$Row;") (by decide +kernel)) (fun _ h9 => h9) rfl hin rfl (by decide +kernel) rfl rfl (Nat.le_of_ble_eq_true rfl) dX3_init_27 (fun H locs hP hD hS => ?_)
  have hP : va_P (dC, dI) vwCl ([(a0, .inr (3, [.ref q1, .ref q3, .null, .null, .int 0, .int 0]))] ++ w2 cs q1 u2 100 i2 ++ w2 cs q3 u4 50 i2) H := hP
  have hD : va_D A ([(a0, .inr (3, [.ref q1, .ref q3, .null, .null, .int 0, .int 0]))] ++ w2 cs q1 u2 100 i2 ++ w2 cs q3 u4 50 i2) := hD
  refine lv_aload_n hx hb dX3_init_30 rfl (lv_at hl 0 rfl) ?_
  refine va_new (ci := 2) (fs := [.null, .int 0]) (C := RX2) (T := TX2) (N := 2) hx hb hts hin2 tyX2 tyX2_ok hown (hts (.classLink RX3 9 RX2) (by decide +kernel)) (hts (.instantiable RX2 2) (by decide +kernel)) (hts (.initialized RX2) (by decide +kernel)) hK hP hD hS hA rfl (fun j hj => by rcases (show j = 0 ∨ j = 1 by omega) with rfl | rfl <;> rfl) (Nat.le_of_ble_eq_true rfl) (Nat.le_of_ble_eq_true rfl) dX3_init_31 (fun q5 H hP hD hS => ?_)
  have hP : va_P (dC, dI) vwCl ([(a0, .inr (3, [.ref q1, .ref q3, .null, .null, .int 0, .int 0]))] ++ w2 cs q1 u2 100 i2 ++ w2 cs q3 u4 50 i2 ++ [(q5, .inr (2, [.null, .int 0]))]) H := hP
  have hD : va_D A ([(a0, .inr (3, [.ref q1, .ref q3, .null, .null, .int 0, .int 0]))] ++ w2 cs q1 u2 100 i2 ++ w2 cs q3 u4 50 i2 ++ [(q5, .inr (2, [.null, .int 0]))]) := hD
  refine lv_dup hx hb dX3_init_34 rfl ?_
  refine xk_bipush hx hb dX3_init_35 (by decide) ?_
  have hPc := hP.sub (ws' := [(q5, .inr (2, [.null, .int 0]))]) [5] rfl
  have hDc := hD.sub (ws' := [(q5, .inr (2, [.null, .int 0]))]) [5] (by decide) rfl
  have hFc := va_free (wc := [(q5, .inr (2, [.null, .int 0]))]) hD hS hA [5] rfl
  refine va_callv (va_runI (As := [.int (iI 50)]) (rest := [.ref q5, .ref a0]) ⟨hx, hb, hml, hown, hts⟩ (c2_init l dC dI cs q5 H.size 50 (by decide)) (cwI 1 hts gX3_init_X2_init rfl rfl rfl (hts (.initialized RX2) (by decide +kernel)) (hts (.methodLink RX3 11 yX2_init) (by decide +kernel)) (hts (.instanceMethod yX2_init) (by decide +kernel)) rfl (by decide +kernel) ⟨Nat.le_of_ble_eq_true rfl, Nat.le_of_ble_eq_true rfl⟩) ⟨xPW_blind, fun U hU hW => ⟨rfl, by rw [hU], by rw [hU]; exact hPc, va_K.moved hW.alike hK, hDc.weaken (fun _ _ _ _ => trivial)⟩⟩ rfl rfl hl.1 rfl (lv_room (Nat.le_of_ble_eq_true rfl)) dX3_init_37 ⟨Nat.le_of_ble_eq_true rfl, Nat.le_of_ble_eq_true rfl⟩) hS (fun z9 _ h => hFc z9 h) hFc (fun u6 t H locs ht hvm hw hB hz1 hk1 hS => ?_)
  obtain ⟨hP1, hD1⟩ := hB
  rw [ht] at hP1
  obtain ⟨hP, hD⟩ := va_join (wr := [(a0, .inr (3, [.ref q1, .ref q3, .null, .null, .int 0, .int 0]))] ++ w2 cs q1 u2 100 i2 ++ w2 cs q3 u4 50 i2) (w1 := w2 cs q5 u6 50 i2) hP hD [5] [0, 1, 2, 3, 4] rfl rfl (by decide) (by decide) hk1 hFc hP1 hD1
  have hP : va_P (dC, dI) vwCl ([(a0, .inr (3, [.ref q1, .ref q3, .null, .null, .int 0, .int 0]))] ++ w2 cs q1 u2 100 i2 ++ w2 cs q3 u4 50 i2 ++ w2 cs q5 u6 50 i2) H := hP
  have hD : va_D A ([(a0, .inr (3, [.ref q1, .ref q3, .null, .null, .int 0, .int 0]))] ++ w2 cs q1 u2 100 i2 ++ w2 cs q3 u4 50 i2 ++ w2 cs q5 u6 50 i2) := hD
  refine va_putF (D := (dC, dI)) (ci := 3) (v := .ref q5) (ty := .object "BoatRuns$Row") (C := RX3) (T := TX3) (N := 6) hx hb hts hin3 tyX3 tyX3_ok nmX3 hown hK hP hD hS 0 rfl rfl 2 (by decide) (hts (.fieldLink RX3 23 "BoatRuns$Text" "firsts" "LBoatRuns$Row;") (by decide +kernel)) (fun _ h9 => h9) rfl hin rfl (by decide +kernel) rfl rfl (Nat.le_of_ble_eq_true rfl) dX3_init_40 (fun H locs hP hD hS => ?_)
  have hP : va_P (dC, dI) vwCl ([(a0, .inr (3, [.ref q1, .ref q3, .ref q5, .null, .int 0, .int 0]))] ++ w2 cs q1 u2 100 i2 ++ w2 cs q3 u4 50 i2 ++ w2 cs q5 u6 50 i2) H := hP
  have hD : va_D A ([(a0, .inr (3, [.ref q1, .ref q3, .ref q5, .null, .int 0, .int 0]))] ++ w2 cs q1 u2 100 i2 ++ w2 cs q3 u4 50 i2 ++ w2 cs q5 u6 50 i2) := hD
  refine lv_aload_n hx hb dX3_init_43 rfl (lv_at hl 0 rfl) ?_
  refine va_new (ci := 2) (fs := [.null, .int 0]) (C := RX2) (T := TX2) (N := 2) hx hb hts hin2 tyX2 tyX2_ok hown (hts (.classLink RX3 9 RX2) (by decide +kernel)) (hts (.instantiable RX2 2) (by decide +kernel)) (hts (.initialized RX2) (by decide +kernel)) hK hP hD hS hA rfl (fun j hj => by rcases (show j = 0 ∨ j = 1 by omega) with rfl | rfl <;> rfl) (Nat.le_of_ble_eq_true rfl) (Nat.le_of_ble_eq_true rfl) dX3_init_44 (fun q7 H hP hD hS => ?_)
  have hP : va_P (dC, dI) vwCl ([(a0, .inr (3, [.ref q1, .ref q3, .ref q5, .null, .int 0, .int 0]))] ++ w2 cs q1 u2 100 i2 ++ w2 cs q3 u4 50 i2 ++ w2 cs q5 u6 50 i2 ++ [(q7, .inr (2, [.null, .int 0]))]) H := hP
  have hD : va_D A ([(a0, .inr (3, [.ref q1, .ref q3, .ref q5, .null, .int 0, .int 0]))] ++ w2 cs q1 u2 100 i2 ++ w2 cs q3 u4 50 i2 ++ w2 cs q5 u6 50 i2 ++ [(q7, .inr (2, [.null, .int 0]))]) := hD
  refine lv_dup hx hb dX3_init_47 rfl ?_
  refine xk_bipush hx hb dX3_init_48 (by decide) ?_
  have hPc := hP.sub (ws' := [(q7, .inr (2, [.null, .int 0]))]) [7] rfl
  have hDc := hD.sub (ws' := [(q7, .inr (2, [.null, .int 0]))]) [7] (by decide) rfl
  have hFc := va_free (wc := [(q7, .inr (2, [.null, .int 0]))]) hD hS hA [7] rfl
  refine va_callv (va_runI (As := [.int (iI 50)]) (rest := [.ref q7, .ref a0]) ⟨hx, hb, hml, hown, hts⟩ (c2_init l dC dI cs q7 H.size 50 (by decide)) (cwI 1 hts gX3_init_X2_init rfl rfl rfl (hts (.initialized RX2) (by decide +kernel)) (hts (.methodLink RX3 11 yX2_init) (by decide +kernel)) (hts (.instanceMethod yX2_init) (by decide +kernel)) rfl (by decide +kernel) ⟨Nat.le_of_ble_eq_true rfl, Nat.le_of_ble_eq_true rfl⟩) ⟨xPW_blind, fun U hU hW => ⟨rfl, by rw [hU], by rw [hU]; exact hPc, va_K.moved hW.alike hK, hDc.weaken (fun _ _ _ _ => trivial)⟩⟩ rfl rfl hl.1 rfl (lv_room (Nat.le_of_ble_eq_true rfl)) dX3_init_50 ⟨Nat.le_of_ble_eq_true rfl, Nat.le_of_ble_eq_true rfl⟩) hS (fun z9 _ h => hFc z9 h) hFc (fun u8 t H locs ht hvm hw hB hz1 hk1 hS => ?_)
  obtain ⟨hP1, hD1⟩ := hB
  rw [ht] at hP1
  obtain ⟨hP, hD⟩ := va_join (wr := [(a0, .inr (3, [.ref q1, .ref q3, .ref q5, .null, .int 0, .int 0]))] ++ w2 cs q1 u2 100 i2 ++ w2 cs q3 u4 50 i2 ++ w2 cs q5 u6 50 i2) (w1 := w2 cs q7 u8 50 i2) hP hD [7] [0, 1, 2, 3, 4, 5, 6] rfl rfl (by decide) (by decide) hk1 hFc hP1 hD1
  have hP : va_P (dC, dI) vwCl ([(a0, .inr (3, [.ref q1, .ref q3, .ref q5, .null, .int 0, .int 0]))] ++ w2 cs q1 u2 100 i2 ++ w2 cs q3 u4 50 i2 ++ w2 cs q5 u6 50 i2 ++ w2 cs q7 u8 50 i2) H := hP
  have hD : va_D A ([(a0, .inr (3, [.ref q1, .ref q3, .ref q5, .null, .int 0, .int 0]))] ++ w2 cs q1 u2 100 i2 ++ w2 cs q3 u4 50 i2 ++ w2 cs q5 u6 50 i2 ++ w2 cs q7 u8 50 i2) := hD
  refine va_putF (D := (dC, dI)) (ci := 3) (v := .ref q7) (ty := .object "BoatRuns$Row") (C := RX3) (T := TX3) (N := 6) hx hb hts hin3 tyX3 tyX3_ok nmX3 hown hK hP hD hS 0 rfl rfl 3 (by decide) (hts (.fieldLink RX3 26 "BoatRuns$Text" "seconds" "LBoatRuns$Row;") (by decide +kernel)) (fun _ h9 => h9) rfl hin rfl (by decide +kernel) rfl rfl (Nat.le_of_ble_eq_true rfl) dX3_init_53 (fun H locs hP hD hS => ?_)
  have hP : va_P (dC, dI) vwCl ([(a0, .inr (3, [.ref q1, .ref q3, .ref q5, .ref q7, .int 0, .int 0]))] ++ w2 cs q1 u2 100 i2 ++ w2 cs q3 u4 50 i2 ++ w2 cs q5 u6 50 i2 ++ w2 cs q7 u8 50 i2) H := hP
  have hD : va_D A ([(a0, .inr (3, [.ref q1, .ref q3, .ref q5, .ref q7, .int 0, .int 0]))] ++ w2 cs q1 u2 100 i2 ++ w2 cs q3 u4 50 i2 ++ w2 cs q5 u6 50 i2 ++ w2 cs q7 u8 50 i2) := hD
  refine lv_aload_n hx hb dX3_init_56 rfl (lv_at hl 0 rfl) ?_
  refine xk_iconst hx hb dX3_init_57 ?_
  refine va_put (D := (dC, dI)) (ci := 3) (v := .int (iI (-1))) (ty := .int) (C := RX3) (T := TX3) (N := 6) hx hb hts hin3 tyX3 tyX3_ok nmX3 hown hK hP hD hS 0 rfl rfl 5 (by decide) (hts (.fieldLink RX3 29 "BoatRuns$Text" "error" "I") (by decide +kernel)) (fun _ h9 => h9) rfl (by decide +kernel) rfl rfl (Nat.le_of_ble_eq_true rfl) dX3_init_58 (fun H locs hP hD hS => ?_)
  have hP : va_P (dC, dI) vwCl ([(a0, .inr (3, [.ref q1, .ref q3, .ref q5, .ref q7, .int 0, .int (iI (-1))]))] ++ w2 cs q1 u2 100 i2 ++ w2 cs q3 u4 50 i2 ++ w2 cs q5 u6 50 i2 ++ w2 cs q7 u8 50 i2) H := hP
  have hD : va_D A ([(a0, .inr (3, [.ref q1, .ref q3, .ref q5, .ref q7, .int 0, .int (iI (-1))]))] ++ w2 cs q1 u2 100 i2 ++ w2 cs q3 u4 50 i2 ++ w2 cs q5 u6 50 i2 ++ w2 cs q7 u8 50 i2) := hD
  obtain ⟨aa, haa⟩ : ∃ z : Nat → Nat, z = fun k => [a0, q1, q3, q5, q7, u2, u4, u6, u8].getD k 0 := ⟨_, rfl⟩
  have hP9 : va_P (dC, dI) vwCl (w3 cs aa i3) H := by subst haa; exact hP.sub [0, 1, 3, 5, 7, 2, 4, 6, 8] rfl
  have hD9 : va_D A (w3 cs aa i3) := by subst haa; exact hD.sub [0, 1, 3, 5, 7, 2, 4, 6, 8] (by decide) rfl
  have ha0 : aa 0 = a0 := by rw [haa]; rfl
  subst hAe
  refine W.widen (k := 8) (n := 258) (by omega) (by omega) ?_
  exact W.vret hx hb hr (fun t ht hW => ⟨⟨aa, rfl, trivial, ⟨ha0, by show va_P (dC, dI) vwCl (w3 cs aa i3) t.heap; rw [ht]; exact hP9, hD9⟩⟩, hS.F ht⟩) hS.2.2 dX3_init_61 hlocks
theorem xAO_warm {C : String} {s U : State} (hW : s.WarmedH U.vm) (h : va_AO C s) : va_AO C U := va_AO.moved hW.alike h
theorem x_hpE (a0 q : Nat) (u0 u1 u2 u3 : Nat → Nat) : (va_up (va_up (va_up (va_up (fun _ => none) (iI 0).toNatClampNeg (some (u0 0))) (iI 1).toNatClampNeg (some (u1 0))) (iI 2).toNatClampNeg (some (u2 0))) (iI 3).toNatClampNeg (some (u3 0))) = (fun k : Nat => x_hp (fun k => if k < 1 then a0 else if k < 2 then q else if k < 17 then u0 (k - 2) else if k < 32 then u1 (k - 17) else if k < 47 then u2 (k - 32) else u3 (k - 47)) (k : Int)) := by
  funext k
  have e0 : (iI 0).toNatClampNeg = 0 := by decide
  have e1 : (iI 1).toNatClampNeg = 1 := by decide
  have e2 : (iI 2).toNatClampNeg = 2 := by decide
  have e3 : (iI 3).toNatClampNeg = 3 := by decide
  rw [e0, e1, e2, e3]
  unfold va_up x_hp
  match k with
  | 0 => rfl
  | 1 => rfl
  | 2 => rfl
  | 3 => rfl
  | k + 4 =>
    rw [if_neg (by omega), if_neg (by omega), if_neg (by omega), if_neg (by omega), if_neg (by omega), if_neg (by omega), if_neg (by omega), if_neg (by omega)]
set_option maxHeartbeats 4000000 in
set_option maxRecDepth 100000 in
theorem c1_init (l : Launch) (dC : Nat → ClassId) (dI : Nat → Nat → Nat) (cs : Nat → ClassId) (a0 : Nat) (sz : Nat) : Met l yX1_init wsX1_init ({ frames := 3, cells := 61, slots := 3476, locals := 55 } : Room) (va_Pc [.ref a0] (xPN (dC, dI) vwCl ([(a0, .inr (1, [.null, .int 0, .int 0]))]) (xT cs) sz)) (va_Qv (fun _ : Nat → Nat => True) (fun a t => a 0 = a0 ∧ va_P (dC, dI) vwCl ((w1 cs a i1).flatten) t.heap ∧ va_D (va_A ([(a0, .inr (1, [.null, .int 0, .int 0]))]) sz) ((w1 cs a i1).flatten)) (va_A ([(a0, .inr (1, [.null, .int 0, .int 0]))]) sz)) 61 3476 (va_A ([(a0, .inr (1, [.null, .int 0, .int 0]))]) sz) := by
  refine Met.ofW (cc := cX1_init) (maxL := 2) (ret := none) (by decide) rfl ?_
  intro p e s m args below meth c s₁ B hml hv
  obtain ⟨rfl, ⟨hsz, hP, hK, hD0⟩, hAO⟩ := hv
  have hx := B.exec
  have hb := B.bytes
  have hr := B.returns
  have hts := atoms_spec (ws := wsX1_init) B.pre
  have hown : s.vm.findClass RX1 = some m.cls := findClass_of_methodNamed B.named
  have hlocks := B.notSynchronized
  have hin : meth.name = "<init>" := (name_of_methodNamed B.named B.method).1
  have hin0 : ∀ w ∈ wsX00, w ∈ wsX1_init := by decide +kernel
  have hin1 : ∀ w ∈ wsX10, w ∈ wsX1_init := by decide +kernel
  subst hsz
  have hD := hD0.self (sz := s.heap.size)
  generalize hAe : va_A ([(a0, .inr (1, [.null, .int 0, .int 0]))]) s.heap.size = A at hD ⊢
  have hA : ∀ z9 : Nat, s.heap.size ≤ z9 → A z9 := fun z9 h => by rw [← hAe]; exact Or.inr h
  have hS : va_S A s.heap s.heap [] := va_S.rf
  have hl := lv_entry [.ref a0] (n := 2) (Nat.le_of_ble_eq_true rfl)
  rw [lg_entry_eq]
  generalize (lg_sl [.ref a0] ++ List.replicate (2 - (lg_sl [.ref a0]).length) Slot.unset).toArray = ls at hl ⊢
  have hl : lv_has ls 2 [(0, .ref a0)] := hl
  refine lv_aload_n hx hb dX1_init_0 rfl (lv_at hl 0 rfl) ?_
  refine W.objInit hx hb hown (hts (.methodLink RX1 3 objectInit) (by decide +kernel)) (hts (.instanceMethod objectInit) (by decide +kernel)) (hts (.code objectInit ⟨#[0xb1]⟩ 1 none) (by decide +kernel)) rfl (by rw [hml]; exact hl.1) rfl dX1_init_1 (Nat.le_of_ble_eq_true rfl) (Nat.le_of_ble_eq_true rfl) ?_
  refine W.eq (g2 := F0 m 4 ls []) rfl ?_
  refine lv_aload_n hx hb dX1_init_4 rfl (lv_at hl 0 rfl) ?_
  refine xk_iconst hx hb dX1_init_5 ?_
  refine va_newq (C := RX0) hx hb hown (hts (.classLink RX1 9 RX0) (by decide +kernel)) hAO hK hP hD hS hA (N' := 4) (by decide) (by decide) (Nat.le_of_ble_eq_true rfl) (Nat.le_of_ble_eq_true rfl) (Nat.le_of_ble_eq_true rfl) dX1_init_6 (fun q1 cA H hK1 hP hD hS => ?_)
  obtain rfl := x_kindO 2 hK1 (cB := cs 2) rfl
  have hP : va_P (dC, dI) vwCl ([(a0, .inr (1, [.null, .int 0, .int 0]))] ++ [(q1, .inl (cs 2, 4, .inr (.inr (.inr (.inr (fun _ => none))))))]) H := hP
  have hD : va_D A ([(a0, .inr (1, [.null, .int 0, .int 0]))] ++ [(q1, .inl (cs 2, 4, .inr (.inr (.inr (.inr (fun _ => none))))))]) := hD
  refine va_putF (D := (dC, dI)) (ci := 1) (v := .ref q1) (ty := .array (.object "BoatRuns$Boat")) (C := RX1) (T := TX1) (N := 3) hx hb hts hin1 tyX1 tyX1_ok nmX1 hown hK hP hD hS 0 rfl rfl 0 (by decide) (hts (.fieldLink RX1 11 "BoatRuns$History" "places" "[LBoatRuns$Boat;") (by decide +kernel)) (fun _ h9 => h9) rfl hin rfl (by decide +kernel) rfl rfl (Nat.le_of_ble_eq_true rfl) dX1_init_9 (fun H locs hP hD hS => ?_)
  have hP : va_P (dC, dI) vwCl ([(a0, .inr (1, [.ref q1, .int 0, .int 0]))] ++ [(q1, .inl (cs 2, 4, .inr (.inr (.inr (.inr (fun _ => none))))))]) H := hP
  have hD : va_D A ([(a0, .inr (1, [.ref q1, .int 0, .int 0]))] ++ [(q1, .inl (cs 2, 4, .inr (.inr (.inr (.inr (fun _ => none))))))]) := hD
  refine xk_iconst hx hb dX1_init_12 ?_
  refine lv_istore_n (lv' := [(1, .int (iI 0)), (0, .ref a0)]) hx hb dX1_init_13 rfl hl (by decide) rfl (fun ls hl => ?_)
  refine lv_iload_n hx hb dX1_init_14 rfl (lv_at hl 0 rfl) ?_
  refine lv_aload_n hx hb dX1_init_15 rfl (lv_at hl 1 rfl) ?_
  refine va_get (D := (dC, dI)) (ci := 1) (v := .ref q1) (C := RX1) (T := TX1) (N := 3) hx hb hts hin1 hown hK hP 0 rfl rfl 0 (by decide) (hts (.fieldLink RX1 11 "BoatRuns$History" "places" "[LBoatRuns$Boat;") (by decide +kernel)) (fun _ h9 => h9) rfl dX1_init_16 ?_
  refine xk_alen hx hb hK hP 1 2 rfl rfl dX1_init_19 ?_
  refine xk_icmp_ge (x := 0) (y := ((4 : Nat) : Int)) (tgt := 42) hx hb (by decide) (by decide) dX1_init_20 (by decide) (fun c9 => ?_) (fun c9 => ?_)
  rotate_left
  · exact absurd (by decide) c9
  refine lv_aload_n hx hb dX1_init_23 rfl (lv_at hl 1 rfl) ?_
  refine va_get (D := (dC, dI)) (ci := 1) (v := .ref q1) (C := RX1) (T := TX1) (N := 3) hx hb hts hin1 hown hK hP 0 rfl rfl 0 (by decide) (hts (.fieldLink RX1 11 "BoatRuns$History" "places" "[LBoatRuns$Boat;") (by decide +kernel)) (fun _ h9 => h9) rfl dX1_init_24 ?_
  refine lv_iload_n hx hb dX1_init_27 rfl (lv_at hl 0 rfl) ?_
  refine va_new (ci := 0) (fs := [.int 0, .null, .null, .null, .null, .null, .null, .null, .int 0, .int 0, .int 0, .int 0, .int 0, .int 0]) (C := RX0) (T := TX0) (N := 14) hx hb hts hin0 tyX0 tyX0_ok hown (hts (.classLink RX1 9 RX0) (by decide +kernel)) (hts (.instantiable RX0 14) (by decide +kernel)) (hts (.initialized RX0) (by decide +kernel)) hK hP hD hS hA rfl (fun j hj => by rcases (show j = 0 ∨ j = 1 ∨ j = 2 ∨ j = 3 ∨ j = 4 ∨ j = 5 ∨ j = 6 ∨ j = 7 ∨ j = 8 ∨ j = 9 ∨ j = 10 ∨ j = 11 ∨ j = 12 ∨ j = 13 by omega) with rfl | rfl | rfl | rfl | rfl | rfl | rfl | rfl | rfl | rfl | rfl | rfl | rfl | rfl <;> rfl) (Nat.le_of_ble_eq_true rfl) (Nat.le_of_ble_eq_true rfl) dX1_init_28 (fun q2 H hP hD hS => ?_)
  have hP : va_P (dC, dI) vwCl ([(a0, .inr (1, [.ref q1, .int 0, .int 0]))] ++ [(q1, .inl (cs 2, 4, .inr (.inr (.inr (.inr (fun _ => none))))))] ++ [(q2, .inr (0, [.int 0, .null, .null, .null, .null, .null, .null, .null, .int 0, .int 0, .int 0, .int 0, .int 0, .int 0]))]) H := hP
  have hD : va_D A ([(a0, .inr (1, [.ref q1, .int 0, .int 0]))] ++ [(q1, .inl (cs 2, 4, .inr (.inr (.inr (.inr (fun _ => none))))))] ++ [(q2, .inr (0, [.int 0, .null, .null, .null, .null, .null, .null, .null, .int 0, .int 0, .int 0, .int 0, .int 0, .int 0]))]) := hD
  refine lv_dup hx hb dX1_init_31 rfl ?_
  have hPc := hP.sub (ws' := [(q2, .inr (0, [.int 0, .null, .null, .null, .null, .null, .null, .null, .int 0, .int 0, .int 0, .int 0, .int 0, .int 0]))]) [2] rfl
  have hDc := hD.sub (ws' := [(q2, .inr (0, [.int 0, .null, .null, .null, .null, .null, .null, .null, .int 0, .int 0, .int 0, .int 0, .int 0, .int 0]))]) [2] (by decide) rfl
  have hFc := va_free (wc := [(q2, .inr (0, [.int 0, .null, .null, .null, .null, .null, .null, .null, .int 0, .int 0, .int 0, .int 0, .int 0, .int 0]))]) hD hS hA [2] rfl
  refine va_callv (va_runI (As := []) (rest := [.ref q2, .int (iI 0), .ref q1]) ⟨hx, hb, hml, hown, hts⟩ (c0_init l dC dI cs q2 H.size) (cwI 0 hts gX1_init_X0_init rfl rfl rfl (hts (.initialized RX0) (by decide +kernel)) (hts (.methodLink RX1 17 yX0_init) (by decide +kernel)) (hts (.instanceMethod yX0_init) (by decide +kernel)) rfl (by decide +kernel) ⟨Nat.le_of_ble_eq_true rfl, Nat.le_of_ble_eq_true rfl⟩) ⟨xPW_blind, fun U hU hW => ⟨rfl, by rw [hU], by rw [hU]; exact hPc, va_K.moved hW.alike hK, hDc.weaken (fun _ _ _ _ => trivial)⟩⟩ rfl rfl hl.1 rfl (lv_room (Nat.le_of_ble_eq_true rfl)) dX1_init_32 ⟨Nat.le_of_ble_eq_true rfl, Nat.le_of_ble_eq_true rfl⟩) hS (fun z9 _ h => hFc z9 h) hFc (fun u3 t H locs ht hvm hw hB hz1 hk1 hS => ?_)
  obtain ⟨hu0, hP1, hD1⟩ := hB
  subst hu0
  rw [ht] at hP1
  obtain ⟨hP, hD⟩ := va_join (wr := [(a0, .inr (1, [.ref q1, .int 0, .int 0]))] ++ [(q1, .inl (cs 2, 4, .inr (.inr (.inr (.inr (fun _ => none))))))]) (w1 := w0 cs u3 i0) hP hD [2] [0, 1] rfl rfl (by decide) (by decide) hk1 hFc hP1 hD1
  have hP : va_P (dC, dI) vwCl ([(a0, .inr (1, [.ref q1, .int 0, .int 0]))] ++ [(q1, .inl (cs 2, 4, .inr (.inr (.inr (.inr (fun _ => none))))))] ++ w0 cs u3 i0) H := hP
  have hD : va_D A ([(a0, .inr (1, [.ref q1, .int 0, .int 0]))] ++ [(q1, .inl (cs 2, 4, .inr (.inr (.inr (.inr (fun _ => none))))))] ++ w0 cs u3 i0) := hD
  refine va_astq (ci := 0) hx hb hK hP hD hS 1 2 2 rfl rfl rfl rfl (iI_in (a := 0) (N := 4) (by decide) (by decide) (by decide)) dX1_init_35 (fun H locs hP hD hS => ?_)
  have hP : va_P (dC, dI) vwCl ([(a0, .inr (1, [.ref q1, .int 0, .int 0]))] ++ [(q1, .inl (cs 2, 4, .inr (.inr (.inr (.inr (va_up (fun _ => none) (iI 0).toNatClampNeg (some (u3 0))))))))] ++ w0 cs u3 i0) H := hP
  have hD : va_D A ([(a0, .inr (1, [.ref q1, .int 0, .int 0]))] ++ [(q1, .inl (cs 2, 4, .inr (.inr (.inr (.inr (va_up (fun _ => none) (iI 0).toNatClampNeg (some (u3 0))))))))] ++ w0 cs u3 i0) := hD
  refine xk_iinc (lv' := [(1, .int (iI 1)), (0, .ref a0)]) hx hb dX1_init_36 hl (k := 0) rfl (by decide) rfl (fun ls hl => ?_)
  refine lv_goto (tgt := 14) hx hb dX1_init_39 (by decide) ?_
  refine lv_iload_n hx hb dX1_init_14 rfl (lv_at hl 0 rfl) ?_
  refine lv_aload_n hx hb dX1_init_15 rfl (lv_at hl 1 rfl) ?_
  refine va_get (D := (dC, dI)) (ci := 1) (v := .ref q1) (C := RX1) (T := TX1) (N := 3) hx hb hts hin1 hown hK hP 0 rfl rfl 0 (by decide) (hts (.fieldLink RX1 11 "BoatRuns$History" "places" "[LBoatRuns$Boat;") (by decide +kernel)) (fun _ h9 => h9) rfl dX1_init_16 ?_
  refine xk_alen hx hb hK hP 1 2 rfl rfl dX1_init_19 ?_
  refine xk_icmp_ge (x := 1) (y := ((4 : Nat) : Int)) (tgt := 42) hx hb (by decide) (by decide) dX1_init_20 (by decide) (fun c9 => ?_) (fun c9 => ?_)
  rotate_left
  · exact absurd (by decide) c9
  refine lv_aload_n hx hb dX1_init_23 rfl (lv_at hl 1 rfl) ?_
  refine va_get (D := (dC, dI)) (ci := 1) (v := .ref q1) (C := RX1) (T := TX1) (N := 3) hx hb hts hin1 hown hK hP 0 rfl rfl 0 (by decide) (hts (.fieldLink RX1 11 "BoatRuns$History" "places" "[LBoatRuns$Boat;") (by decide +kernel)) (fun _ h9 => h9) rfl dX1_init_24 ?_
  refine lv_iload_n hx hb dX1_init_27 rfl (lv_at hl 0 rfl) ?_
  refine va_new (ci := 0) (fs := [.int 0, .null, .null, .null, .null, .null, .null, .null, .int 0, .int 0, .int 0, .int 0, .int 0, .int 0]) (C := RX0) (T := TX0) (N := 14) hx hb hts hin0 tyX0 tyX0_ok hown (hts (.classLink RX1 9 RX0) (by decide +kernel)) (hts (.instantiable RX0 14) (by decide +kernel)) (hts (.initialized RX0) (by decide +kernel)) hK hP hD hS hA rfl (fun j hj => by rcases (show j = 0 ∨ j = 1 ∨ j = 2 ∨ j = 3 ∨ j = 4 ∨ j = 5 ∨ j = 6 ∨ j = 7 ∨ j = 8 ∨ j = 9 ∨ j = 10 ∨ j = 11 ∨ j = 12 ∨ j = 13 by omega) with rfl | rfl | rfl | rfl | rfl | rfl | rfl | rfl | rfl | rfl | rfl | rfl | rfl | rfl <;> rfl) (Nat.le_of_ble_eq_true rfl) (Nat.le_of_ble_eq_true rfl) dX1_init_28 (fun q4 H hP hD hS => ?_)
  have hP : va_P (dC, dI) vwCl ([(a0, .inr (1, [.ref q1, .int 0, .int 0]))] ++ [(q1, .inl (cs 2, 4, .inr (.inr (.inr (.inr (va_up (fun _ => none) (iI 0).toNatClampNeg (some (u3 0))))))))] ++ w0 cs u3 i0 ++ [(q4, .inr (0, [.int 0, .null, .null, .null, .null, .null, .null, .null, .int 0, .int 0, .int 0, .int 0, .int 0, .int 0]))]) H := hP
  have hD : va_D A ([(a0, .inr (1, [.ref q1, .int 0, .int 0]))] ++ [(q1, .inl (cs 2, 4, .inr (.inr (.inr (.inr (va_up (fun _ => none) (iI 0).toNatClampNeg (some (u3 0))))))))] ++ w0 cs u3 i0 ++ [(q4, .inr (0, [.int 0, .null, .null, .null, .null, .null, .null, .null, .int 0, .int 0, .int 0, .int 0, .int 0, .int 0]))]) := hD
  refine lv_dup hx hb dX1_init_31 rfl ?_
  have hPc := hP.sub (ws' := [(q4, .inr (0, [.int 0, .null, .null, .null, .null, .null, .null, .null, .int 0, .int 0, .int 0, .int 0, .int 0, .int 0]))]) [17] rfl
  have hDc := hD.sub (ws' := [(q4, .inr (0, [.int 0, .null, .null, .null, .null, .null, .null, .null, .int 0, .int 0, .int 0, .int 0, .int 0, .int 0]))]) [17] (by decide) rfl
  have hFc := va_free (wc := [(q4, .inr (0, [.int 0, .null, .null, .null, .null, .null, .null, .null, .int 0, .int 0, .int 0, .int 0, .int 0, .int 0]))]) hD hS hA [17] rfl
  refine va_callv (va_runI (As := []) (rest := [.ref q4, .int (iI 1), .ref q1]) ⟨hx, hb, hml, hown, hts⟩ (c0_init l dC dI cs q4 H.size) (cwI 0 hts gX1_init_X0_init rfl rfl rfl (hts (.initialized RX0) (by decide +kernel)) (hts (.methodLink RX1 17 yX0_init) (by decide +kernel)) (hts (.instanceMethod yX0_init) (by decide +kernel)) rfl (by decide +kernel) ⟨Nat.le_of_ble_eq_true rfl, Nat.le_of_ble_eq_true rfl⟩) ⟨xPW_blind, fun U hU hW => ⟨rfl, by rw [hU], by rw [hU]; exact hPc, va_K.moved hW.alike hK, hDc.weaken (fun _ _ _ _ => trivial)⟩⟩ rfl rfl hl.1 rfl (lv_room (Nat.le_of_ble_eq_true rfl)) dX1_init_32 ⟨Nat.le_of_ble_eq_true rfl, Nat.le_of_ble_eq_true rfl⟩) hS (fun z9 _ h => hFc z9 h) hFc (fun u5 t H locs ht hvm hw hB hz1 hk1 hS => ?_)
  obtain ⟨hu0, hP1, hD1⟩ := hB
  subst hu0
  rw [ht] at hP1
  obtain ⟨hP, hD⟩ := va_join (wr := [(a0, .inr (1, [.ref q1, .int 0, .int 0]))] ++ [(q1, .inl (cs 2, 4, .inr (.inr (.inr (.inr (va_up (fun _ => none) (iI 0).toNatClampNeg (some (u3 0))))))))] ++ w0 cs u3 i0) (w1 := w0 cs u5 i0) hP hD [17] [0, 1, 2, 3, 4, 5, 6, 7, 8, 9, 10, 11, 12, 13, 14, 15, 16] rfl rfl (by decide) (by decide) hk1 hFc hP1 hD1
  have hP : va_P (dC, dI) vwCl ([(a0, .inr (1, [.ref q1, .int 0, .int 0]))] ++ [(q1, .inl (cs 2, 4, .inr (.inr (.inr (.inr (va_up (fun _ => none) (iI 0).toNatClampNeg (some (u3 0))))))))] ++ w0 cs u3 i0 ++ w0 cs u5 i0) H := hP
  have hD : va_D A ([(a0, .inr (1, [.ref q1, .int 0, .int 0]))] ++ [(q1, .inl (cs 2, 4, .inr (.inr (.inr (.inr (va_up (fun _ => none) (iI 0).toNatClampNeg (some (u3 0))))))))] ++ w0 cs u3 i0 ++ w0 cs u5 i0) := hD
  refine va_astq (ci := 0) hx hb hK hP hD hS 1 2 17 rfl rfl rfl rfl (iI_in (a := 1) (N := 4) (by decide) (by decide) (by decide)) dX1_init_35 (fun H locs hP hD hS => ?_)
  have hP : va_P (dC, dI) vwCl ([(a0, .inr (1, [.ref q1, .int 0, .int 0]))] ++ [(q1, .inl (cs 2, 4, .inr (.inr (.inr (.inr (va_up (va_up (fun _ => none) (iI 0).toNatClampNeg (some (u3 0))) (iI 1).toNatClampNeg (some (u5 0))))))))] ++ w0 cs u3 i0 ++ w0 cs u5 i0) H := hP
  have hD : va_D A ([(a0, .inr (1, [.ref q1, .int 0, .int 0]))] ++ [(q1, .inl (cs 2, 4, .inr (.inr (.inr (.inr (va_up (va_up (fun _ => none) (iI 0).toNatClampNeg (some (u3 0))) (iI 1).toNatClampNeg (some (u5 0))))))))] ++ w0 cs u3 i0 ++ w0 cs u5 i0) := hD
  refine xk_iinc (lv' := [(1, .int (iI 2)), (0, .ref a0)]) hx hb dX1_init_36 hl (k := 0) rfl (by decide) rfl (fun ls hl => ?_)
  refine lv_goto (tgt := 14) hx hb dX1_init_39 (by decide) ?_
  refine lv_iload_n hx hb dX1_init_14 rfl (lv_at hl 0 rfl) ?_
  refine lv_aload_n hx hb dX1_init_15 rfl (lv_at hl 1 rfl) ?_
  refine va_get (D := (dC, dI)) (ci := 1) (v := .ref q1) (C := RX1) (T := TX1) (N := 3) hx hb hts hin1 hown hK hP 0 rfl rfl 0 (by decide) (hts (.fieldLink RX1 11 "BoatRuns$History" "places" "[LBoatRuns$Boat;") (by decide +kernel)) (fun _ h9 => h9) rfl dX1_init_16 ?_
  refine xk_alen hx hb hK hP 1 2 rfl rfl dX1_init_19 ?_
  refine xk_icmp_ge (x := 2) (y := ((4 : Nat) : Int)) (tgt := 42) hx hb (by decide) (by decide) dX1_init_20 (by decide) (fun c9 => ?_) (fun c9 => ?_)
  rotate_left
  · exact absurd (by decide) c9
  refine lv_aload_n hx hb dX1_init_23 rfl (lv_at hl 1 rfl) ?_
  refine va_get (D := (dC, dI)) (ci := 1) (v := .ref q1) (C := RX1) (T := TX1) (N := 3) hx hb hts hin1 hown hK hP 0 rfl rfl 0 (by decide) (hts (.fieldLink RX1 11 "BoatRuns$History" "places" "[LBoatRuns$Boat;") (by decide +kernel)) (fun _ h9 => h9) rfl dX1_init_24 ?_
  refine lv_iload_n hx hb dX1_init_27 rfl (lv_at hl 0 rfl) ?_
  refine va_new (ci := 0) (fs := [.int 0, .null, .null, .null, .null, .null, .null, .null, .int 0, .int 0, .int 0, .int 0, .int 0, .int 0]) (C := RX0) (T := TX0) (N := 14) hx hb hts hin0 tyX0 tyX0_ok hown (hts (.classLink RX1 9 RX0) (by decide +kernel)) (hts (.instantiable RX0 14) (by decide +kernel)) (hts (.initialized RX0) (by decide +kernel)) hK hP hD hS hA rfl (fun j hj => by rcases (show j = 0 ∨ j = 1 ∨ j = 2 ∨ j = 3 ∨ j = 4 ∨ j = 5 ∨ j = 6 ∨ j = 7 ∨ j = 8 ∨ j = 9 ∨ j = 10 ∨ j = 11 ∨ j = 12 ∨ j = 13 by omega) with rfl | rfl | rfl | rfl | rfl | rfl | rfl | rfl | rfl | rfl | rfl | rfl | rfl | rfl <;> rfl) (Nat.le_of_ble_eq_true rfl) (Nat.le_of_ble_eq_true rfl) dX1_init_28 (fun q6 H hP hD hS => ?_)
  have hP : va_P (dC, dI) vwCl ([(a0, .inr (1, [.ref q1, .int 0, .int 0]))] ++ [(q1, .inl (cs 2, 4, .inr (.inr (.inr (.inr (va_up (va_up (fun _ => none) (iI 0).toNatClampNeg (some (u3 0))) (iI 1).toNatClampNeg (some (u5 0))))))))] ++ w0 cs u3 i0 ++ w0 cs u5 i0 ++ [(q6, .inr (0, [.int 0, .null, .null, .null, .null, .null, .null, .null, .int 0, .int 0, .int 0, .int 0, .int 0, .int 0]))]) H := hP
  have hD : va_D A ([(a0, .inr (1, [.ref q1, .int 0, .int 0]))] ++ [(q1, .inl (cs 2, 4, .inr (.inr (.inr (.inr (va_up (va_up (fun _ => none) (iI 0).toNatClampNeg (some (u3 0))) (iI 1).toNatClampNeg (some (u5 0))))))))] ++ w0 cs u3 i0 ++ w0 cs u5 i0 ++ [(q6, .inr (0, [.int 0, .null, .null, .null, .null, .null, .null, .null, .int 0, .int 0, .int 0, .int 0, .int 0, .int 0]))]) := hD
  refine lv_dup hx hb dX1_init_31 rfl ?_
  have hPc := hP.sub (ws' := [(q6, .inr (0, [.int 0, .null, .null, .null, .null, .null, .null, .null, .int 0, .int 0, .int 0, .int 0, .int 0, .int 0]))]) [32] rfl
  have hDc := hD.sub (ws' := [(q6, .inr (0, [.int 0, .null, .null, .null, .null, .null, .null, .null, .int 0, .int 0, .int 0, .int 0, .int 0, .int 0]))]) [32] (by decide) rfl
  have hFc := va_free (wc := [(q6, .inr (0, [.int 0, .null, .null, .null, .null, .null, .null, .null, .int 0, .int 0, .int 0, .int 0, .int 0, .int 0]))]) hD hS hA [32] rfl
  refine va_callv (va_runI (As := []) (rest := [.ref q6, .int (iI 2), .ref q1]) ⟨hx, hb, hml, hown, hts⟩ (c0_init l dC dI cs q6 H.size) (cwI 0 hts gX1_init_X0_init rfl rfl rfl (hts (.initialized RX0) (by decide +kernel)) (hts (.methodLink RX1 17 yX0_init) (by decide +kernel)) (hts (.instanceMethod yX0_init) (by decide +kernel)) rfl (by decide +kernel) ⟨Nat.le_of_ble_eq_true rfl, Nat.le_of_ble_eq_true rfl⟩) ⟨xPW_blind, fun U hU hW => ⟨rfl, by rw [hU], by rw [hU]; exact hPc, va_K.moved hW.alike hK, hDc.weaken (fun _ _ _ _ => trivial)⟩⟩ rfl rfl hl.1 rfl (lv_room (Nat.le_of_ble_eq_true rfl)) dX1_init_32 ⟨Nat.le_of_ble_eq_true rfl, Nat.le_of_ble_eq_true rfl⟩) hS (fun z9 _ h => hFc z9 h) hFc (fun u7 t H locs ht hvm hw hB hz1 hk1 hS => ?_)
  obtain ⟨hu0, hP1, hD1⟩ := hB
  subst hu0
  rw [ht] at hP1
  obtain ⟨hP, hD⟩ := va_join (wr := [(a0, .inr (1, [.ref q1, .int 0, .int 0]))] ++ [(q1, .inl (cs 2, 4, .inr (.inr (.inr (.inr (va_up (va_up (fun _ => none) (iI 0).toNatClampNeg (some (u3 0))) (iI 1).toNatClampNeg (some (u5 0))))))))] ++ w0 cs u3 i0 ++ w0 cs u5 i0) (w1 := w0 cs u7 i0) hP hD [32] [0, 1, 2, 3, 4, 5, 6, 7, 8, 9, 10, 11, 12, 13, 14, 15, 16, 17, 18, 19, 20, 21, 22, 23, 24, 25, 26, 27, 28, 29, 30, 31] rfl rfl (by decide) (by decide) hk1 hFc hP1 hD1
  have hP : va_P (dC, dI) vwCl ([(a0, .inr (1, [.ref q1, .int 0, .int 0]))] ++ [(q1, .inl (cs 2, 4, .inr (.inr (.inr (.inr (va_up (va_up (fun _ => none) (iI 0).toNatClampNeg (some (u3 0))) (iI 1).toNatClampNeg (some (u5 0))))))))] ++ w0 cs u3 i0 ++ w0 cs u5 i0 ++ w0 cs u7 i0) H := hP
  have hD : va_D A ([(a0, .inr (1, [.ref q1, .int 0, .int 0]))] ++ [(q1, .inl (cs 2, 4, .inr (.inr (.inr (.inr (va_up (va_up (fun _ => none) (iI 0).toNatClampNeg (some (u3 0))) (iI 1).toNatClampNeg (some (u5 0))))))))] ++ w0 cs u3 i0 ++ w0 cs u5 i0 ++ w0 cs u7 i0) := hD
  refine va_astq (ci := 0) hx hb hK hP hD hS 1 2 32 rfl rfl rfl rfl (iI_in (a := 2) (N := 4) (by decide) (by decide) (by decide)) dX1_init_35 (fun H locs hP hD hS => ?_)
  have hP : va_P (dC, dI) vwCl ([(a0, .inr (1, [.ref q1, .int 0, .int 0]))] ++ [(q1, .inl (cs 2, 4, .inr (.inr (.inr (.inr (va_up (va_up (va_up (fun _ => none) (iI 0).toNatClampNeg (some (u3 0))) (iI 1).toNatClampNeg (some (u5 0))) (iI 2).toNatClampNeg (some (u7 0))))))))] ++ w0 cs u3 i0 ++ w0 cs u5 i0 ++ w0 cs u7 i0) H := hP
  have hD : va_D A ([(a0, .inr (1, [.ref q1, .int 0, .int 0]))] ++ [(q1, .inl (cs 2, 4, .inr (.inr (.inr (.inr (va_up (va_up (va_up (fun _ => none) (iI 0).toNatClampNeg (some (u3 0))) (iI 1).toNatClampNeg (some (u5 0))) (iI 2).toNatClampNeg (some (u7 0))))))))] ++ w0 cs u3 i0 ++ w0 cs u5 i0 ++ w0 cs u7 i0) := hD
  refine xk_iinc (lv' := [(1, .int (iI 3)), (0, .ref a0)]) hx hb dX1_init_36 hl (k := 0) rfl (by decide) rfl (fun ls hl => ?_)
  refine lv_goto (tgt := 14) hx hb dX1_init_39 (by decide) ?_
  refine lv_iload_n hx hb dX1_init_14 rfl (lv_at hl 0 rfl) ?_
  refine lv_aload_n hx hb dX1_init_15 rfl (lv_at hl 1 rfl) ?_
  refine va_get (D := (dC, dI)) (ci := 1) (v := .ref q1) (C := RX1) (T := TX1) (N := 3) hx hb hts hin1 hown hK hP 0 rfl rfl 0 (by decide) (hts (.fieldLink RX1 11 "BoatRuns$History" "places" "[LBoatRuns$Boat;") (by decide +kernel)) (fun _ h9 => h9) rfl dX1_init_16 ?_
  refine xk_alen hx hb hK hP 1 2 rfl rfl dX1_init_19 ?_
  refine xk_icmp_ge (x := 3) (y := ((4 : Nat) : Int)) (tgt := 42) hx hb (by decide) (by decide) dX1_init_20 (by decide) (fun c9 => ?_) (fun c9 => ?_)
  rotate_left
  · exact absurd (by decide) c9
  refine lv_aload_n hx hb dX1_init_23 rfl (lv_at hl 1 rfl) ?_
  refine va_get (D := (dC, dI)) (ci := 1) (v := .ref q1) (C := RX1) (T := TX1) (N := 3) hx hb hts hin1 hown hK hP 0 rfl rfl 0 (by decide) (hts (.fieldLink RX1 11 "BoatRuns$History" "places" "[LBoatRuns$Boat;") (by decide +kernel)) (fun _ h9 => h9) rfl dX1_init_24 ?_
  refine lv_iload_n hx hb dX1_init_27 rfl (lv_at hl 0 rfl) ?_
  refine va_new (ci := 0) (fs := [.int 0, .null, .null, .null, .null, .null, .null, .null, .int 0, .int 0, .int 0, .int 0, .int 0, .int 0]) (C := RX0) (T := TX0) (N := 14) hx hb hts hin0 tyX0 tyX0_ok hown (hts (.classLink RX1 9 RX0) (by decide +kernel)) (hts (.instantiable RX0 14) (by decide +kernel)) (hts (.initialized RX0) (by decide +kernel)) hK hP hD hS hA rfl (fun j hj => by rcases (show j = 0 ∨ j = 1 ∨ j = 2 ∨ j = 3 ∨ j = 4 ∨ j = 5 ∨ j = 6 ∨ j = 7 ∨ j = 8 ∨ j = 9 ∨ j = 10 ∨ j = 11 ∨ j = 12 ∨ j = 13 by omega) with rfl | rfl | rfl | rfl | rfl | rfl | rfl | rfl | rfl | rfl | rfl | rfl | rfl | rfl <;> rfl) (Nat.le_of_ble_eq_true rfl) (Nat.le_of_ble_eq_true rfl) dX1_init_28 (fun q8 H hP hD hS => ?_)
  have hP : va_P (dC, dI) vwCl ([(a0, .inr (1, [.ref q1, .int 0, .int 0]))] ++ [(q1, .inl (cs 2, 4, .inr (.inr (.inr (.inr (va_up (va_up (va_up (fun _ => none) (iI 0).toNatClampNeg (some (u3 0))) (iI 1).toNatClampNeg (some (u5 0))) (iI 2).toNatClampNeg (some (u7 0))))))))] ++ w0 cs u3 i0 ++ w0 cs u5 i0 ++ w0 cs u7 i0 ++ [(q8, .inr (0, [.int 0, .null, .null, .null, .null, .null, .null, .null, .int 0, .int 0, .int 0, .int 0, .int 0, .int 0]))]) H := hP
  have hD : va_D A ([(a0, .inr (1, [.ref q1, .int 0, .int 0]))] ++ [(q1, .inl (cs 2, 4, .inr (.inr (.inr (.inr (va_up (va_up (va_up (fun _ => none) (iI 0).toNatClampNeg (some (u3 0))) (iI 1).toNatClampNeg (some (u5 0))) (iI 2).toNatClampNeg (some (u7 0))))))))] ++ w0 cs u3 i0 ++ w0 cs u5 i0 ++ w0 cs u7 i0 ++ [(q8, .inr (0, [.int 0, .null, .null, .null, .null, .null, .null, .null, .int 0, .int 0, .int 0, .int 0, .int 0, .int 0]))]) := hD
  refine lv_dup hx hb dX1_init_31 rfl ?_
  have hPc := hP.sub (ws' := [(q8, .inr (0, [.int 0, .null, .null, .null, .null, .null, .null, .null, .int 0, .int 0, .int 0, .int 0, .int 0, .int 0]))]) [47] rfl
  have hDc := hD.sub (ws' := [(q8, .inr (0, [.int 0, .null, .null, .null, .null, .null, .null, .null, .int 0, .int 0, .int 0, .int 0, .int 0, .int 0]))]) [47] (by decide) rfl
  have hFc := va_free (wc := [(q8, .inr (0, [.int 0, .null, .null, .null, .null, .null, .null, .null, .int 0, .int 0, .int 0, .int 0, .int 0, .int 0]))]) hD hS hA [47] rfl
  refine va_callv (va_runI (As := []) (rest := [.ref q8, .int (iI 3), .ref q1]) ⟨hx, hb, hml, hown, hts⟩ (c0_init l dC dI cs q8 H.size) (cwI 0 hts gX1_init_X0_init rfl rfl rfl (hts (.initialized RX0) (by decide +kernel)) (hts (.methodLink RX1 17 yX0_init) (by decide +kernel)) (hts (.instanceMethod yX0_init) (by decide +kernel)) rfl (by decide +kernel) ⟨Nat.le_of_ble_eq_true rfl, Nat.le_of_ble_eq_true rfl⟩) ⟨xPW_blind, fun U hU hW => ⟨rfl, by rw [hU], by rw [hU]; exact hPc, va_K.moved hW.alike hK, hDc.weaken (fun _ _ _ _ => trivial)⟩⟩ rfl rfl hl.1 rfl (lv_room (Nat.le_of_ble_eq_true rfl)) dX1_init_32 ⟨Nat.le_of_ble_eq_true rfl, Nat.le_of_ble_eq_true rfl⟩) hS (fun z9 _ h => hFc z9 h) hFc (fun u9 t H locs ht hvm hw hB hz1 hk1 hS => ?_)
  obtain ⟨hu0, hP1, hD1⟩ := hB
  subst hu0
  rw [ht] at hP1
  obtain ⟨hP, hD⟩ := va_join (wr := [(a0, .inr (1, [.ref q1, .int 0, .int 0]))] ++ [(q1, .inl (cs 2, 4, .inr (.inr (.inr (.inr (va_up (va_up (va_up (fun _ => none) (iI 0).toNatClampNeg (some (u3 0))) (iI 1).toNatClampNeg (some (u5 0))) (iI 2).toNatClampNeg (some (u7 0))))))))] ++ w0 cs u3 i0 ++ w0 cs u5 i0 ++ w0 cs u7 i0) (w1 := w0 cs u9 i0) hP hD [47] [0, 1, 2, 3, 4, 5, 6, 7, 8, 9, 10, 11, 12, 13, 14, 15, 16, 17, 18, 19, 20, 21, 22, 23, 24, 25, 26, 27, 28, 29, 30, 31, 32, 33, 34, 35, 36, 37, 38, 39, 40, 41, 42, 43, 44, 45, 46] rfl rfl (by decide) (by decide) hk1 hFc hP1 hD1
  have hP : va_P (dC, dI) vwCl ([(a0, .inr (1, [.ref q1, .int 0, .int 0]))] ++ [(q1, .inl (cs 2, 4, .inr (.inr (.inr (.inr (va_up (va_up (va_up (fun _ => none) (iI 0).toNatClampNeg (some (u3 0))) (iI 1).toNatClampNeg (some (u5 0))) (iI 2).toNatClampNeg (some (u7 0))))))))] ++ w0 cs u3 i0 ++ w0 cs u5 i0 ++ w0 cs u7 i0 ++ w0 cs u9 i0) H := hP
  have hD : va_D A ([(a0, .inr (1, [.ref q1, .int 0, .int 0]))] ++ [(q1, .inl (cs 2, 4, .inr (.inr (.inr (.inr (va_up (va_up (va_up (fun _ => none) (iI 0).toNatClampNeg (some (u3 0))) (iI 1).toNatClampNeg (some (u5 0))) (iI 2).toNatClampNeg (some (u7 0))))))))] ++ w0 cs u3 i0 ++ w0 cs u5 i0 ++ w0 cs u7 i0 ++ w0 cs u9 i0) := hD
  refine va_astq (ci := 0) hx hb hK hP hD hS 1 2 47 rfl rfl rfl rfl (iI_in (a := 3) (N := 4) (by decide) (by decide) (by decide)) dX1_init_35 (fun H locs hP hD hS => ?_)
  have hP : va_P (dC, dI) vwCl ([(a0, .inr (1, [.ref q1, .int 0, .int 0]))] ++ [(q1, .inl (cs 2, 4, .inr (.inr (.inr (.inr (va_up (va_up (va_up (va_up (fun _ => none) (iI 0).toNatClampNeg (some (u3 0))) (iI 1).toNatClampNeg (some (u5 0))) (iI 2).toNatClampNeg (some (u7 0))) (iI 3).toNatClampNeg (some (u9 0))))))))] ++ w0 cs u3 i0 ++ w0 cs u5 i0 ++ w0 cs u7 i0 ++ w0 cs u9 i0) H := hP
  have hD : va_D A ([(a0, .inr (1, [.ref q1, .int 0, .int 0]))] ++ [(q1, .inl (cs 2, 4, .inr (.inr (.inr (.inr (va_up (va_up (va_up (va_up (fun _ => none) (iI 0).toNatClampNeg (some (u3 0))) (iI 1).toNatClampNeg (some (u5 0))) (iI 2).toNatClampNeg (some (u7 0))) (iI 3).toNatClampNeg (some (u9 0))))))))] ++ w0 cs u3 i0 ++ w0 cs u5 i0 ++ w0 cs u7 i0 ++ w0 cs u9 i0) := hD
  refine xk_iinc (lv' := [(1, .int (iI 4)), (0, .ref a0)]) hx hb dX1_init_36 hl (k := 0) rfl (by decide) rfl (fun ls hl => ?_)
  refine lv_goto (tgt := 14) hx hb dX1_init_39 (by decide) ?_
  refine lv_iload_n hx hb dX1_init_14 rfl (lv_at hl 0 rfl) ?_
  refine lv_aload_n hx hb dX1_init_15 rfl (lv_at hl 1 rfl) ?_
  refine va_get (D := (dC, dI)) (ci := 1) (v := .ref q1) (C := RX1) (T := TX1) (N := 3) hx hb hts hin1 hown hK hP 0 rfl rfl 0 (by decide) (hts (.fieldLink RX1 11 "BoatRuns$History" "places" "[LBoatRuns$Boat;") (by decide +kernel)) (fun _ h9 => h9) rfl dX1_init_16 ?_
  refine xk_alen hx hb hK hP 1 2 rfl rfl dX1_init_19 ?_
  refine xk_icmp_ge (x := 4) (y := ((4 : Nat) : Int)) (tgt := 42) hx hb (by decide) (by decide) dX1_init_20 (by decide) (fun c9 => ?_) (fun c9 => ?_)
  · exact absurd c9 (by decide)
  obtain ⟨aa, haa⟩ : ∃ z : Nat → Nat, z = fun k => if k < 1 then a0 else if k < 2 then q1 else if k < 17 then u3 (k - 2) else if k < 32 then u5 (k - 17) else if k < 47 then u7 (k - 32) else u9 (k - 47) := ⟨_, rfl⟩
  have hfe : (va_up (va_up (va_up (va_up (fun _ => none) (iI 0).toNatClampNeg (some (u3 0))) (iI 1).toNatClampNeg (some (u5 0))) (iI 2).toNatClampNeg (some (u7 0))) (iI 3).toNatClampNeg (some (u9 0))) = (fun k : Nat => x_hp aa (k : Int)) := by rw [haa]; exact x_hpE a0 q1 u3 u5 u7 u9
  rw [hfe] at hP hD
  have hP9 : va_P (dC, dI) vwCl ((w1 cs aa i1).flatten) H := by subst haa; exact hP.sub [0, 1, 2, 3, 4, 5, 6, 7, 8, 9, 10, 11, 12, 13, 14, 15, 16, 17, 18, 19, 20, 21, 22, 23, 24, 25, 26, 27, 28, 29, 30, 31, 32, 33, 34, 35, 36, 37, 38, 39, 40, 41, 42, 43, 44, 45, 46, 47, 48, 49, 50, 51, 52, 53, 54, 55, 56, 57, 58, 59, 60, 61] rfl
  have hD9 : va_D A ((w1 cs aa i1).flatten) := by subst haa; exact hD.sub [0, 1, 2, 3, 4, 5, 6, 7, 8, 9, 10, 11, 12, 13, 14, 15, 16, 17, 18, 19, 20, 21, 22, 23, 24, 25, 26, 27, 28, 29, 30, 31, 32, 33, 34, 35, 36, 37, 38, 39, 40, 41, 42, 43, 44, 45, 46, 47, 48, 49, 50, 51, 52, 53, 54, 55, 56, 57, 58, 59, 60, 61] (by decide) rfl
  have ha0 : aa 0 = a0 := by rw [haa]; rfl
  subst hAe
  refine W.widen (k := 61) (n := 3476) (by omega) (by omega) ?_
  exact W.vret hx hb hr (fun t ht hW => ⟨⟨aa, rfl, trivial, ⟨ha0, by show va_P (dC, dI) vwCl ((w1 cs aa i1).flatten) t.heap; rw [ht]; exact hP9, hD9⟩⟩, hS.F ht⟩) hS.2.2 dX1_init_42 hlocks
set_option maxHeartbeats 4000000 in
set_option maxRecDepth 100000 in
theorem c4_init (l : Launch) (dC : Nat → ClassId) (dI : Nat → Nat → Nat) (cs : Nat → ClassId) (a0 : Nat) (sz : Nat) : Met l yX4_init wsX4_init ({ frames := 4, cells := 101, slots := 5479, locals := 76 } : Room) (va_Pc [.ref a0] (xPN (dC, dI) vwCl ([(a0, .inr (4, [.null, .null, .null, .null]))]) (xT cs) sz)) (va_Qv (fun _ : Nat → Nat => True) (fun a t => a 0 = a0 ∧ va_P (dC, dI) vwCl ((w4 cs a i4).flatten) t.heap ∧ va_D (va_A ([(a0, .inr (4, [.null, .null, .null, .null]))]) sz) ((w4 cs a i4).flatten)) (va_A ([(a0, .inr (4, [.null, .null, .null, .null]))]) sz)) 101 5479 (va_A ([(a0, .inr (4, [.null, .null, .null, .null]))]) sz) := by
  refine Met.ofW (cc := cX4_init) (maxL := 1) (ret := none) (by decide) rfl ?_
  intro p e s m args below meth c s₁ B hml hv
  obtain ⟨rfl, ⟨hsz, hP, hK, hD0⟩, hAO⟩ := hv
  have hx := B.exec
  have hb := B.bytes
  have hr := B.returns
  have hts := atoms_spec (ws := wsX4_init) B.pre
  have hown : s.vm.findClass RX4 = some m.cls := findClass_of_methodNamed B.named
  have hlocks := B.notSynchronized
  have hin : meth.name = "<init>" := (name_of_methodNamed B.named B.method).1
  have hin0 : ∀ w ∈ wsX00, w ∈ wsX4_init := by decide +kernel
  have hin1 : ∀ w ∈ wsX10, w ∈ wsX4_init := by decide +kernel
  have hin3 : ∀ w ∈ wsX30, w ∈ wsX4_init := by decide +kernel
  have hin4 : ∀ w ∈ wsX40, w ∈ wsX4_init := by decide +kernel
  subst hsz
  have hD := hD0.self (sz := s.heap.size)
  generalize hAe : va_A ([(a0, .inr (4, [.null, .null, .null, .null]))]) s.heap.size = A at hD ⊢
  have hA : ∀ z9 : Nat, s.heap.size ≤ z9 → A z9 := fun z9 h => by rw [← hAe]; exact Or.inr h
  have hS : va_S A s.heap s.heap [] := va_S.rf
  have hl := lv_entry [.ref a0] (n := 1) (Nat.le_of_ble_eq_true rfl)
  rw [lg_entry_eq]
  generalize (lg_sl [.ref a0] ++ List.replicate (1 - (lg_sl [.ref a0]).length) Slot.unset).toArray = ls at hl ⊢
  have hl : lv_has ls 1 [(0, .ref a0)] := hl
  refine lv_aload_n hx hb dX4_init_0 rfl (lv_at hl 0 rfl) ?_
  refine W.objInit hx hb hown (hts (.methodLink RX4 1 objectInit) (by decide +kernel)) (hts (.instanceMethod objectInit) (by decide +kernel)) (hts (.code objectInit ⟨#[0xb1]⟩ 1 none) (by decide +kernel)) rfl (by rw [hml]; exact hl.1) rfl dX4_init_1 (Nat.le_of_ble_eq_true rfl) (Nat.le_of_ble_eq_true rfl) ?_
  refine W.eq (g2 := F0 m 4 ls []) rfl ?_
  refine lv_aload_n hx hb dX4_init_4 rfl (lv_at hl 0 rfl) ?_
  refine va_new (ci := 0) (fs := [.int 0, .null, .null, .null, .null, .null, .null, .null, .int 0, .int 0, .int 0, .int 0, .int 0, .int 0]) (C := RX0) (T := TX0) (N := 14) hx hb hts hin0 tyX0 tyX0_ok hown (hts (.classLink RX4 7 RX0) (by decide +kernel)) (hts (.instantiable RX0 14) (by decide +kernel)) (hts (.initialized RX0) (by decide +kernel)) hK hP hD hS hA rfl (fun j hj => by rcases (show j = 0 ∨ j = 1 ∨ j = 2 ∨ j = 3 ∨ j = 4 ∨ j = 5 ∨ j = 6 ∨ j = 7 ∨ j = 8 ∨ j = 9 ∨ j = 10 ∨ j = 11 ∨ j = 12 ∨ j = 13 by omega) with rfl | rfl | rfl | rfl | rfl | rfl | rfl | rfl | rfl | rfl | rfl | rfl | rfl | rfl <;> rfl) (Nat.le_of_ble_eq_true rfl) (Nat.le_of_ble_eq_true rfl) dX4_init_5 (fun q1 H hP hD hS => ?_)
  have hP : va_P (dC, dI) vwCl ([(a0, .inr (4, [.null, .null, .null, .null]))] ++ [(q1, .inr (0, [.int 0, .null, .null, .null, .null, .null, .null, .null, .int 0, .int 0, .int 0, .int 0, .int 0, .int 0]))]) H := hP
  have hD : va_D A ([(a0, .inr (4, [.null, .null, .null, .null]))] ++ [(q1, .inr (0, [.int 0, .null, .null, .null, .null, .null, .null, .null, .int 0, .int 0, .int 0, .int 0, .int 0, .int 0]))]) := hD
  refine lv_dup hx hb dX4_init_8 rfl ?_
  have hPc := hP.sub (ws' := [(q1, .inr (0, [.int 0, .null, .null, .null, .null, .null, .null, .null, .int 0, .int 0, .int 0, .int 0, .int 0, .int 0]))]) [1] rfl
  have hDc := hD.sub (ws' := [(q1, .inr (0, [.int 0, .null, .null, .null, .null, .null, .null, .null, .int 0, .int 0, .int 0, .int 0, .int 0, .int 0]))]) [1] (by decide) rfl
  have hFc := va_free (wc := [(q1, .inr (0, [.int 0, .null, .null, .null, .null, .null, .null, .null, .int 0, .int 0, .int 0, .int 0, .int 0, .int 0]))]) hD hS hA [1] rfl
  refine va_callv (va_runI (As := []) (rest := [.ref q1, .ref a0]) ⟨hx, hb, hml, hown, hts⟩ (c0_init l dC dI cs q1 H.size) (cwI 0 hts gX4_init_X0_init rfl rfl rfl (hts (.initialized RX0) (by decide +kernel)) (hts (.methodLink RX4 9 yX0_init) (by decide +kernel)) (hts (.instanceMethod yX0_init) (by decide +kernel)) rfl (by decide +kernel) ⟨Nat.le_of_ble_eq_true rfl, Nat.le_of_ble_eq_true rfl⟩) ⟨xPW_blind, fun U hU hW => ⟨rfl, by rw [hU], by rw [hU]; exact hPc, va_K.moved hW.alike hK, hDc.weaken (fun _ _ _ _ => trivial)⟩⟩ rfl rfl hl.1 rfl (lv_room (Nat.le_of_ble_eq_true rfl)) dX4_init_9 ⟨Nat.le_of_ble_eq_true rfl, Nat.le_of_ble_eq_true rfl⟩) hS (fun z9 _ h => hFc z9 h) hFc (fun u2 t H locs ht hvm hw hB hz1 hk1 hS => ?_)
  obtain ⟨hu0, hP1, hD1⟩ := hB
  subst hu0
  rw [ht] at hP1
  obtain ⟨hP, hD⟩ := va_join (wr := [(a0, .inr (4, [.null, .null, .null, .null]))]) (w1 := w0 cs u2 i0) hP hD [1] [0] rfl rfl (by decide) (by decide) hk1 hFc hP1 hD1
  have hP : va_P (dC, dI) vwCl ([(a0, .inr (4, [.null, .null, .null, .null]))] ++ w0 cs u2 i0) H := hP
  have hD : va_D A ([(a0, .inr (4, [.null, .null, .null, .null]))] ++ w0 cs u2 i0) := hD
  refine va_putF (D := (dC, dI)) (ci := 4) (v := .ref (u2 0)) (ty := .object "BoatRuns$Boat") (C := RX4) (T := TX4) (N := 4) hx hb hts hin4 tyX4 tyX4_ok nmX4 hown hK hP hD hS 0 rfl rfl 0 (by decide) (hts (.fieldLink RX4 10 "BoatRuns" "boat" "LBoatRuns$Boat;") (by decide +kernel)) (fun _ h9 => h9) rfl hin rfl (by decide +kernel) rfl rfl (Nat.le_of_ble_eq_true rfl) dX4_init_12 (fun H locs hP hD hS => ?_)
  have hP : va_P (dC, dI) vwCl ([(a0, .inr (4, [.ref (u2 0), .null, .null, .null]))] ++ w0 cs u2 i0) H := hP
  have hD : va_D A ([(a0, .inr (4, [.ref (u2 0), .null, .null, .null]))] ++ w0 cs u2 i0) := hD
  refine lv_aload_n hx hb dX4_init_15 rfl (lv_at hl 0 rfl) ?_
  refine va_new (ci := 0) (fs := [.int 0, .null, .null, .null, .null, .null, .null, .null, .int 0, .int 0, .int 0, .int 0, .int 0, .int 0]) (C := RX0) (T := TX0) (N := 14) hx hb hts hin0 tyX0 tyX0_ok hown (hts (.classLink RX4 7 RX0) (by decide +kernel)) (hts (.instantiable RX0 14) (by decide +kernel)) (hts (.initialized RX0) (by decide +kernel)) hK hP hD hS hA rfl (fun j hj => by rcases (show j = 0 ∨ j = 1 ∨ j = 2 ∨ j = 3 ∨ j = 4 ∨ j = 5 ∨ j = 6 ∨ j = 7 ∨ j = 8 ∨ j = 9 ∨ j = 10 ∨ j = 11 ∨ j = 12 ∨ j = 13 by omega) with rfl | rfl | rfl | rfl | rfl | rfl | rfl | rfl | rfl | rfl | rfl | rfl | rfl | rfl <;> rfl) (Nat.le_of_ble_eq_true rfl) (Nat.le_of_ble_eq_true rfl) dX4_init_16 (fun q3 H hP hD hS => ?_)
  have hP : va_P (dC, dI) vwCl ([(a0, .inr (4, [.ref (u2 0), .null, .null, .null]))] ++ w0 cs u2 i0 ++ [(q3, .inr (0, [.int 0, .null, .null, .null, .null, .null, .null, .null, .int 0, .int 0, .int 0, .int 0, .int 0, .int 0]))]) H := hP
  have hD : va_D A ([(a0, .inr (4, [.ref (u2 0), .null, .null, .null]))] ++ w0 cs u2 i0 ++ [(q3, .inr (0, [.int 0, .null, .null, .null, .null, .null, .null, .null, .int 0, .int 0, .int 0, .int 0, .int 0, .int 0]))]) := hD
  refine lv_dup hx hb dX4_init_19 rfl ?_
  have hPc := hP.sub (ws' := [(q3, .inr (0, [.int 0, .null, .null, .null, .null, .null, .null, .null, .int 0, .int 0, .int 0, .int 0, .int 0, .int 0]))]) [16] rfl
  have hDc := hD.sub (ws' := [(q3, .inr (0, [.int 0, .null, .null, .null, .null, .null, .null, .null, .int 0, .int 0, .int 0, .int 0, .int 0, .int 0]))]) [16] (by decide) rfl
  have hFc := va_free (wc := [(q3, .inr (0, [.int 0, .null, .null, .null, .null, .null, .null, .null, .int 0, .int 0, .int 0, .int 0, .int 0, .int 0]))]) hD hS hA [16] rfl
  refine va_callv (va_runI (As := []) (rest := [.ref q3, .ref a0]) ⟨hx, hb, hml, hown, hts⟩ (c0_init l dC dI cs q3 H.size) (cwI 0 hts gX4_init_X0_init rfl rfl rfl (hts (.initialized RX0) (by decide +kernel)) (hts (.methodLink RX4 9 yX0_init) (by decide +kernel)) (hts (.instanceMethod yX0_init) (by decide +kernel)) rfl (by decide +kernel) ⟨Nat.le_of_ble_eq_true rfl, Nat.le_of_ble_eq_true rfl⟩) ⟨xPW_blind, fun U hU hW => ⟨rfl, by rw [hU], by rw [hU]; exact hPc, va_K.moved hW.alike hK, hDc.weaken (fun _ _ _ _ => trivial)⟩⟩ rfl rfl hl.1 rfl (lv_room (Nat.le_of_ble_eq_true rfl)) dX4_init_20 ⟨Nat.le_of_ble_eq_true rfl, Nat.le_of_ble_eq_true rfl⟩) hS (fun z9 _ h => hFc z9 h) hFc (fun u4 t H locs ht hvm hw hB hz1 hk1 hS => ?_)
  obtain ⟨hu0, hP1, hD1⟩ := hB
  subst hu0
  rw [ht] at hP1
  obtain ⟨hP, hD⟩ := va_join (wr := [(a0, .inr (4, [.ref (u2 0), .null, .null, .null]))] ++ w0 cs u2 i0) (w1 := w0 cs u4 i0) hP hD [16] [0, 1, 2, 3, 4, 5, 6, 7, 8, 9, 10, 11, 12, 13, 14, 15] rfl rfl (by decide) (by decide) hk1 hFc hP1 hD1
  have hP : va_P (dC, dI) vwCl ([(a0, .inr (4, [.ref (u2 0), .null, .null, .null]))] ++ w0 cs u2 i0 ++ w0 cs u4 i0) H := hP
  have hD : va_D A ([(a0, .inr (4, [.ref (u2 0), .null, .null, .null]))] ++ w0 cs u2 i0 ++ w0 cs u4 i0) := hD
  refine va_putF (D := (dC, dI)) (ci := 4) (v := .ref (u4 0)) (ty := .object "BoatRuns$Boat") (C := RX4) (T := TX4) (N := 4) hx hb hts hin4 tyX4 tyX4_ok nmX4 hown hK hP hD hS 0 rfl rfl 1 (by decide) (hts (.fieldLink RX4 16 "BoatRuns" "trial" "LBoatRuns$Boat;") (by decide +kernel)) (fun _ h9 => h9) rfl hin rfl (by decide +kernel) rfl rfl (Nat.le_of_ble_eq_true rfl) dX4_init_23 (fun H locs hP hD hS => ?_)
  have hP : va_P (dC, dI) vwCl ([(a0, .inr (4, [.ref (u2 0), .ref (u4 0), .null, .null]))] ++ w0 cs u2 i0 ++ w0 cs u4 i0) H := hP
  have hD : va_D A ([(a0, .inr (4, [.ref (u2 0), .ref (u4 0), .null, .null]))] ++ w0 cs u2 i0 ++ w0 cs u4 i0) := hD
  refine lv_aload_n hx hb dX4_init_26 rfl (lv_at hl 0 rfl) ?_
  refine va_new (ci := 1) (fs := [.null, .int 0, .int 0]) (C := RX1) (T := TX1) (N := 3) hx hb hts hin1 tyX1 tyX1_ok hown (hts (.classLink RX4 19 RX1) (by decide +kernel)) (hts (.instantiable RX1 3) (by decide +kernel)) (hts (.initialized RX1) (by decide +kernel)) hK hP hD hS hA rfl (fun j hj => by rcases (show j = 0 ∨ j = 1 ∨ j = 2 by omega) with rfl | rfl | rfl <;> rfl) (Nat.le_of_ble_eq_true rfl) (Nat.le_of_ble_eq_true rfl) dX4_init_27 (fun q5 H hP hD hS => ?_)
  have hP : va_P (dC, dI) vwCl ([(a0, .inr (4, [.ref (u2 0), .ref (u4 0), .null, .null]))] ++ w0 cs u2 i0 ++ w0 cs u4 i0 ++ [(q5, .inr (1, [.null, .int 0, .int 0]))]) H := hP
  have hD : va_D A ([(a0, .inr (4, [.ref (u2 0), .ref (u4 0), .null, .null]))] ++ w0 cs u2 i0 ++ w0 cs u4 i0 ++ [(q5, .inr (1, [.null, .int 0, .int 0]))]) := hD
  refine lv_dup hx hb dX4_init_30 rfl ?_
  have hPc := hP.sub (ws' := [(q5, .inr (1, [.null, .int 0, .int 0]))]) [31] rfl
  have hDc := hD.sub (ws' := [(q5, .inr (1, [.null, .int 0, .int 0]))]) [31] (by decide) rfl
  have hFc := va_free (wc := [(q5, .inr (1, [.null, .int 0, .int 0]))]) hD hS hA [31] rfl
  refine va_callv (va_runI (As := []) (rest := [.ref q5, .ref a0]) ⟨hx, hb, hml, hown, hts⟩ (c1_init l dC dI cs q5 H.size) (cwI 0 hts gX4_init_X1_init rfl rfl rfl (hts (.initialized RX1) (by decide +kernel)) (hts (.methodLink RX4 21 yX1_init) (by decide +kernel)) (hts (.instanceMethod yX1_init) (by decide +kernel)) rfl (by decide +kernel) ⟨Nat.le_of_ble_eq_true rfl, Nat.le_of_ble_eq_true rfl⟩) ⟨xPN_blind, fun U hU hW => ⟨rfl, ⟨by rw [hU], by rw [hU]; exact hPc, va_K.moved hW.alike hK, hDc.weaken (fun _ _ _ _ => trivial)⟩, xAO_warm hW hAO⟩⟩ rfl rfl hl.1 rfl (lv_room (Nat.le_of_ble_eq_true rfl)) dX4_init_31 ⟨Nat.le_of_ble_eq_true rfl, Nat.le_of_ble_eq_true rfl⟩) hS (fun z9 _ h => hFc z9 h) hFc (fun u6 t H locs ht hvm hw hB hz1 hk1 hS => ?_)
  obtain ⟨hu0, hP1, hD1⟩ := hB
  subst hu0
  rw [ht] at hP1
  obtain ⟨hP, hD⟩ := va_join (wr := [(a0, .inr (4, [.ref (u2 0), .ref (u4 0), .null, .null]))] ++ w0 cs u2 i0 ++ w0 cs u4 i0) (w1 := (w1 cs u6 i1).flatten) hP hD [31] [0, 1, 2, 3, 4, 5, 6, 7, 8, 9, 10, 11, 12, 13, 14, 15, 16, 17, 18, 19, 20, 21, 22, 23, 24, 25, 26, 27, 28, 29, 30] rfl rfl (by decide) (by decide) hk1 hFc hP1 hD1
  have hP : va_P (dC, dI) vwCl ([(a0, .inr (4, [.ref (u2 0), .ref (u4 0), .null, .null]))] ++ w0 cs u2 i0 ++ w0 cs u4 i0 ++ (w1 cs u6 i1).flatten) H := hP
  have hD : va_D A ([(a0, .inr (4, [.ref (u2 0), .ref (u4 0), .null, .null]))] ++ w0 cs u2 i0 ++ w0 cs u4 i0 ++ (w1 cs u6 i1).flatten) := hD
  refine va_putF (D := (dC, dI)) (ci := 4) (v := .ref (u6 0)) (ty := .object "BoatRuns$History") (C := RX4) (T := TX4) (N := 4) hx hb hts hin4 tyX4 tyX4_ok nmX4 hown hK hP hD hS 0 rfl rfl 2 (by decide) (hts (.fieldLink RX4 22 "BoatRuns" "history" "LBoatRuns$History;") (by decide +kernel)) (fun _ h9 => h9) rfl hin rfl (by decide +kernel) rfl rfl (Nat.le_of_ble_eq_true rfl) dX4_init_34 (fun H locs hP hD hS => ?_)
  have hP : va_P (dC, dI) vwCl ([(a0, .inr (4, [.ref (u2 0), .ref (u4 0), .ref (u6 0), .null]))] ++ w0 cs u2 i0 ++ w0 cs u4 i0 ++ (w1 cs u6 i1).flatten) H := hP
  have hD : va_D A ([(a0, .inr (4, [.ref (u2 0), .ref (u4 0), .ref (u6 0), .null]))] ++ w0 cs u2 i0 ++ w0 cs u4 i0 ++ (w1 cs u6 i1).flatten) := hD
  refine lv_aload_n hx hb dX4_init_37 rfl (lv_at hl 0 rfl) ?_
  refine va_new (ci := 3) (fs := [.null, .null, .null, .null, .int 0, .int 0]) (C := RX3) (T := TX3) (N := 6) hx hb hts hin3 tyX3 tyX3_ok hown (hts (.classLink RX4 26 RX3) (by decide +kernel)) (hts (.instantiable RX3 6) (by decide +kernel)) (hts (.initialized RX3) (by decide +kernel)) hK hP hD hS hA rfl (fun j hj => by rcases (show j = 0 ∨ j = 1 ∨ j = 2 ∨ j = 3 ∨ j = 4 ∨ j = 5 by omega) with rfl | rfl | rfl | rfl | rfl | rfl <;> rfl) (Nat.le_of_ble_eq_true rfl) (Nat.le_of_ble_eq_true rfl) dX4_init_38 (fun q7 H hP hD hS => ?_)
  have hP : va_P (dC, dI) vwCl ([(a0, .inr (4, [.ref (u2 0), .ref (u4 0), .ref (u6 0), .null]))] ++ w0 cs u2 i0 ++ w0 cs u4 i0 ++ (w1 cs u6 i1).flatten ++ [(q7, .inr (3, [.null, .null, .null, .null, .int 0, .int 0]))]) H := hP
  have hD : va_D A ([(a0, .inr (4, [.ref (u2 0), .ref (u4 0), .ref (u6 0), .null]))] ++ w0 cs u2 i0 ++ w0 cs u4 i0 ++ (w1 cs u6 i1).flatten ++ [(q7, .inr (3, [.null, .null, .null, .null, .int 0, .int 0]))]) := hD
  refine lv_dup hx hb dX4_init_41 rfl ?_
  have hPc := hP.sub (ws' := [(q7, .inr (3, [.null, .null, .null, .null, .int 0, .int 0]))]) [93] rfl
  have hDc := hD.sub (ws' := [(q7, .inr (3, [.null, .null, .null, .null, .int 0, .int 0]))]) [93] (by decide) rfl
  have hFc := va_free (wc := [(q7, .inr (3, [.null, .null, .null, .null, .int 0, .int 0]))]) hD hS hA [93] rfl
  refine va_callv (va_runI (As := []) (rest := [.ref q7, .ref a0]) ⟨hx, hb, hml, hown, hts⟩ (c3_init l dC dI cs q7 H.size) (cwI 0 hts gX4_init_X3_init rfl rfl rfl (hts (.initialized RX3) (by decide +kernel)) (hts (.methodLink RX4 28 yX3_init) (by decide +kernel)) (hts (.instanceMethod yX3_init) (by decide +kernel)) rfl (by decide +kernel) ⟨Nat.le_of_ble_eq_true rfl, Nat.le_of_ble_eq_true rfl⟩) ⟨xPW_blind, fun U hU hW => ⟨rfl, by rw [hU], by rw [hU]; exact hPc, va_K.moved hW.alike hK, hDc.weaken (fun _ _ _ _ => trivial)⟩⟩ rfl rfl hl.1 rfl (lv_room (Nat.le_of_ble_eq_true rfl)) dX4_init_42 ⟨Nat.le_of_ble_eq_true rfl, Nat.le_of_ble_eq_true rfl⟩) hS (fun z9 _ h => hFc z9 h) hFc (fun u8 t H locs ht hvm hw hB hz1 hk1 hS => ?_)
  obtain ⟨hu0, hP1, hD1⟩ := hB
  subst hu0
  rw [ht] at hP1
  obtain ⟨hP, hD⟩ := va_join (wr := [(a0, .inr (4, [.ref (u2 0), .ref (u4 0), .ref (u6 0), .null]))] ++ w0 cs u2 i0 ++ w0 cs u4 i0 ++ (w1 cs u6 i1).flatten) (w1 := w3 cs u8 i3) hP hD [93] [0, 1, 2, 3, 4, 5, 6, 7, 8, 9, 10, 11, 12, 13, 14, 15, 16, 17, 18, 19, 20, 21, 22, 23, 24, 25, 26, 27, 28, 29, 30, 31, 32, 33, 34, 35, 36, 37, 38, 39, 40, 41, 42, 43, 44, 45, 46, 47, 48, 49, 50, 51, 52, 53, 54, 55, 56, 57, 58, 59, 60, 61, 62, 63, 64, 65, 66, 67, 68, 69, 70, 71, 72, 73, 74, 75, 76, 77, 78, 79, 80, 81, 82, 83, 84, 85, 86, 87, 88, 89, 90, 91, 92] rfl rfl (by decide) (by decide) hk1 hFc hP1 hD1
  have hP : va_P (dC, dI) vwCl ([(a0, .inr (4, [.ref (u2 0), .ref (u4 0), .ref (u6 0), .null]))] ++ w0 cs u2 i0 ++ w0 cs u4 i0 ++ (w1 cs u6 i1).flatten ++ w3 cs u8 i3) H := hP
  have hD : va_D A ([(a0, .inr (4, [.ref (u2 0), .ref (u4 0), .ref (u6 0), .null]))] ++ w0 cs u2 i0 ++ w0 cs u4 i0 ++ (w1 cs u6 i1).flatten ++ w3 cs u8 i3) := hD
  refine va_putF (D := (dC, dI)) (ci := 4) (v := .ref (u8 0)) (ty := .object "BoatRuns$Text") (C := RX4) (T := TX4) (N := 4) hx hb hts hin4 tyX4 tyX4_ok nmX4 hown hK hP hD hS 0 rfl rfl 3 (by decide) (hts (.fieldLink RX4 29 "BoatRuns" "text" "LBoatRuns$Text;") (by decide +kernel)) (fun _ h9 => h9) rfl hin rfl (by decide +kernel) rfl rfl (Nat.le_of_ble_eq_true rfl) dX4_init_45 (fun H locs hP hD hS => ?_)
  have hP : va_P (dC, dI) vwCl ([(a0, .inr (4, [.ref (u2 0), .ref (u4 0), .ref (u6 0), .ref (u8 0)]))] ++ w0 cs u2 i0 ++ w0 cs u4 i0 ++ (w1 cs u6 i1).flatten ++ w3 cs u8 i3) H := hP
  have hD : va_D A ([(a0, .inr (4, [.ref (u2 0), .ref (u4 0), .ref (u6 0), .ref (u8 0)]))] ++ w0 cs u2 i0 ++ w0 cs u4 i0 ++ (w1 cs u6 i1).flatten ++ w3 cs u8 i3) := hD
  obtain ⟨aa, haa⟩ : ∃ z : Nat → Nat, z = fun k => if k < 1 then a0 else if k < 16 then u2 (k - 1) else if k < 31 then u4 (k - 16) else if k < 93 then u6 (k - 31) else u8 (k - 93) := ⟨_, rfl⟩
  have hP9 : va_P (dC, dI) vwCl ((w4 cs aa i4).flatten) H := by subst haa; exact hP.sub [0, 1, 2, 3, 4, 5, 6, 7, 8, 9, 10, 11, 12, 13, 14, 15, 16, 17, 18, 19, 20, 21, 22, 23, 24, 25, 26, 27, 28, 29, 30, 31, 32, 33, 34, 35, 36, 37, 38, 39, 40, 41, 42, 43, 44, 45, 46, 47, 48, 49, 50, 51, 52, 53, 54, 55, 56, 57, 58, 59, 60, 61, 62, 63, 64, 65, 66, 67, 68, 69, 70, 71, 72, 73, 74, 75, 76, 77, 78, 79, 80, 81, 82, 83, 84, 85, 86, 87, 88, 89, 90, 91, 92, 93, 94, 95, 96, 97, 98, 99, 100, 101] rfl
  have hD9 : va_D A ((w4 cs aa i4).flatten) := by subst haa; exact hD.sub [0, 1, 2, 3, 4, 5, 6, 7, 8, 9, 10, 11, 12, 13, 14, 15, 16, 17, 18, 19, 20, 21, 22, 23, 24, 25, 26, 27, 28, 29, 30, 31, 32, 33, 34, 35, 36, 37, 38, 39, 40, 41, 42, 43, 44, 45, 46, 47, 48, 49, 50, 51, 52, 53, 54, 55, 56, 57, 58, 59, 60, 61, 62, 63, 64, 65, 66, 67, 68, 69, 70, 71, 72, 73, 74, 75, 76, 77, 78, 79, 80, 81, 82, 83, 84, 85, 86, 87, 88, 89, 90, 91, 92, 93, 94, 95, 96, 97, 98, 99, 100, 101] (by decide) rfl
  have ha0 : aa 0 = a0 := by rw [haa]; rfl
  subst hAe
  refine W.widen (k := 101) (n := 5479) (by omega) (by omega) ?_
  exact W.vret hx hb hr (fun t ht hW => ⟨⟨aa, rfl, trivial, ⟨ha0, by show va_P (dC, dI) vwCl ((w4 cs aa i4).flatten) t.heap; rw [ht]; exact hP9, hD9⟩⟩, hS.F ht⟩) hS.2.2 dX4_init_48 hlocks

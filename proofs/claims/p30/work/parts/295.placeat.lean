def f1_placeAt (_h : HisS) (p0 : Int) : Option Int := x_lt p0 0 (some (-1)) (x_lt p0 4 (some p0) (some (-1)))
set_option maxHeartbeats 4000000 in
set_option maxRecDepth 100000 in
theorem c1_placeAt (l : Launch) (dC : Nat → ClassId) (dI : Nat → Nat → Nat) (cs : Nat → ClassId) (a : Nat → Nat) (h : HisS) (p0 : Int) (res : Int) (hf : f1_placeAt h p0 = some res) : Met l yX1_placeAt wsX1_placeAt ({ frames := 0, cells := 0, slots := 0, locals := 0 } : Room) (va_Pc [.ref (a 0), .int (iI p0)] (xPR (dC, dI) vwCl ((w1 cs a h).flatten) (xT cs))) (va_Sq (fun r => r = x_hp a res)) 0 0 (fun _ => False) := by
  refine Met.ofW (cc := cX1_placeAt) (maxL := 2) (ret := (some (.object "BoatRuns$Boat"))) (by decide) rfl ?_
  intro p e s m args below meth c s₁ B hml hv
  obtain ⟨rfl, hP, hK⟩ := hv
  have hx := B.exec
  have hb := B.bytes
  have hr := B.returns
  have hts := atoms_spec (ws := wsX1_placeAt) B.pre
  have hown : s.vm.findClass RX1 = some m.cls := findClass_of_methodNamed B.named
  have hlocks := B.notSynchronized
  have hin1 : ∀ w ∈ wsX10, w ∈ wsX1_placeAt := by decide +kernel
  have hl := lv_entry [.ref (a 0), .int (iI p0)] (n := 2) (Nat.le_of_ble_eq_true rfl)
  rw [lg_entry_eq]
  generalize (lg_sl [.ref (a 0), .int (iI p0)] ++ List.replicate (2 - (lg_sl [.ref (a 0), .int (iI p0)]).length) Slot.unset).toArray = ls at hl ⊢
  have hl : lv_has ls 2 [(0, .ref (a 0)), (1, .int (iI p0))] := hl
  unfold f1_placeAt at hf
  obtain ⟨c1a, c1b, c1t, c1f⟩ := x_ltE hf
  refine lv_iload_n hx hb dX1_placeAt_0 rfl (lv_at hl 1 rfl) ?_
  refine xk_if_lt (tgt := 22) hx hb c1a dX1_placeAt_1 (by decide) (fun c1 => ?_) (fun c1 => ?_)
  · have hf := c1t c1
    obtain rfl := Option.some.inj hf
    refine lv_null hx hb dX1_placeAt_22 ?_
    exact W.aret hx hb hr (Or.inl ⟨_, rfl⟩) (Or.inl rfl) (fun t ht hW => ⟨none, rfl, rfl, by rw [ht]⟩) (fun q hq => by cases hq) dX1_placeAt_23 hlocks
  · have hf := c1f c1
    obtain ⟨c2a, c2b, c2t, c2f⟩ := x_ltE hf
    refine lv_iload_n hx hb dX1_placeAt_4 rfl (lv_at hl 1 rfl) ?_
    refine lv_aload_n hx hb dX1_placeAt_5 rfl (lv_at hl 0 rfl) ?_
    refine va_get (D := (dC, dI)) (ci := 1) (v := .ref (a 1)) (C := RX1) (T := TX1) (N := 3) hx hb hts hin1 hown hK hP 0 rfl rfl 0 (by decide) (hts (.fieldLink RX1 11 "BoatRuns$History" "places" "[LBoatRuns$Boat;") (by decide +kernel)) (fun _ h9 => h9) rfl dX1_placeAt_6 ?_
    refine xk_alen hx hb hK hP 1 2 rfl rfl dX1_placeAt_9 ?_
    refine xk_icmp_ge (tgt := 22) hx hb c2a c2b dX1_placeAt_10 (by decide) (fun c2 => ?_) (fun c2 => ?_)
    · have hf := c2t c2
      refine lv_aload_n hx hb dX1_placeAt_13 rfl (lv_at hl 0 rfl) ?_
      refine va_get (D := (dC, dI)) (ci := 1) (v := .ref (a 1)) (C := RX1) (T := TX1) (N := 3) hx hb hts hin1 hown hK hP 0 rfl rfl 0 (by decide) (hts (.fieldLink RX1 11 "BoatRuns$History" "places" "[LBoatRuns$Boat;") (by decide +kernel)) (fun _ h9 => h9) rfl dX1_placeAt_14 ?_
      refine lv_iload_n hx hb dX1_placeAt_17 rfl (lv_at hl 1 rfl) ?_
      refine va_aldq hx hb hK hP 1 2 rfl rfl (iI_in (by omega) c2 (by decide)) dX1_placeAt_18 ?_
      refine lv_goto (tgt := 23) hx hb dX1_placeAt_19 (by decide) ?_
      obtain rfl := Option.some.inj hf
      rw [iI_clamp (by omega) (by omega)]
      have e9 : ((p0.toNat : Nat) : Int) = p0 := Int.toNat_of_nonneg (by omega)
      refine W.aret hx hb hr (Or.inl ⟨_, rfl⟩) ?_ (fun t ht hW => ⟨x_hp a ((p0.toNat : Nat) : Int), rfl, by rw [e9], by rw [ht]⟩) (fun q hq => by cases hq) dX1_placeAt_23 hlocks
      show va_rf (x_hp a ((p0.toNat : Nat) : Int)) = .null ∨ _
      cases x_hp a ((p0.toNat : Nat) : Int) with
      | none => exact Or.inl rfl
      | some q => exact Or.inr ⟨q, rfl⟩
    · have hf := c2f c2
      obtain rfl := Option.some.inj hf
      refine lv_null hx hb dX1_placeAt_22 ?_
      exact W.aret hx hb hr (Or.inl ⟨_, rfl⟩) (Or.inl rfl) (fun t ht hW => ⟨none, rfl, rfl, by rw [ht]⟩) (fun q hq => by cases hq) dX1_placeAt_23 hlocks
theorem cdX1_placeAt : yX1_placeAt.cls = RX1 ∧ yX1_placeAt.cls ≠ "java/lang/invoke/MethodHandle" ∧ yX1_placeAt.cls ≠ "java/lang/invoke/VarHandle" ∧ (parseMethodDescriptor yX1_placeAt.desc).map (fun d => d.parameters.length) = some 1 := by decide +kernel

set_option maxHeartbeats 4000000 in
set_option maxRecDepth 100000 in
theorem c5_runsBy (l : Launch) (dC : Nat → ClassId) (dI : Nat → Nat → Nat) (cs : Nat → ClassId) (a : Nat → Nat) (sz : Nat) (x : ModS) (p0 : Int) (res : Int × ModS) (hf : f5_runsBy x p0 = some res) : Met l yX5_runsBy wsX5_runsBy ({ frames := 4, cells := 0, slots := 0, locals := 90 } : Room) (va_Pc [.ref (a 0), .int (iI p0)] (xPW (dC, dI) vwCl (w5 cs a x) (xT cs) sz)) (xQi (dC, dI) vwCl (w5 cs a x) (w5 cs a res.2) sz res.1) 0 0 (va_A (w5 cs a x) sz) := by
  refine Met.ofW (cc := cX5_runsBy) (maxL := 5) (ret := (some .int)) (by decide) rfl ?_
  intro p e s m args below meth c s₁ B hml hv
  obtain ⟨rfl, hsz, hP, hK, hD0⟩ := hv
  have hx := B.exec
  have hb := B.bytes
  have hr := B.returns
  have hts := atoms_spec (ws := wsX5_runsBy) B.pre
  have hown : s.vm.findClass RX5 = some m.cls := findClass_of_methodNamed B.named
  have hlocks := B.notSynchronized
  have hin5 : ∀ w ∈ wsX50, w ∈ wsX5_runsBy := by decide +kernel
  subst hsz
  have hD := hD0.self (sz := s.heap.size)
  have hA : ∀ z9 : Nat, s.heap.size ≤ z9 → va_A (w5 cs a x) s.heap.size z9 := fun z9 h => Or.inr h
  have hS : va_S (va_A (w5 cs a x) s.heap.size) s.heap s.heap [] := va_S.rf
  have hl := lv_entry [.ref (a 0), .int (iI p0)] (n := 5) (Nat.le_of_ble_eq_true rfl)
  rw [lg_entry_eq]
  generalize (lg_sl [.ref (a 0), .int (iI p0)] ++ List.replicate (5 - (lg_sl [.ref (a 0), .int (iI p0)]).length) Slot.unset).toArray = ls at hl ⊢
  have hl : lv_has ls 5 [(0, .ref (a 0)), (1, .int (iI p0))] := hl
  unfold f5_runsBy at hf
  refine xk_iconst hx hb dX5_runsBy_0 ?_
  refine lv_istore_n (lv' := [(2, .int (iI 0)), (0, .ref (a 0)), (1, .int (iI p0))]) hx hb dX5_runsBy_1 rfl hl (by decide) rfl (fun ls hl => ?_)
  have hL2 : ∀ (n2 : Nat) (l2 : Int) (x1 : ModS), f5_runsBy_L2 p0 n2 l2 x1 = some res → ∀ (H : Heap) (locs : List Loc), va_P (dC, dI) vwCl (w5 cs a x1) H → va_S (va_A (w5 cs a x) s.heap.size) s.heap H locs → ∀ (ls : Array Slot), lv_has ls 5 [(0, .ref (a 0)), (1, .int (iI p0)), (2, .int (iI l2))] → W p l e (headSpec wsX5_runsBy ({ frames := 4, cells := 0, slots := 0, locals := 90 } : Room)).room s m ([.ref (a 0), .int (iI p0)] : List Value).toArray below meth c H locs 0 0 (MQ below (xQi (dC, dI) vwCl (w5 cs a x) (w5 cs a res.2) s.heap.size res.1) ([.ref (a 0), .int (iI p0)] : List Value).toArray s 0 0 (va_A (w5 cs a x) s.heap.size)) (F0 m 2 ls []) := by
    intro  n2
    induction n2 with
    | zero => intro l2 x1 hf; have hf : (none : Option (Int × ModS)) = some res := hf; cases hf
    | succ n2 ih2 =>
      intro l2 x1 hf H locs hP hS ls hl
      rw [f5_runsBy_L2] at hf
      refine lv_iload_n hx hb dX5_runsBy_2 rfl (lv_at hl 2 rfl) ?_
      refine xk_bipush hx hb dX5_runsBy_3 (by decide) ?_
      obtain ⟨c3a, c3b, c3t, c3f⟩ := x_ltE hf
      refine xk_icmp_ge (tgt := 21) hx hb c3a c3b dX5_runsBy_5 (by decide) (fun c3 => ?_) (fun c3 => ?_)
      · have hf := c3t c3
        refine lv_aload_n hx hb dX5_runsBy_8 rfl (lv_at hl 0 rfl) ?_
        refine va_get (D := (dC, dI)) (ci := 5) (v := .ref (a 6)) (C := RX5) (T := TX5) (N := 13) hx hb hts hin5 hown hK hP 0 rfl rfl 8 (by decide) (hts (.fieldLink RX5 29 "BoatRunsModel" "aboard" "[Z") (by decide +kernel)) (fun _ h9 => h9) rfl dX5_runsBy_9 ?_
        refine lv_iload_n hx hb dX5_runsBy_12 rfl (lv_at hl 2 rfl) ?_
        refine xk_iconst hx hb dX5_runsBy_13 ?_
        obtain ⟨g4, eg4, hf⟩ := x_bind hf
        refine xk_zast (f := g5_abo x1) hx hb hK hP (x_addr hD rfl) hS 6 1 eg4 (by decide) rfl rfl dX5_runsBy_14 (fun H locs hP hS => ?_)
        have hP : va_P (dC, dI) vwCl (w5C cs a (g5_thr x1) (g5_acts x1) (g5_typ x1) (g5_lat x1) (g5_pos x1) (g5_wra x1) (g5_now x1) (g5_put x1) (g5_was x1) (g5_txt x1) (g5_lef x1) g4 (g5_ors x1)) H := hP
        refine xk_iinc (lv' := [(2, .int (iI (l2 + 1))), (0, .ref (a 0)), (1, .int (iI p0))]) hx hb dX5_runsBy_15 hl (k := 2) rfl (by decide) rfl (fun ls hl => ?_)
        refine lv_goto (tgt := 2) hx hb dX5_runsBy_18 (by decide) ?_
        exact ih2 (l2 + 1) (s5_abo x1 g4) hf _ _ hP hS ls (lv_sub hl [1, 2, 0] rfl)
      · have hf := c3f c3
        refine lv_aload_n hx hb dX5_runsBy_21 rfl (lv_at hl 0 rfl) ?_
        refine xk_iconst hx hb dX5_runsBy_22 ?_
        refine va_put (D := (dC, dI)) (ci := 5) (v := .int (iI (-1))) (ty := .int) (C := RX5) (T := TX5) (N := 13) hx hb hts hin5 tyX5 tyX5_ok nmX5 hown hK hP (x_addr hD rfl) hS 0 rfl rfl 9 (by decide) (hts (.fieldLink RX5 168 "BoatRunsModel" "latest" "I") (by decide +kernel)) (fun _ h9 => h9) rfl (by decide +kernel) rfl rfl (Nat.le_of_ble_eq_true rfl) dX5_runsBy_23 (fun H locs hP _ hS => ?_)
        have hP : va_P (dC, dI) vwCl (w5C cs a (g5_thr x1) (g5_acts x1) (g5_typ x1) (-1) (g5_pos x1) (g5_wra x1) (g5_now x1) (g5_put x1) (g5_was x1) (g5_txt x1) (g5_lef x1) (g5_abo x1) (g5_ors x1)) H := hP
        refine xk_iconst hx hb dX5_runsBy_26 ?_
        refine lv_istore_n (lv' := [(2, .int (iI 0)), (0, .ref (a 0)), (1, .int (iI p0))]) hx hb dX5_runsBy_27 rfl hl (by decide) rfl (fun ls hl => ?_)
        refine xk_iconst hx hb dX5_runsBy_28 ?_
        refine lv_istore_n (lv' := [(3, .int (iI 0)), (2, .int (iI 0)), (0, .ref (a 0)), (1, .int (iI p0))]) hx hb dX5_runsBy_29 rfl hl (by decide) rfl (fun ls hl => ?_)
        refine xk_iconst hx hb dX5_runsBy_30 ?_
        refine lv_istore (lv' := [(4, .int (iI 0)), (3, .int (iI 0)), (2, .int (iI 0)), (0, .ref (a 0)), (1, .int (iI p0))]) hx hb dX5_runsBy_31 hl (by decide) rfl (fun ls hl => ?_)
        have hL33 : ∀ (n6 : Nat) (l2x : Int) (l3 : Int) (l4 : Int) (x5 : ModS), f5_runsBy_L33 p0 n6 l2x l3 l4 x5 = some res → ∀ (H : Heap) (locs : List Loc), va_P (dC, dI) vwCl (w5 cs a x5) H → va_S (va_A (w5 cs a x) s.heap.size) s.heap H locs → ∀ (ls : Array Slot), lv_has ls 5 [(0, .ref (a 0)), (1, .int (iI p0)), (2, .int (iI l2x)), (3, .int (iI l3)), (4, .int (iI l4))] → W p l e (headSpec wsX5_runsBy ({ frames := 4, cells := 0, slots := 0, locals := 90 } : Room)).room s m ([.ref (a 0), .int (iI p0)] : List Value).toArray below meth c H locs 0 0 (MQ below (xQi (dC, dI) vwCl (w5 cs a x) (w5 cs a res.2) s.heap.size res.1) ([.ref (a 0), .int (iI p0)] : List Value).toArray s 0 0 (va_A (w5 cs a x) s.heap.size)) (F0 m 33 ls []) := by
          intro  n6
          induction n6 with
          | zero => intro l2x l3 l4 x5 hf; have hf : (none : Option (Int × ModS)) = some res := hf; cases hf
          | succ n6 ih33 =>
            intro l2x l3 l4 x5 hf H locs hP hS ls hl
            rw [f5_runsBy_L33] at hf
            refine lv_iload hx hb dX5_runsBy_33 (lv_at hl 4 rfl) ?_
            refine lv_aload_n hx hb dX5_runsBy_35 rfl (lv_at hl 0 rfl) ?_
            refine va_get (D := (dC, dI)) (ci := 5) (v := .ref (a 1)) (C := RX5) (T := TX5) (N := 13) hx hb hts hin5 hown hK hP 0 rfl rfl 1 (by decide) (hts (.fieldLink RX5 13 "BoatRunsModel" "now" "[I") (by decide +kernel)) (fun _ h9 => h9) rfl dX5_runsBy_36 ?_
            refine xk_iconst hx hb dX5_runsBy_39 ?_
            obtain ⟨v7, ev7, hf⟩ := x_bind hf
            refine xk_iald (f := g5_now x5) hx hb hK hP 1 0 ev7 (by decide) rfl rfl dX5_runsBy_40 ?_
            obtain ⟨c8a, c8b, c8t, c8f⟩ := x_ltE hf
            refine xk_icmp_ge (tgt := 76) hx hb c8a c8b dX5_runsBy_41 (by decide) (fun c8 => ?_) (fun c8 => ?_)
            · have hf := c8t c8
              refine lv_iload_n hx hb dX5_runsBy_44 rfl (lv_at hl 3 rfl) ?_
              refine lv_iload_n hx hb dX5_runsBy_45 rfl (lv_at hl 1 rfl) ?_
              obtain ⟨c9a, c9b, c9t, c9f⟩ := x_eqE hf
              refine xk_icmp_ne (tgt := 59) hx hb c9a c9b dX5_runsBy_46 (by decide) (fun c9 => ?_) (fun c9 => ?_)
              · have hf := c9t c9
                refine lv_iload_n hx hb dX5_runsBy_49 rfl (lv_at hl 2 rfl) ?_
                refine lv_aload_n hx hb dX5_runsBy_50 rfl (lv_at hl 0 rfl) ?_
                obtain ⟨⟨v11, x10⟩, ex10, hf⟩ := x_bind hf
                refine xc_wi (As := []) (rest := [.int (iI l2x)]) ⟨hx, hb, hml, hown, hts⟩ (c5_tries l dC dI cs a _ x5  _ ex10) (cwV 0 hts gX5_runsBy_X5_tries rfl rfl rfl cdX5_tries ⟨Nat.le_of_ble_eq_true rfl, Nat.le_of_ble_eq_true rfl⟩) hK hP (x_addr hD rfl) hS hA [0, 1, 2, 3, 4, 5, 6, 7] rfl (by decide) rfl 0 rfl rfl rfl hl.1 rfl (Nat.le_of_ble_eq_true rfl) dX5_runsBy_51 ⟨Nat.zero_le _, Nat.zero_le _⟩ (fun H locs hP hS => ?_)
                have hP : va_P (dC, dI) vwCl (w5 cs a x10) H := hP
                refine xk_iadd hx hb dX5_runsBy_54 ?_
                refine lv_istore_n (lv' := [(2, .int (iI (l2x + v11))), (0, .ref (a 0)), (1, .int (iI p0)), (3, .int (iI l3)), (4, .int (iI l4))]) hx hb dX5_runsBy_55 rfl hl (by decide) rfl (fun ls hl => ?_)
                refine xk_iinc (lv' := [(3, .int (iI (l3 + (-1)))), (2, .int (iI (l2x + v11))), (0, .ref (a 0)), (1, .int (iI p0)), (4, .int (iI l4))]) hx hb dX5_runsBy_56 hl (k := 3) rfl (by decide) rfl (fun ls hl => ?_)
                refine lv_aload_n hx hb dX5_runsBy_59 rfl (lv_at hl 2 rfl) ?_
                refine va_get (D := (dC, dI)) (ci := 5) (v := .ref (a 6)) (C := RX5) (T := TX5) (N := 13) hx hb hts hin5 hown hK hP 0 rfl rfl 8 (by decide) (hts (.fieldLink RX5 29 "BoatRunsModel" "aboard" "[Z") (by decide +kernel)) (fun _ h9 => h9) rfl dX5_runsBy_60 ?_
                refine lv_iload hx hb dX5_runsBy_63 (lv_at hl 4 rfl) ?_
                refine xk_iconst hx hb dX5_runsBy_65 ?_
                obtain ⟨g13, eg13, hf⟩ := x_bind hf
                refine xk_zast (f := g5_abo x10) hx hb hK hP (x_addr hD rfl) hS 6 1 eg13 (by decide) rfl rfl dX5_runsBy_66 (fun H locs hP hS => ?_)
                have hP : va_P (dC, dI) vwCl (w5C cs a (g5_thr x10) (g5_acts x10) (g5_typ x10) (g5_lat x10) (g5_pos x10) (g5_wra x10) (g5_now x10) (g5_put x10) (g5_was x10) (g5_txt x10) (g5_lef x10) g13 (g5_ors x10)) H := hP
                refine xk_iinc (lv' := [(3, .int (iI ((l3 + (-1)) + 1))), (2, .int (iI (l2x + v11))), (0, .ref (a 0)), (1, .int (iI p0)), (4, .int (iI l4))]) hx hb dX5_runsBy_67 hl (k := 0) rfl (by decide) rfl (fun ls hl => ?_)
                refine xk_iinc (lv' := [(4, .int (iI (l4 + 1))), (3, .int (iI ((l3 + (-1)) + 1))), (2, .int (iI (l2x + v11))), (0, .ref (a 0)), (1, .int (iI p0))]) hx hb dX5_runsBy_70 hl (k := 4) rfl (by decide) rfl (fun ls hl => ?_)
                refine lv_goto (tgt := 33) hx hb dX5_runsBy_73 (by decide) ?_
                exact ih33 (l2x + v11) ((l3 + (-1)) + 1) (l4 + 1) (s5_abo x10 g13) hf _ _ hP hS ls (lv_sub hl [3, 4, 2, 1, 0] rfl)
              · have hf := c9f c9
                refine lv_aload_n hx hb dX5_runsBy_59 rfl (lv_at hl 0 rfl) ?_
                refine va_get (D := (dC, dI)) (ci := 5) (v := .ref (a 6)) (C := RX5) (T := TX5) (N := 13) hx hb hts hin5 hown hK hP 0 rfl rfl 8 (by decide) (hts (.fieldLink RX5 29 "BoatRunsModel" "aboard" "[Z") (by decide +kernel)) (fun _ h9 => h9) rfl dX5_runsBy_60 ?_
                refine lv_iload hx hb dX5_runsBy_63 (lv_at hl 4 rfl) ?_
                refine xk_iconst hx hb dX5_runsBy_65 ?_
                obtain ⟨g14, eg14, hf⟩ := x_bind hf
                refine xk_zast (f := g5_abo x5) hx hb hK hP (x_addr hD rfl) hS 6 1 eg14 (by decide) rfl rfl dX5_runsBy_66 (fun H locs hP hS => ?_)
                have hP : va_P (dC, dI) vwCl (w5C cs a (g5_thr x5) (g5_acts x5) (g5_typ x5) (g5_lat x5) (g5_pos x5) (g5_wra x5) (g5_now x5) (g5_put x5) (g5_was x5) (g5_txt x5) (g5_lef x5) g14 (g5_ors x5)) H := hP
                refine xk_iinc (lv' := [(3, .int (iI (l3 + 1))), (0, .ref (a 0)), (1, .int (iI p0)), (2, .int (iI l2x)), (4, .int (iI l4))]) hx hb dX5_runsBy_67 hl (k := 3) rfl (by decide) rfl (fun ls hl => ?_)
                refine xk_iinc (lv' := [(4, .int (iI (l4 + 1))), (3, .int (iI (l3 + 1))), (0, .ref (a 0)), (1, .int (iI p0)), (2, .int (iI l2x))]) hx hb dX5_runsBy_70 hl (k := 4) rfl (by decide) rfl (fun ls hl => ?_)
                refine lv_goto (tgt := 33) hx hb dX5_runsBy_73 (by decide) ?_
                exact ih33 l2x (l3 + 1) (l4 + 1) (s5_abo x5 g14) hf _ _ hP hS ls (lv_sub hl [2, 3, 4, 1, 0] rfl)
            · have hf := c8f c8
              refine xk_iconst hx hb dX5_runsBy_76 ?_
              refine lv_istore (lv' := [(4, .int (iI 0)), (0, .ref (a 0)), (1, .int (iI p0)), (2, .int (iI l2x)), (3, .int (iI l3))]) hx hb dX5_runsBy_77 hl (by decide) rfl (fun ls hl => ?_)
              have hL79 : ∀ (n16 : Nat) (l2xx : Int) (l4x : Int) (x15 : ModS), f5_runsBy_L79 l3 n16 l2xx l4x x15 = some res → ∀ (H : Heap) (locs : List Loc), va_P (dC, dI) vwCl (w5 cs a x15) H → va_S (va_A (w5 cs a x) s.heap.size) s.heap H locs → ∀ (ls : Array Slot), lv_has ls 5 [(0, .ref (a 0)), (2, .int (iI l2xx)), (3, .int (iI l3)), (4, .int (iI l4x))] → W p l e (headSpec wsX5_runsBy ({ frames := 4, cells := 0, slots := 0, locals := 90 } : Room)).room s m ([.ref (a 0), .int (iI p0)] : List Value).toArray below meth c H locs 0 0 (MQ below (xQi (dC, dI) vwCl (w5 cs a x) (w5 cs a res.2) s.heap.size res.1) ([.ref (a 0), .int (iI p0)] : List Value).toArray s 0 0 (va_A (w5 cs a x) s.heap.size)) (F0 m 79 ls []) := by
                intro  n16
                induction n16 with
                | zero => intro l2xx l4x x15 hf; have hf : (none : Option (Int × ModS)) = some res := hf; cases hf
                | succ n16 ih79 =>
                  intro l2xx l4x x15 hf H locs hP hS ls hl
                  rw [f5_runsBy_L79] at hf
                  refine lv_iload hx hb dX5_runsBy_79 (lv_at hl 3 rfl) ?_
                  refine lv_iload_n hx hb dX5_runsBy_81 rfl (lv_at hl 2 rfl) ?_
                  obtain ⟨c17a, c17b, c17t, c17f⟩ := x_ltE hf
                  refine xk_icmp_ge (tgt := 98) hx hb c17a c17b dX5_runsBy_82 (by decide) (fun c17 => ?_) (fun c17 => ?_)
                  · have hf := c17t c17
                    refine lv_iload_n hx hb dX5_runsBy_85 rfl (lv_at hl 1 rfl) ?_
                    refine lv_aload_n hx hb dX5_runsBy_86 rfl (lv_at hl 0 rfl) ?_
                    obtain ⟨⟨v19, x18⟩, ex18, hf⟩ := x_bind hf
                    refine xc_wi (As := []) (rest := [.int (iI l2xx)]) ⟨hx, hb, hml, hown, hts⟩ (c5_tries l dC dI cs a _ x15  _ ex18) (cwV 0 hts gX5_runsBy_X5_tries rfl rfl rfl cdX5_tries ⟨Nat.le_of_ble_eq_true rfl, Nat.le_of_ble_eq_true rfl⟩) hK hP (x_addr hD rfl) hS hA [0, 1, 2, 3, 4, 5, 6, 7] rfl (by decide) rfl 0 rfl rfl rfl hl.1 rfl (Nat.le_of_ble_eq_true rfl) dX5_runsBy_87 ⟨Nat.zero_le _, Nat.zero_le _⟩ (fun H locs hP hS => ?_)
                    have hP : va_P (dC, dI) vwCl (w5 cs a x18) H := hP
                    refine xk_iadd hx hb dX5_runsBy_90 ?_
                    refine lv_istore_n (lv' := [(2, .int (iI (l2xx + v19))), (0, .ref (a 0)), (3, .int (iI l3)), (4, .int (iI l4x))]) hx hb dX5_runsBy_91 rfl hl (by decide) rfl (fun ls hl => ?_)
                    refine xk_iinc (lv' := [(4, .int (iI (l4x + 1))), (2, .int (iI (l2xx + v19))), (0, .ref (a 0)), (3, .int (iI l3))]) hx hb dX5_runsBy_92 hl (k := 3) rfl (by decide) rfl (fun ls hl => ?_)
                    refine lv_goto (tgt := 79) hx hb dX5_runsBy_95 (by decide) ?_
                    exact ih79 (l2xx + v19) (l4x + 1) x18 hf _ _ hP hS ls (lv_sub hl [2, 1, 3, 0] rfl)
                  · have hf := c17f c17
                    refine lv_iload_n hx hb dX5_runsBy_98 rfl (lv_at hl 1 rfl) ?_
                    obtain rfl := Option.some.inj hf
                    exact xe_wi hx hb hr hlocks hS hP dX5_runsBy_99
              exact hL79  xFU l2x 0 x5 hf _ _ hP hS ls (lv_sub hl [1, 3, 4, 0] rfl)
        exact hL33  xFU 0 0 0 (s5_lat x1 (-1)) hf _ _ hP hS ls (lv_sub hl [3, 4, 2, 1, 0] rfl)
  exact hL2  xFU 0 x hf _ _ hP hS ls (lv_sub hl [1, 2, 0] rfl)
theorem cdX5_runsBy : yX5_runsBy.cls = RX5 ∧ yX5_runsBy.cls ≠ "java/lang/invoke/MethodHandle" ∧ yX5_runsBy.cls ≠ "java/lang/invoke/VarHandle" ∧ (parseMethodDescriptor yX5_runsBy.desc).map (fun d => d.parameters.length) = some 1 := by decide +kernel

set_option maxHeartbeats 4000000 in
set_option maxRecDepth 100000 in
theorem c5_runsWith (l : Launch) (dC : Nat → ClassId) (dI : Nat → Nat → Nat) (cs : Nat → ClassId) (a : Nat → Nat) (sz : Nat) (x : ModS) (p0 : Int) (res : Int × ModS) (hf : f5_runsWith x p0 = some res) : Met l yX5_runsWith wsX5_runsWith ({ frames := 5, cells := 0, slots := 0, locals := 114 } : Room) (va_Pc [.ref (a 0), .int (iI p0)] (xPW (dC, dI) vwCl (w5 cs a x) (xT cs) sz)) (xQi (dC, dI) vwCl (w5 cs a x) (w5 cs a res.2) sz res.1) 0 0 (va_A (w5 cs a x) sz) := by
  refine Met.ofW (cc := cX5_runsWith) (maxL := 2) (ret := (some .int)) (by decide) rfl ?_
  intro p e s m args below meth c s₁ B hml hv
  obtain ⟨rfl, hsz, hP, hK, hD0⟩ := hv
  have hx := B.exec
  have hb := B.bytes
  have hr := B.returns
  have hts := atoms_spec (ws := wsX5_runsWith) B.pre
  have hown : s.vm.findClass RX5 = some m.cls := findClass_of_methodNamed B.named
  have hlocks := B.notSynchronized
  have hin5 : ∀ w ∈ wsX50, w ∈ wsX5_runsWith := by decide +kernel
  subst hsz
  have hD := hD0.self (sz := s.heap.size)
  have hA : ∀ z9 : Nat, s.heap.size ≤ z9 → va_A (w5 cs a x) s.heap.size z9 := fun z9 h => Or.inr h
  have hS : va_S (va_A (w5 cs a x) s.heap.size) s.heap s.heap [] := va_S.rf
  have hl := lv_entry [.ref (a 0), .int (iI p0)] (n := 2) (Nat.le_of_ble_eq_true rfl)
  rw [lg_entry_eq]
  generalize (lg_sl [.ref (a 0), .int (iI p0)] ++ List.replicate (2 - (lg_sl [.ref (a 0), .int (iI p0)]).length) Slot.unset).toArray = ls at hl ⊢
  have hl : lv_has ls 2 [(0, .ref (a 0)), (1, .int (iI p0))] := hl
  unfold f5_runsWith at hf
  refine lv_aload_n hx hb dX5_runsWith_0 rfl (lv_at hl 0 rfl) ?_
  refine lv_iload_n hx hb dX5_runsWith_1 rfl (lv_at hl 1 rfl) ?_
  refine xk_iconst hx hb dX5_runsWith_2 ?_
  refine xk_bipush hx hb dX5_runsWith_3 (by decide) ?_
  obtain ⟨v1, ev1, hf⟩ := x_bind hf
  refine xc_si (As := [.int (iI p0), .int (iI 1), .int (iI 120)]) (rest := [.ref (a 0)]) ⟨hx, hb, hml, hown, hts⟩ (c5_in l p0 1 120 _ ev1) (va_cwS 3 hts gX5_runsWith_X5_in rfl rfl rfl cdX5_in ⟨Nat.le_of_ble_eq_true rfl, Nat.le_of_ble_eq_true rfl⟩) rfl hl.1 rfl (Nat.le_of_ble_eq_true rfl) dX5_runsWith_5 ⟨Nat.zero_le _, Nat.zero_le _⟩ ?_
  obtain ⟨c2a, c2b, c2t, c2f⟩ := x_eqE hf
  refine xk_if_eq (tgt := 15) hx hb c2a dX5_runsWith_8 (by decide) (fun c2 => ?_) (fun c2 => ?_)
  · have hf := c2t c2
    refine xk_iconst hx hb dX5_runsWith_15 ?_
    refine va_put (D := (dC, dI)) (ci := 5) (v := .int (iI 1)) (ty := .int) (C := RX5) (T := TX5) (N := 13) hx hb hts hin5 tyX5 tyX5_ok nmX5 hown hK hP (x_addr hD rfl) hS 0 rfl rfl 0 (by decide) (hts (.fieldLink RX5 1 "BoatRunsModel" "thrown" "I") (by decide +kernel)) (fun _ h9 => h9) rfl (by decide +kernel) rfl rfl (Nat.le_of_ble_eq_true rfl) dX5_runsWith_16 (fun H locs hP _ hS => ?_)
    have hP : va_P (dC, dI) vwCl (w5C cs a 1 (g5_acts x) (g5_typ x) (g5_lat x) (g5_pos x) (g5_wra x) (g5_now x) (g5_put x) (g5_was x) (g5_txt x) (g5_lef x) (g5_abo x) (g5_ors x)) H := hP
    refine lv_aload_n hx hb dX5_runsWith_19 rfl (lv_at hl 0 rfl) ?_
    refine va_get (D := (dC, dI)) (ci := 5) (v := .int (iI 1)) (C := RX5) (T := TX5) (N := 13) hx hb hts hin5 hown hK hP 0 rfl rfl 0 (by decide) (hts (.fieldLink RX5 1 "BoatRunsModel" "thrown" "I") (by decide +kernel)) (fun _ h9 => h9) rfl dX5_runsWith_20 ?_
    refine xk_if_le (tgt := 30) hx hb (by decide) dX5_runsWith_23 (by decide) (fun c3 => ?_) (fun c3 => ?_)
    · refine xk_iconst hx hb dX5_runsWith_26 ?_
      refine lv_goto (tgt := 35) hx hb dX5_runsWith_27 (by decide) ?_
      obtain rfl := Option.some.inj hf
      exact xe_wi hx hb hr hlocks hS hP dX5_runsWith_35
    · exact absurd c3 (by decide)
  · have hf := c2f c2
    refine xk_iconst hx hb dX5_runsWith_11 ?_
    refine lv_goto (tgt := 16) hx hb dX5_runsWith_12 (by decide) ?_
    refine va_put (D := (dC, dI)) (ci := 5) (v := .int (iI 0)) (ty := .int) (C := RX5) (T := TX5) (N := 13) hx hb hts hin5 tyX5 tyX5_ok nmX5 hown hK hP (x_addr hD rfl) hS 0 rfl rfl 0 (by decide) (hts (.fieldLink RX5 1 "BoatRunsModel" "thrown" "I") (by decide +kernel)) (fun _ h9 => h9) rfl (by decide +kernel) rfl rfl (Nat.le_of_ble_eq_true rfl) dX5_runsWith_16 (fun H locs hP _ hS => ?_)
    have hP : va_P (dC, dI) vwCl (w5C cs a 0 (g5_acts x) (g5_typ x) (g5_lat x) (g5_pos x) (g5_wra x) (g5_now x) (g5_put x) (g5_was x) (g5_txt x) (g5_lef x) (g5_abo x) (g5_ors x)) H := hP
    refine lv_aload_n hx hb dX5_runsWith_19 rfl (lv_at hl 0 rfl) ?_
    refine va_get (D := (dC, dI)) (ci := 5) (v := .int (iI 0)) (C := RX5) (T := TX5) (N := 13) hx hb hts hin5 hown hK hP 0 rfl rfl 0 (by decide) (hts (.fieldLink RX5 1 "BoatRunsModel" "thrown" "I") (by decide +kernel)) (fun _ h9 => h9) rfl dX5_runsWith_20 ?_
    refine xk_if_le (tgt := 30) hx hb (by decide) dX5_runsWith_23 (by decide) (fun c4 => ?_) (fun c4 => ?_)
    · exact absurd c4 (by decide)
    · refine lv_aload_n hx hb dX5_runsWith_30 rfl (lv_at hl 0 rfl) ?_
      refine lv_iload_n hx hb dX5_runsWith_31 rfl (lv_at hl 1 rfl) ?_
      obtain ⟨⟨v6, x5⟩, ex5, hf⟩ := x_bind hf
      refine xc_wi (As := [.int (iI p0)]) (rest := []) ⟨hx, hb, hml, hown, hts⟩ (c5_runsBy l dC dI cs a _ (s5_thr x 0) p0  _ ex5) (cwV 1 hts gX5_runsWith_X5_runsBy rfl rfl rfl cdX5_runsBy ⟨Nat.le_of_ble_eq_true rfl, Nat.le_of_ble_eq_true rfl⟩) hK hP (x_addr hD rfl) hS hA [0, 1, 2, 3, 4, 5, 6, 7] rfl (by decide) rfl 0 rfl rfl rfl hl.1 rfl (Nat.le_of_ble_eq_true rfl) dX5_runsWith_32 ⟨Nat.zero_le _, Nat.zero_le _⟩ (fun H locs hP hS => ?_)
      have hP : va_P (dC, dI) vwCl (w5 cs a x5) H := hP
      obtain rfl := Option.some.inj hf
      exact xe_wi hx hb hr hlocks hS hP dX5_runsWith_35
theorem cdX5_runsWith : yX5_runsWith.cls = RX5 ∧ yX5_runsWith.cls ≠ "java/lang/invoke/MethodHandle" ∧ yX5_runsWith.cls ≠ "java/lang/invoke/VarHandle" ∧ (parseMethodDescriptor yX5_runsWith.desc).map (fun d => d.parameters.length) = some 1 := by decide +kernel

set_option maxHeartbeats 4000000 in
set_option maxRecDepth 100000 in
theorem c5_leastRoom (l : Launch) (dC : Nat → ClassId) (dI : Nat → Nat → Nat) (cs : Nat → ClassId) (a : Nat → Nat) (sz : Nat) (x : ModS) (res : Int × ModS) (hf : f5_leastRoom x = some res) : Met l yX5_leastRoom wsX5_leastRoom ({ frames := 5, cells := 0, slots := 0, locals := 114 } : Room) (va_Pc [.ref (a 0)] (xPW (dC, dI) vwCl (w5 cs a x) (xT cs) sz)) (xQi (dC, dI) vwCl (w5 cs a x) (w5 cs a res.2) sz res.1) 0 0 (va_A (w5 cs a x) sz) := by
  refine Met.ofW (cc := cX5_leastRoom) (maxL := 2) (ret := (some .int)) (by decide) rfl ?_
  intro p e s m args below meth c s₁ B hml hv
  obtain ⟨rfl, hsz, hP, hK, hD0⟩ := hv
  have hx := B.exec
  have hb := B.bytes
  have hr := B.returns
  have hts := atoms_spec (ws := wsX5_leastRoom) B.pre
  have hown : s.vm.findClass RX5 = some m.cls := findClass_of_methodNamed B.named
  have hlocks := B.notSynchronized
  have hin5 : ∀ w ∈ wsX50, w ∈ wsX5_leastRoom := by decide +kernel
  subst hsz
  have hD := hD0.self (sz := s.heap.size)
  have hA : ∀ z9 : Nat, s.heap.size ≤ z9 → va_A (w5 cs a x) s.heap.size z9 := fun z9 h => Or.inr h
  have hS : va_S (va_A (w5 cs a x) s.heap.size) s.heap s.heap [] := va_S.rf
  have hl := lv_entry [.ref (a 0)] (n := 2) (Nat.le_of_ble_eq_true rfl)
  rw [lg_entry_eq]
  generalize (lg_sl [.ref (a 0)] ++ List.replicate (2 - (lg_sl [.ref (a 0)]).length) Slot.unset).toArray = ls at hl ⊢
  have hl : lv_has ls 2 [(0, .ref (a 0))] := hl
  unfold f5_leastRoom at hf
  refine lv_aload_n hx hb dX5_leastRoom_0 rfl (lv_at hl 0 rfl) ?_
  refine xk_iconst hx hb dX5_leastRoom_1 ?_
  refine va_put (D := (dC, dI)) (ci := 5) (v := .int (iI 0)) (ty := .int) (C := RX5) (T := TX5) (N := 13) hx hb hts hin5 tyX5 tyX5_ok nmX5 hown hK hP (x_addr hD rfl) hS 0 rfl rfl 0 (by decide) (hts (.fieldLink RX5 1 "BoatRunsModel" "thrown" "I") (by decide +kernel)) (fun _ h9 => h9) rfl (by decide +kernel) rfl rfl (Nat.le_of_ble_eq_true rfl) dX5_leastRoom_2 (fun H locs hP _ hS => ?_)
  have hP : va_P (dC, dI) vwCl (w5C cs a 0 (g5_acts x) (g5_typ x) (g5_lat x) (g5_pos x) (g5_wra x) (g5_now x) (g5_put x) (g5_was x) (g5_txt x) (g5_lef x) (g5_abo x) (g5_ors x)) H := hP
  refine xk_iconst hx hb dX5_leastRoom_5 ?_
  refine lv_istore_n (lv' := [(1, .int (iI 1)), (0, .ref (a 0))]) hx hb dX5_leastRoom_6 rfl hl (by decide) rfl (fun ls hl => ?_)
  have hL7 : ∀ (n2 : Nat) (l1 : Int) (x1 : ModS), f5_leastRoom_L7  n2 l1 x1 = some res → ∀ (H : Heap) (locs : List Loc), va_P (dC, dI) vwCl (w5 cs a x1) H → va_S (va_A (w5 cs a x) s.heap.size) s.heap H locs → ∀ (ls : Array Slot), lv_has ls 2 [(0, .ref (a 0)), (1, .int (iI l1))] → W p l e (headSpec wsX5_leastRoom ({ frames := 5, cells := 0, slots := 0, locals := 114 } : Room)).room s m ([.ref (a 0)] : List Value).toArray below meth c H locs 0 0 (MQ below (xQi (dC, dI) vwCl (w5 cs a x) (w5 cs a res.2) s.heap.size res.1) ([.ref (a 0)] : List Value).toArray s 0 0 (va_A (w5 cs a x) s.heap.size)) (F0 m 7 ls []) := by
    intro  n2
    induction n2 with
    | zero => intro l1 x1 hf; have hf : (none : Option (Int × ModS)) = some res := hf; cases hf
    | succ n2 ih7 =>
      intro l1 x1 hf H locs hP hS ls hl
      rw [f5_leastRoom_L7] at hf
      refine lv_aload_n hx hb dX5_leastRoom_7 rfl (lv_at hl 0 rfl) ?_
      refine lv_iload_n hx hb dX5_leastRoom_8 rfl (lv_at hl 1 rfl) ?_
      obtain ⟨⟨v4, x3⟩, ex3, hf⟩ := x_bind hf
      refine xc_wi (As := [.int (iI l1)]) (rest := []) ⟨hx, hb, hml, hown, hts⟩ (c5_runsBy l dC dI cs a _ x1 l1  _ ex3) (cwV 1 hts gX5_leastRoom_X5_runsBy rfl rfl rfl cdX5_runsBy ⟨Nat.le_of_ble_eq_true rfl, Nat.le_of_ble_eq_true rfl⟩) hK hP (x_addr hD rfl) hS hA [0, 1, 2, 3, 4, 5, 6, 7] rfl (by decide) rfl 0 rfl rfl rfl hl.1 rfl (Nat.le_of_ble_eq_true rfl) dX5_leastRoom_9 ⟨Nat.zero_le _, Nat.zero_le _⟩ (fun H locs hP hS => ?_)
      have hP : va_P (dC, dI) vwCl (w5 cs a x3) H := hP
      refine xk_iconst hx hb dX5_leastRoom_12 ?_
      obtain ⟨c6a, c6b, c6t, c6f⟩ := x_ltE hf
      refine xk_icmp_le (tgt := 22) hx hb c6b c6a dX5_leastRoom_13 (by decide) (fun c6 => ?_) (fun c6 => ?_)
      · have hf := c6t c6
        refine xk_iinc (lv' := [(1, .int (iI (l1 + 1))), (0, .ref (a 0))]) hx hb dX5_leastRoom_16 hl (k := 1) rfl (by decide) rfl (fun ls hl => ?_)
        refine lv_goto (tgt := 7) hx hb dX5_leastRoom_19 (by decide) ?_
        exact ih7 (l1 + 1) x3 hf _ _ hP hS ls (lv_sub hl [1, 0] rfl)
      · have hf := c6f c6
        refine lv_iload_n hx hb dX5_leastRoom_22 rfl (lv_at hl 1 rfl) ?_
        obtain rfl := Option.some.inj hf
        exact xe_wi hx hb hr hlocks hS hP dX5_leastRoom_23
  exact hL7  xFU 1 (s5_thr x 0) hf _ _ hP hS ls (lv_sub hl [1, 0] rfl)
theorem cdX5_leastRoom : yX5_leastRoom.cls = RX5 ∧ yX5_leastRoom.cls ≠ "java/lang/invoke/MethodHandle" ∧ yX5_leastRoom.cls ≠ "java/lang/invoke/VarHandle" ∧ (parseMethodDescriptor yX5_leastRoom.desc).map (fun d => d.parameters.length) = some 0 := by decide +kernel

set_option maxHeartbeats 4000000 in
set_option maxRecDepth 100000 in
theorem c5_inversions (l : Launch) (dC : Nat → ClassId) (dI : Nat → Nat → Nat) (cs : Nat → ClassId) (a : Nat → Nat) (sz : Nat) (x : ModS) (res : Int × ModS) (hf : f5_inversions x = some res) : Met l yX5_inversions wsX5_inversions ({ frames := 1, cells := 0, slots := 0, locals := 22 } : Room) (va_Pc [.ref (a 0)] (xPW (dC, dI) vwCl (w5 cs a x) (xT cs) sz)) (xQi (dC, dI) vwCl (w5 cs a x) (w5 cs a res.2) sz res.1) 0 0 (va_A (w5 cs a x) sz) := by
  refine Met.ofW (cc := cX5_inversions) (maxL := 4) (ret := (some .int)) (by decide) rfl ?_
  intro p e s m args below meth c s₁ B hml hv
  obtain ⟨rfl, hsz, hP, hK, hD0⟩ := hv
  have hx := B.exec
  have hb := B.bytes
  have hr := B.returns
  have hts := atoms_spec (ws := wsX5_inversions) B.pre
  have hown : s.vm.findClass RX5 = some m.cls := findClass_of_methodNamed B.named
  have hlocks := B.notSynchronized
  have hin5 : ∀ w ∈ wsX50, w ∈ wsX5_inversions := by decide +kernel
  subst hsz
  have hD := hD0.self (sz := s.heap.size)
  have hA : ∀ z9 : Nat, s.heap.size ≤ z9 → va_A (w5 cs a x) s.heap.size z9 := fun z9 h => Or.inr h
  have hS : va_S (va_A (w5 cs a x) s.heap.size) s.heap s.heap [] := va_S.rf
  have hl := lv_entry [.ref (a 0)] (n := 4) (Nat.le_of_ble_eq_true rfl)
  rw [lg_entry_eq]
  generalize (lg_sl [.ref (a 0)] ++ List.replicate (4 - (lg_sl [.ref (a 0)]).length) Slot.unset).toArray = ls at hl ⊢
  have hl : lv_has ls 4 [(0, .ref (a 0))] := hl
  unfold f5_inversions at hf
  refine lv_aload_n hx hb dX5_inversions_0 rfl (lv_at hl 0 rfl) ?_
  refine xk_iconst hx hb dX5_inversions_1 ?_
  refine va_put (D := (dC, dI)) (ci := 5) (v := .int (iI 0)) (ty := .int) (C := RX5) (T := TX5) (N := 13) hx hb hts hin5 tyX5 tyX5_ok nmX5 hown hK hP (x_addr hD rfl) hS 0 rfl rfl 0 (by decide) (hts (.fieldLink RX5 1 "BoatRunsModel" "thrown" "I") (by decide +kernel)) (fun _ h9 => h9) rfl (by decide +kernel) rfl rfl (Nat.le_of_ble_eq_true rfl) dX5_inversions_2 (fun H locs hP _ hS => ?_)
  have hP : va_P (dC, dI) vwCl (w5C cs a 0 (g5_acts x) (g5_typ x) (g5_lat x) (g5_pos x) (g5_wra x) (g5_now x) (g5_put x) (g5_was x) (g5_txt x) (g5_lef x) (g5_abo x) (g5_ors x)) H := hP
  refine xk_iconst hx hb dX5_inversions_5 ?_
  refine lv_istore_n (lv' := [(1, .int (iI 0)), (0, .ref (a 0))]) hx hb dX5_inversions_6 rfl hl (by decide) rfl (fun ls hl => ?_)
  refine xk_iconst hx hb dX5_inversions_7 ?_
  refine lv_istore_n (lv' := [(2, .int (iI 0)), (1, .int (iI 0)), (0, .ref (a 0))]) hx hb dX5_inversions_8 rfl hl (by decide) rfl (fun ls hl => ?_)
  have hL9 : ∀ (n1 : Nat) (l1 : Int) (l2 : Int), f5_inversions_L9 x n1 l1 l2 = some res → ∀ (ls : Array Slot), lv_has ls 4 [(0, .ref (a 0)), (1, .int (iI l1)), (2, .int (iI l2))] → W p l e (headSpec wsX5_inversions ({ frames := 1, cells := 0, slots := 0, locals := 22 } : Room)).room s m ([.ref (a 0)] : List Value).toArray below meth c H locs 0 0 (MQ below (xQi (dC, dI) vwCl (w5 cs a x) (w5 cs a res.2) s.heap.size res.1) ([.ref (a 0)] : List Value).toArray s 0 0 (va_A (w5 cs a x) s.heap.size)) (F0 m 9 ls []) := by
    intro  n1
    induction n1 with
    | zero => intro l1 l2 hf; have hf : (none : Option (Int × ModS)) = some res := hf; cases hf
    | succ n1 ih9 =>
      intro l1 l2 hf ls hl
      rw [f5_inversions_L9] at hf
      refine lv_iload_n hx hb dX5_inversions_9 rfl (lv_at hl 2 rfl) ?_
      refine lv_aload_n hx hb dX5_inversions_10 rfl (lv_at hl 0 rfl) ?_
      refine va_get (D := (dC, dI)) (ci := 5) (v := .ref (a 1)) (C := RX5) (T := TX5) (N := 13) hx hb hts hin5 hown hK hP 0 rfl rfl 1 (by decide) (hts (.fieldLink RX5 13 "BoatRunsModel" "now" "[I") (by decide +kernel)) (fun _ h9 => h9) rfl dX5_inversions_11 ?_
      refine xk_iconst hx hb dX5_inversions_14 ?_
      obtain ⟨v2, ev2, hf⟩ := x_bind hf
      refine xk_iald (f := g5_now x) hx hb hK hP 1 0 ev2 (by decide) rfl rfl dX5_inversions_15 ?_
      obtain ⟨c3a, c3b, c3t, c3f⟩ := x_ltE hf
      refine xk_icmp_ge (tgt := 68) hx hb c3a c3b dX5_inversions_16 (by decide) (fun c3 => ?_) (fun c3 => ?_)
      · have hf := c3t c3
        refine lv_iload_n hx hb dX5_inversions_19 rfl (lv_at hl 2 rfl) ?_
        refine xk_iconst hx hb dX5_inversions_20 ?_
        refine xk_iadd hx hb dX5_inversions_21 ?_
        refine lv_istore_n (lv' := [(3, .int (iI (l2 + 1))), (0, .ref (a 0)), (1, .int (iI l1)), (2, .int (iI l2))]) hx hb dX5_inversions_22 rfl hl (by decide) rfl (fun ls hl => ?_)
        have hL23 : ∀ (n4 : Nat) (l1x : Int) (l3 : Int), f5_inversions_L23 x l2 (f5_inversions_L9 x n1) n4 l1x l3 = some res → ∀ (ls : Array Slot), lv_has ls 4 [(0, .ref (a 0)), (1, .int (iI l1x)), (2, .int (iI l2)), (3, .int (iI l3))] → W p l e (headSpec wsX5_inversions ({ frames := 1, cells := 0, slots := 0, locals := 22 } : Room)).room s m ([.ref (a 0)] : List Value).toArray below meth c H locs 0 0 (MQ below (xQi (dC, dI) vwCl (w5 cs a x) (w5 cs a res.2) s.heap.size res.1) ([.ref (a 0)] : List Value).toArray s 0 0 (va_A (w5 cs a x) s.heap.size)) (F0 m 23 ls []) := by
          intro  n4
          induction n4 with
          | zero => intro l1x l3 hf; have hf : (none : Option (Int × ModS)) = some res := hf; cases hf
          | succ n4 ih23 =>
            intro l1x l3 hf ls hl
            rw [f5_inversions_L23] at hf
            refine lv_iload_n hx hb dX5_inversions_23 rfl (lv_at hl 3 rfl) ?_
            refine lv_aload_n hx hb dX5_inversions_24 rfl (lv_at hl 0 rfl) ?_
            refine va_get (D := (dC, dI)) (ci := 5) (v := .ref (a 1)) (C := RX5) (T := TX5) (N := 13) hx hb hts hin5 hown hK hP 0 rfl rfl 1 (by decide) (hts (.fieldLink RX5 13 "BoatRunsModel" "now" "[I") (by decide +kernel)) (fun _ h9 => h9) rfl dX5_inversions_25 ?_
            refine xk_iconst hx hb dX5_inversions_28 ?_
            obtain ⟨v5, ev5, hf⟩ := x_bind hf
            refine xk_iald (f := g5_now x) hx hb hK hP 1 0 ev5 (by decide) rfl rfl dX5_inversions_29 ?_
            obtain ⟨c6a, c6b, c6t, c6f⟩ := x_ltE hf
            refine xk_icmp_ge (tgt := 62) hx hb c6a c6b dX5_inversions_30 (by decide) (fun c6 => ?_) (fun c6 => ?_)
            · have hf := c6t c6
              refine lv_iload_n hx hb dX5_inversions_33 rfl (lv_at hl 1 rfl) ?_
              refine lv_aload_n hx hb dX5_inversions_34 rfl (lv_at hl 0 rfl) ?_
              refine lv_iload_n hx hb dX5_inversions_35 rfl (lv_at hl 2 rfl) ?_
              refine xk_iconst hx hb dX5_inversions_36 ?_
              obtain ⟨v7, ev7, hf⟩ := x_bind hf
              refine xc_ri (As := [.int (iI l2), .int (iI 0)]) (rest := [.int (iI l1x)]) ⟨hx, hb, hml, hown, hts⟩ (c5_of l dC dI cs a (s5_thr x 0) l2 0  _ ev7) (cwV 2 hts gX5_inversions_X5_of rfl rfl rfl cdX5_of ⟨Nat.le_of_ble_eq_true rfl, Nat.le_of_ble_eq_true rfl⟩) hK hP [0, 1, 2, 3, 4, 5, 6, 7] rfl 0 rfl rfl rfl hl.1 rfl (Nat.le_of_ble_eq_true rfl) dX5_inversions_37 ⟨Nat.zero_le _, Nat.zero_le _⟩ ?_
              refine lv_aload_n hx hb dX5_inversions_40 rfl (lv_at hl 0 rfl) ?_
              refine lv_iload_n hx hb dX5_inversions_41 rfl (lv_at hl 3 rfl) ?_
              refine xk_iconst hx hb dX5_inversions_42 ?_
              obtain ⟨v8, ev8, hf⟩ := x_bind hf
              refine xc_ri (As := [.int (iI l3), .int (iI 0)]) (rest := [.int (iI v7), .int (iI l1x)]) ⟨hx, hb, hml, hown, hts⟩ (c5_of l dC dI cs a (s5_thr x 0) l3 0  _ ev8) (cwV 2 hts gX5_inversions_X5_of rfl rfl rfl cdX5_of ⟨Nat.le_of_ble_eq_true rfl, Nat.le_of_ble_eq_true rfl⟩) hK hP [0, 1, 2, 3, 4, 5, 6, 7] rfl 0 rfl rfl rfl hl.1 rfl (Nat.le_of_ble_eq_true rfl) dX5_inversions_43 ⟨Nat.zero_le _, Nat.zero_le _⟩ ?_
              obtain ⟨c9a, c9b, c9t, c9f⟩ := x_ltE hf
              refine xk_icmp_le (tgt := 53) hx hb c9b c9a dX5_inversions_46 (by decide) (fun c9 => ?_) (fun c9 => ?_)
              · have hf := c9t c9
                refine xk_iconst hx hb dX5_inversions_49 ?_
                refine lv_goto (tgt := 54) hx hb dX5_inversions_50 (by decide) ?_
                refine xk_iadd hx hb dX5_inversions_54 ?_
                refine lv_istore_n (lv' := [(1, .int (iI (l1x + 1))), (0, .ref (a 0)), (2, .int (iI l2)), (3, .int (iI l3))]) hx hb dX5_inversions_55 rfl hl (by decide) rfl (fun ls hl => ?_)
                refine xk_iinc (lv' := [(3, .int (iI (l3 + 1))), (1, .int (iI (l1x + 1))), (0, .ref (a 0)), (2, .int (iI l2))]) hx hb dX5_inversions_56 hl (k := 3) rfl (by decide) rfl (fun ls hl => ?_)
                refine lv_goto (tgt := 23) hx hb dX5_inversions_59 (by decide) ?_
                exact ih23 (l1x + 1) (l3 + 1) hf ls (lv_sub hl [2, 1, 3, 0] rfl)
              · have hf := c9f c9
                refine xk_iconst hx hb dX5_inversions_53 ?_
                refine xk_iadd hx hb dX5_inversions_54 ?_
                refine lv_istore_n (lv' := [(1, .int (iI (l1x + 0))), (0, .ref (a 0)), (2, .int (iI l2)), (3, .int (iI l3))]) hx hb dX5_inversions_55 rfl hl (by decide) rfl (fun ls hl => ?_)
                refine xk_iinc (lv' := [(3, .int (iI (l3 + 1))), (1, .int (iI (l1x + 0))), (0, .ref (a 0)), (2, .int (iI l2))]) hx hb dX5_inversions_56 hl (k := 3) rfl (by decide) rfl (fun ls hl => ?_)
                refine lv_goto (tgt := 23) hx hb dX5_inversions_59 (by decide) ?_
                exact ih23 (l1x + 0) (l3 + 1) hf ls (lv_sub hl [2, 1, 3, 0] rfl)
            · have hf := c6f c6
              refine xk_iinc (lv' := [(2, .int (iI (l2 + 1))), (0, .ref (a 0)), (1, .int (iI l1x)), (3, .int (iI l3))]) hx hb dX5_inversions_62 hl (k := 2) rfl (by decide) rfl (fun ls hl => ?_)
              refine lv_goto (tgt := 9) hx hb dX5_inversions_65 (by decide) ?_
              exact ih9 l1x (l2 + 1) hf ls (lv_sub hl [1, 2, 0] rfl)
        exact hL23  xFU l1 (l2 + 1) hf ls (lv_sub hl [1, 2, 3, 0] rfl)
      · have hf := c3f c3
        refine lv_iload_n hx hb dX5_inversions_68 rfl (lv_at hl 1 rfl) ?_
        obtain rfl := Option.some.inj hf
        exact xe_wi hx hb hr hlocks hS hP dX5_inversions_69
  exact hL9  xFU 0 0 hf ls (lv_sub hl [2, 1, 0] rfl)
theorem cdX5_inversions : yX5_inversions.cls = RX5 ∧ yX5_inversions.cls ≠ "java/lang/invoke/MethodHandle" ∧ yX5_inversions.cls ≠ "java/lang/invoke/VarHandle" ∧ (parseMethodDescriptor yX5_inversions.desc).map (fun d => d.parameters.length) = some 0 := by decide +kernel

set_option maxHeartbeats 4000000 in
set_option maxRecDepth 100000 in
theorem c5_append (l : Launch) (dC : Nat → ClassId) (dI : Nat → Nat → Nat) (cs : Nat → ClassId) (a : Nat → Nat) (sz : Nat) (x : ModS) (p0 : Int) (res : Int × ModS) (hf : f5_append x p0 = some res) : Met l yX5_append wsX5_append ({ frames := 1, cells := 0, slots := 0, locals := 22 } : Room) (va_Pc [.ref (a 0), .int (iI p0)] (xPW (dC, dI) vwCl (w5 cs a x) (xT cs) sz)) (xQi (dC, dI) vwCl (w5 cs a x) (w5 cs a res.2) sz res.1) 0 0 (va_A (w5 cs a x) sz) := by
  refine Met.ofW (cc := cX5_append) (maxL := 2) (ret := (some .int)) (by decide) rfl ?_
  intro p e s m args below meth c s₁ B hml hv
  obtain ⟨rfl, hsz, hP, hK, hD0⟩ := hv
  have hx := B.exec
  have hb := B.bytes
  have hr := B.returns
  have hts := atoms_spec (ws := wsX5_append) B.pre
  have hown : s.vm.findClass RX5 = some m.cls := findClass_of_methodNamed B.named
  have hlocks := B.notSynchronized
  have hin5 : ∀ w ∈ wsX50, w ∈ wsX5_append := by decide +kernel
  subst hsz
  have hD := hD0.self (sz := s.heap.size)
  have hA : ∀ z9 : Nat, s.heap.size ≤ z9 → va_A (w5 cs a x) s.heap.size z9 := fun z9 h => Or.inr h
  have hS : va_S (va_A (w5 cs a x) s.heap.size) s.heap s.heap [] := va_S.rf
  have hl := lv_entry [.ref (a 0), .int (iI p0)] (n := 2) (Nat.le_of_ble_eq_true rfl)
  rw [lg_entry_eq]
  generalize (lg_sl [.ref (a 0), .int (iI p0)] ++ List.replicate (2 - (lg_sl [.ref (a 0), .int (iI p0)]).length) Slot.unset).toArray = ls at hl ⊢
  have hl : lv_has ls 2 [(0, .ref (a 0)), (1, .int (iI p0))] := hl
  unfold f5_append at hf
  refine lv_aload_n hx hb dX5_append_0 rfl (lv_at hl 0 rfl) ?_
  refine lv_iload_n hx hb dX5_append_1 rfl (lv_at hl 1 rfl) ?_
  refine xk_iconst hx hb dX5_append_2 ?_
  refine xk_bipush hx hb dX5_append_3 (by decide) ?_
  obtain ⟨v1, ev1, hf⟩ := x_bind hf
  refine xc_si (As := [.int (iI p0), .int (iI 0), .int (iI 127)]) (rest := [.ref (a 0)]) ⟨hx, hb, hml, hown, hts⟩ (c5_in l p0 0 127 _ ev1) (va_cwS 3 hts gX5_append_X5_in rfl rfl rfl cdX5_in ⟨Nat.le_of_ble_eq_true rfl, Nat.le_of_ble_eq_true rfl⟩) rfl hl.1 rfl (Nat.le_of_ble_eq_true rfl) dX5_append_5 ⟨Nat.zero_le _, Nat.zero_le _⟩ ?_
  obtain ⟨c2a, c2b, c2t, c2f⟩ := x_eqE hf
  refine xk_if_ne (tgt := 15) hx hb c2a dX5_append_8 (by decide) (fun c2 => ?_) (fun c2 => ?_)
  · have hf := c2t c2
    refine xk_iconst hx hb dX5_append_11 ?_
    refine lv_goto (tgt := 29) hx hb dX5_append_12 (by decide) ?_
    refine va_put (D := (dC, dI)) (ci := 5) (v := .int (iI 1)) (ty := .int) (C := RX5) (T := TX5) (N := 13) hx hb hts hin5 tyX5 tyX5_ok nmX5 hown hK hP (x_addr hD rfl) hS 0 rfl rfl 0 (by decide) (hts (.fieldLink RX5 1 "BoatRunsModel" "thrown" "I") (by decide +kernel)) (fun _ h9 => h9) rfl (by decide +kernel) rfl rfl (Nat.le_of_ble_eq_true rfl) dX5_append_29 (fun H locs hP _ hS => ?_)
    have hP : va_P (dC, dI) vwCl (w5C cs a 1 (g5_acts x) (g5_typ x) (g5_lat x) (g5_pos x) (g5_wra x) (g5_now x) (g5_put x) (g5_was x) (g5_txt x) (g5_lef x) (g5_abo x) (g5_ors x)) H := hP
    refine lv_aload_n hx hb dX5_append_32 rfl (lv_at hl 0 rfl) ?_
    refine va_get (D := (dC, dI)) (ci := 5) (v := .int (iI 1)) (C := RX5) (T := TX5) (N := 13) hx hb hts hin5 hown hK hP 0 rfl rfl 0 (by decide) (hts (.fieldLink RX5 1 "BoatRunsModel" "thrown" "I") (by decide +kernel)) (fun _ h9 => h9) rfl dX5_append_33 ?_
    refine xk_if_le (tgt := 41) hx hb (by decide) dX5_append_36 (by decide) (fun c3 => ?_) (fun c3 => ?_)
    · refine xk_iconst hx hb dX5_append_39 ?_
      obtain rfl := Option.some.inj hf
      exact xe_wi hx hb hr hlocks hS hP dX5_append_40
    · exact absurd c3 (by decide)
  · have hf := c2f c2
    refine lv_aload_n hx hb dX5_append_15 rfl (lv_at hl 0 rfl) ?_
    refine va_get (D := (dC, dI)) (ci := 5) (v := .int (iI (g5_typ x))) (C := RX5) (T := TX5) (N := 13) hx hb hts hin5 hown hK hP 0 rfl rfl 6 (by decide) (hts (.fieldLink RX5 180 "BoatRunsModel" "typed" "I") (by decide +kernel)) (fun _ h9 => h9) rfl dX5_append_16 ?_
    refine xk_bipush hx hb dX5_append_19 (by decide) ?_
    obtain ⟨c4a, c4b, c4t, c4f⟩ := x_eqE hf
    refine xk_icmp_ne (tgt := 28) hx hb c4a c4b dX5_append_21 (by decide) (fun c4 => ?_) (fun c4 => ?_)
    · have hf := c4t c4
      refine xk_iconst hx hb dX5_append_24 ?_
      refine lv_goto (tgt := 29) hx hb dX5_append_25 (by decide) ?_
      refine va_put (D := (dC, dI)) (ci := 5) (v := .int (iI 2)) (ty := .int) (C := RX5) (T := TX5) (N := 13) hx hb hts hin5 tyX5 tyX5_ok nmX5 hown hK hP (x_addr hD rfl) hS 0 rfl rfl 0 (by decide) (hts (.fieldLink RX5 1 "BoatRunsModel" "thrown" "I") (by decide +kernel)) (fun _ h9 => h9) rfl (by decide +kernel) rfl rfl (Nat.le_of_ble_eq_true rfl) dX5_append_29 (fun H locs hP _ hS => ?_)
      have hP : va_P (dC, dI) vwCl (w5C cs a 2 (g5_acts x) (g5_typ x) (g5_lat x) (g5_pos x) (g5_wra x) (g5_now x) (g5_put x) (g5_was x) (g5_txt x) (g5_lef x) (g5_abo x) (g5_ors x)) H := hP
      refine lv_aload_n hx hb dX5_append_32 rfl (lv_at hl 0 rfl) ?_
      refine va_get (D := (dC, dI)) (ci := 5) (v := .int (iI 2)) (C := RX5) (T := TX5) (N := 13) hx hb hts hin5 hown hK hP 0 rfl rfl 0 (by decide) (hts (.fieldLink RX5 1 "BoatRunsModel" "thrown" "I") (by decide +kernel)) (fun _ h9 => h9) rfl dX5_append_33 ?_
      refine xk_if_le (tgt := 41) hx hb (by decide) dX5_append_36 (by decide) (fun c5 => ?_) (fun c5 => ?_)
      · refine xk_iconst hx hb dX5_append_39 ?_
        obtain rfl := Option.some.inj hf
        exact xe_wi hx hb hr hlocks hS hP dX5_append_40
      · exact absurd c5 (by decide)
    · have hf := c4f c4
      refine xk_iconst hx hb dX5_append_28 ?_
      refine va_put (D := (dC, dI)) (ci := 5) (v := .int (iI 0)) (ty := .int) (C := RX5) (T := TX5) (N := 13) hx hb hts hin5 tyX5 tyX5_ok nmX5 hown hK hP (x_addr hD rfl) hS 0 rfl rfl 0 (by decide) (hts (.fieldLink RX5 1 "BoatRunsModel" "thrown" "I") (by decide +kernel)) (fun _ h9 => h9) rfl (by decide +kernel) rfl rfl (Nat.le_of_ble_eq_true rfl) dX5_append_29 (fun H locs hP _ hS => ?_)
      have hP : va_P (dC, dI) vwCl (w5C cs a 0 (g5_acts x) (g5_typ x) (g5_lat x) (g5_pos x) (g5_wra x) (g5_now x) (g5_put x) (g5_was x) (g5_txt x) (g5_lef x) (g5_abo x) (g5_ors x)) H := hP
      refine lv_aload_n hx hb dX5_append_32 rfl (lv_at hl 0 rfl) ?_
      refine va_get (D := (dC, dI)) (ci := 5) (v := .int (iI 0)) (C := RX5) (T := TX5) (N := 13) hx hb hts hin5 hown hK hP 0 rfl rfl 0 (by decide) (hts (.fieldLink RX5 1 "BoatRunsModel" "thrown" "I") (by decide +kernel)) (fun _ h9 => h9) rfl dX5_append_33 ?_
      refine xk_if_le (tgt := 41) hx hb (by decide) dX5_append_36 (by decide) (fun c6 => ?_) (fun c6 => ?_)
      · exact absurd c6 (by decide)
      · refine lv_aload_n hx hb dX5_append_41 rfl (lv_at hl 0 rfl) ?_
        refine va_get (D := (dC, dI)) (ci := 5) (v := .ref (a 4)) (C := RX5) (T := TX5) (N := 13) hx hb hts hin5 hown hK hP 0 rfl rfl 5 (by decide) (hts (.fieldLink RX5 23 "BoatRunsModel" "text" "[I") (by decide +kernel)) (fun _ h9 => h9) rfl dX5_append_42 ?_
        refine lv_aload_n hx hb dX5_append_45 rfl (lv_at hl 0 rfl) ?_
        refine va_get (D := (dC, dI)) (ci := 5) (v := .int (iI (g5_typ x))) (C := RX5) (T := TX5) (N := 13) hx hb hts hin5 hown hK hP 0 rfl rfl 6 (by decide) (hts (.fieldLink RX5 180 "BoatRunsModel" "typed" "I") (by decide +kernel)) (fun _ h9 => h9) rfl dX5_append_46 ?_
        refine lv_iload_n hx hb dX5_append_49 rfl (lv_at hl 1 rfl) ?_
        obtain ⟨g7, eg7, hf⟩ := x_bind hf
        refine xk_iast (f := g5_txt x) hx hb hK hP (x_addr hD rfl) hS 4 0 eg7 (by decide) rfl rfl dX5_append_50 (fun H locs hP hS => ?_)
        have hP : va_P (dC, dI) vwCl (w5C cs a 0 (g5_acts x) (g5_typ x) (g5_lat x) (g5_pos x) (g5_wra x) (g5_now x) (g5_put x) (g5_was x) g7 (g5_lef x) (g5_abo x) (g5_ors x)) H := hP
        refine lv_aload_n hx hb dX5_append_51 rfl (lv_at hl 0 rfl) ?_
        refine lv_dup hx hb dX5_append_52 rfl ?_
        refine va_get (D := (dC, dI)) (ci := 5) (v := .int (iI (g5_typ x))) (C := RX5) (T := TX5) (N := 13) hx hb hts hin5 hown hK hP 0 rfl rfl 6 (by decide) (hts (.fieldLink RX5 180 "BoatRunsModel" "typed" "I") (by decide +kernel)) (fun _ h9 => h9) rfl dX5_append_53 ?_
        refine xk_iconst hx hb dX5_append_56 ?_
        refine xk_iadd hx hb dX5_append_57 ?_
        refine va_put (D := (dC, dI)) (ci := 5) (v := .int (iI (g5_typ x + 1))) (ty := .int) (C := RX5) (T := TX5) (N := 13) hx hb hts hin5 tyX5 tyX5_ok nmX5 hown hK hP (x_addr hD rfl) hS 0 rfl rfl 6 (by decide) (hts (.fieldLink RX5 180 "BoatRunsModel" "typed" "I") (by decide +kernel)) (fun _ h9 => h9) rfl (by decide +kernel) rfl rfl (Nat.le_of_ble_eq_true rfl) dX5_append_58 (fun H locs hP _ hS => ?_)
        have hP : va_P (dC, dI) vwCl (w5C cs a 0 (g5_acts x) (g5_typ x + 1) (g5_lat x) (g5_pos x) (g5_wra x) (g5_now x) (g5_put x) (g5_was x) g7 (g5_lef x) (g5_abo x) (g5_ors x)) H := hP
        refine lv_aload_n hx hb dX5_append_61 rfl (lv_at hl 0 rfl) ?_
        refine va_get (D := (dC, dI)) (ci := 5) (v := .int (iI (g5_typ x + 1))) (C := RX5) (T := TX5) (N := 13) hx hb hts hin5 hown hK hP 0 rfl rfl 6 (by decide) (hts (.fieldLink RX5 180 "BoatRunsModel" "typed" "I") (by decide +kernel)) (fun _ h9 => h9) rfl dX5_append_62 ?_
        obtain rfl := Option.some.inj hf
        exact xe_wi hx hb hr hlocks hS hP dX5_append_65
theorem cdX5_append : yX5_append.cls = RX5 ∧ yX5_append.cls ≠ "java/lang/invoke/MethodHandle" ∧ yX5_append.cls ≠ "java/lang/invoke/VarHandle" ∧ (parseMethodDescriptor yX5_append.desc).map (fun d => d.parameters.length) = some 1 := by decide +kernel

set_option maxHeartbeats 4000000 in
set_option maxRecDepth 100000 in
theorem c5_clearText (l : Launch) (dC : Nat → ClassId) (dI : Nat → Nat → Nat) (cs : Nat → ClassId) (a : Nat → Nat) (sz : Nat) (x : ModS) (res : Int × ModS) (hf : f5_clearText x = some res) : Met l yX5_clearText wsX5_clearText ({ frames := 0, cells := 0, slots := 0, locals := 0 } : Room) (va_Pc [.ref (a 0)] (xPW (dC, dI) vwCl (w5 cs a x) (xT cs) sz)) (xQi (dC, dI) vwCl (w5 cs a x) (w5 cs a res.2) sz res.1) 0 0 (va_A (w5 cs a x) sz) := by
  refine Met.ofW (cc := cX5_clearText) (maxL := 2) (ret := (some .int)) (by decide) rfl ?_
  intro p e s m args below meth c s₁ B hml hv
  obtain ⟨rfl, hsz, hP, hK, hD0⟩ := hv
  have hx := B.exec
  have hb := B.bytes
  have hr := B.returns
  have hts := atoms_spec (ws := wsX5_clearText) B.pre
  have hown : s.vm.findClass RX5 = some m.cls := findClass_of_methodNamed B.named
  have hlocks := B.notSynchronized
  have hin5 : ∀ w ∈ wsX50, w ∈ wsX5_clearText := by decide +kernel
  subst hsz
  have hD := hD0.self (sz := s.heap.size)
  have hA : ∀ z9 : Nat, s.heap.size ≤ z9 → va_A (w5 cs a x) s.heap.size z9 := fun z9 h => Or.inr h
  have hS : va_S (va_A (w5 cs a x) s.heap.size) s.heap s.heap [] := va_S.rf
  have hl := lv_entry [.ref (a 0)] (n := 2) (Nat.le_of_ble_eq_true rfl)
  rw [lg_entry_eq]
  generalize (lg_sl [.ref (a 0)] ++ List.replicate (2 - (lg_sl [.ref (a 0)]).length) Slot.unset).toArray = ls at hl ⊢
  have hl : lv_has ls 2 [(0, .ref (a 0))] := hl
  unfold f5_clearText at hf
  refine lv_aload_n hx hb dX5_clearText_0 rfl (lv_at hl 0 rfl) ?_
  refine xk_iconst hx hb dX5_clearText_1 ?_
  refine va_put (D := (dC, dI)) (ci := 5) (v := .int (iI 0)) (ty := .int) (C := RX5) (T := TX5) (N := 13) hx hb hts hin5 tyX5 tyX5_ok nmX5 hown hK hP (x_addr hD rfl) hS 0 rfl rfl 0 (by decide) (hts (.fieldLink RX5 1 "BoatRunsModel" "thrown" "I") (by decide +kernel)) (fun _ h9 => h9) rfl (by decide +kernel) rfl rfl (Nat.le_of_ble_eq_true rfl) dX5_clearText_2 (fun H locs hP _ hS => ?_)
  have hP : va_P (dC, dI) vwCl (w5C cs a 0 (g5_acts x) (g5_typ x) (g5_lat x) (g5_pos x) (g5_wra x) (g5_now x) (g5_put x) (g5_was x) (g5_txt x) (g5_lef x) (g5_abo x) (g5_ors x)) H := hP
  refine lv_aload_n hx hb dX5_clearText_5 rfl (lv_at hl 0 rfl) ?_
  refine va_get (D := (dC, dI)) (ci := 5) (v := .int (iI (g5_typ x))) (C := RX5) (T := TX5) (N := 13) hx hb hts hin5 hown hK hP 0 rfl rfl 6 (by decide) (hts (.fieldLink RX5 180 "BoatRunsModel" "typed" "I") (by decide +kernel)) (fun _ h9 => h9) rfl dX5_clearText_6 ?_
  refine lv_istore_n (lv' := [(1, .int (iI (g5_typ x))), (0, .ref (a 0))]) hx hb dX5_clearText_9 rfl hl (by decide) rfl (fun ls hl => ?_)
  refine lv_aload_n hx hb dX5_clearText_10 rfl (lv_at hl 1 rfl) ?_
  refine xk_iconst hx hb dX5_clearText_11 ?_
  refine va_put (D := (dC, dI)) (ci := 5) (v := .int (iI 0)) (ty := .int) (C := RX5) (T := TX5) (N := 13) hx hb hts hin5 tyX5 tyX5_ok nmX5 hown hK hP (x_addr hD rfl) hS 0 rfl rfl 6 (by decide) (hts (.fieldLink RX5 180 "BoatRunsModel" "typed" "I") (by decide +kernel)) (fun _ h9 => h9) rfl (by decide +kernel) rfl rfl (Nat.le_of_ble_eq_true rfl) dX5_clearText_12 (fun H locs hP _ hS => ?_)
  have hP : va_P (dC, dI) vwCl (w5C cs a 0 (g5_acts x) 0 (g5_lat x) (g5_pos x) (g5_wra x) (g5_now x) (g5_put x) (g5_was x) (g5_txt x) (g5_lef x) (g5_abo x) (g5_ors x)) H := hP
  refine lv_iload_n hx hb dX5_clearText_15 rfl (lv_at hl 0 rfl) ?_
  obtain rfl := Option.some.inj hf
  exact xe_wi hx hb hr hlocks hS hP dX5_clearText_16
theorem cdX5_clearText : yX5_clearText.cls = RX5 ∧ yX5_clearText.cls ≠ "java/lang/invoke/MethodHandle" ∧ yX5_clearText.cls ≠ "java/lang/invoke/VarHandle" ∧ (parseMethodDescriptor yX5_clearText.desc).map (fun d => d.parameters.length) = some 0 := by decide +kernel

set_option maxHeartbeats 4000000 in
set_option maxRecDepth 100000 in
theorem c5_look (l : Launch) (dC : Nat → ClassId) (dI : Nat → Nat → Nat) (cs : Nat → ClassId) (a : Nat → Nat) (x : ModS) (res : Int) (hf : f5_look x = some res) : Met l yX5_look wsX5_look ({ frames := 0, cells := 0, slots := 0, locals := 0 } : Room) (va_Pc [.ref (a 0)] (xPR (dC, dI) vwCl (w5 cs a x) (xT cs))) (vp_Si (fun r => r = iI res)) 0 0 (fun _ => False) := by
  refine Met.ofW (cc := cX5_look) (maxL := 1) (ret := (some .int)) (by decide) rfl ?_
  intro p e s m args below meth c s₁ B hml hv
  obtain ⟨rfl, hP, hK⟩ := hv
  have hx := B.exec
  have hb := B.bytes
  have hr := B.returns
  have hts := atoms_spec (ws := wsX5_look) B.pre
  have hown : s.vm.findClass RX5 = some m.cls := findClass_of_methodNamed B.named
  have hlocks := B.notSynchronized
  have hin5 : ∀ w ∈ wsX50, w ∈ wsX5_look := by decide +kernel
  have hl := lv_entry [.ref (a 0)] (n := 1) (Nat.le_of_ble_eq_true rfl)
  rw [lg_entry_eq]
  generalize (lg_sl [.ref (a 0)] ++ List.replicate (1 - (lg_sl [.ref (a 0)]).length) Slot.unset).toArray = ls at hl ⊢
  have hl : lv_has ls 1 [(0, .ref (a 0))] := hl
  unfold f5_look at hf
  refine lv_aload_n hx hb dX5_look_0 rfl (lv_at hl 0 rfl) ?_
  refine va_get (D := (dC, dI)) (ci := 5) (v := .int (iI (g5_pos x))) (C := RX5) (T := TX5) (N := 13) hx hb hts hin5 hown hK hP 0 rfl rfl 10 (by decide) (hts (.fieldLink RX5 183 "BoatRunsModel" "at" "I") (by decide +kernel)) (fun _ h9 => h9) rfl dX5_look_1 ?_
  refine lv_aload_n hx hb dX5_look_4 rfl (lv_at hl 0 rfl) ?_
  refine va_get (D := (dC, dI)) (ci := 5) (v := .int (iI (g5_typ x))) (C := RX5) (T := TX5) (N := 13) hx hb hts hin5 hown hK hP 0 rfl rfl 6 (by decide) (hts (.fieldLink RX5 180 "BoatRunsModel" "typed" "I") (by decide +kernel)) (fun _ h9 => h9) rfl dX5_look_5 ?_
  obtain ⟨c1a, c1b, c1t, c1f⟩ := x_ltE hf
  refine xk_icmp_ge (tgt := 23) hx hb c1a c1b dX5_look_8 (by decide) (fun c1 => ?_) (fun c1 => ?_)
  · have hf := c1t c1
    refine lv_aload_n hx hb dX5_look_11 rfl (lv_at hl 0 rfl) ?_
    refine va_get (D := (dC, dI)) (ci := 5) (v := .ref (a 4)) (C := RX5) (T := TX5) (N := 13) hx hb hts hin5 hown hK hP 0 rfl rfl 5 (by decide) (hts (.fieldLink RX5 23 "BoatRunsModel" "text" "[I") (by decide +kernel)) (fun _ h9 => h9) rfl dX5_look_12 ?_
    refine lv_aload_n hx hb dX5_look_15 rfl (lv_at hl 0 rfl) ?_
    refine va_get (D := (dC, dI)) (ci := 5) (v := .int (iI (g5_pos x))) (C := RX5) (T := TX5) (N := 13) hx hb hts hin5 hown hK hP 0 rfl rfl 10 (by decide) (hts (.fieldLink RX5 183 "BoatRunsModel" "at" "I") (by decide +kernel)) (fun _ h9 => h9) rfl dX5_look_16 ?_
    obtain ⟨v2, ev2, hf⟩ := x_bind hf
    refine xk_iald (f := g5_txt x) hx hb hK hP 4 0 ev2 (by decide) rfl rfl dX5_look_19 ?_
    refine lv_goto (tgt := 24) hx hb dX5_look_20 (by decide) ?_
    obtain rfl := Option.some.inj hf
    exact xe_ri hx hb hr hlocks dX5_look_24 rfl
  · have hf := c1f c1
    refine xk_iconst hx hb dX5_look_23 ?_
    obtain rfl := Option.some.inj hf
    exact xe_ri hx hb hr hlocks dX5_look_24 rfl
theorem cdX5_look : yX5_look.cls = RX5 ∧ yX5_look.cls ≠ "java/lang/invoke/MethodHandle" ∧ yX5_look.cls ≠ "java/lang/invoke/VarHandle" ∧ (parseMethodDescriptor yX5_look.desc).map (fun d => d.parameters.length) = some 0 := by decide +kernel

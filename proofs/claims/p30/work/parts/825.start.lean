set_option maxRecDepth 100000 in
set_option maxHeartbeats 4000000 in
/-- YOUR PART: from the entry to the end of the script, with true -/
theorem whole_start {p : Program} {e : Env} {s : State} {m : MethodId} {below : List Frame} {meth : Method} {c : Code} (l : Launch) (hflags : l.flags = flags0) {b L : Nat} {xs : Nat → Int32} (hL : L ≤ 260) (C0 : lw_At p s m meth c b L xs) : W p l e room_1 s m #[Value.ref b] below meth c s.heap [] 0 0 (lw_Z below #[Value.ref b] s) (entryFrame m ([Value.ref b] : List Value).toArray 11) := by
  obtain ⟨hx, hb, hr, hml, hown, hts0, hX, hbl, hlocks, hgv⟩ := id C0
  have hown : s.vm.findClass RL = some m.cls := hown
  have hlS : l.stackTraces = false := by
    unfold Launch.stackTraces
    rw [hflags]
    decide
  have hts : ∀ w ∈ wsL_law, w.before #[Value.ref b] s = true := fun w hw => hts0 w (wsL_law_in w hw)
  have hT := wl_th hts0 hgv
  have hN := wl_nc hgv
  obtain ⟨dC, dI, cs, hK⟩ := wl_K hts0
  have hAO : va_AO "BoatRuns$Boat" s := va_AO.of (hts0 _ (lwR (i := 95) (by decide +kernel)))
  have hA : ∀ q : Nat, s.heap.size ≤ q → (fun z9 : Nat => s.heap.size ≤ z9) q := fun _ h => h
  have hS : va_S (fun z9 : Nat => s.heap.size ≤ z9) s.heap s.heap [] := va_S.rf
  have hP : va_P (dC, dI) vwCl [] s.heap := fun k q h => by simp at h
  have hD : va_D (fun z9 : Nat => s.heap.size ≤ z9) [] := ⟨fun i j p q h => by simp at h, fun k q h => by simp at h⟩
  have hl := lv_entry ([.ref b]) (n := 11) (Nat.le_of_ble_eq_true rfl)
  rw [lg_entry_eq]
  generalize (lg_sl ([.ref b]) ++ List.replicate (11 - (lg_sl ([.ref b])).length) Slot.unset).toArray = ls at hl ⊢
  have hl : lv_has ls 11 [(0, .ref b)] := hl
  refine va_new (ci := 4) (fs := [.null, .null, .null, .null]) (C := RX4) (T := TX4) (N := 4) hx hb hts0 inX4 tyX4 tyX4_ok hown (hts0 _ (lwR (i := 14) (by decide +kernel))) (hts0 _ (lwR (i := 15) (by decide +kernel))) (hts0 _ (lwR (i := 1) (by decide +kernel))) hK hP hD hS hA rfl (fun j hj => by rcases (show j = 0 ∨ j = 1 ∨ j = 2 ∨ j = 3 by omega) with rfl | rfl | rfl | rfl <;> rfl) (Nat.le_of_ble_eq_true rfl) (Nat.le_of_ble_eq_true rfl) dL_law_0 (fun q1 H hP hD hS => ?_)
  have hP : va_P (dC, dI) vwCl [(q1, .inr (4, [.null, .null, .null, .null]))] H := hP
  have hD : va_D (fun z9 : Nat => s.heap.size ≤ z9) [(q1, .inr (4, [.null, .null, .null, .null]))] := hD
  refine W.widen (k := 1) (n := 4) (by omega) (by omega) ?_
  refine lv_dup hx hb dL_law_3 rfl ?_
  have hPc := hP.sub (ws' := [(q1, .inr (4, [.null, .null, .null, .null]))]) [0] rfl
  have hDc := hD.sub (ws' := [(q1, .inr (4, [.null, .null, .null, .null]))]) [0] (by decide) rfl
  have hFc := va_free (wc := [(q1, .inr (4, [.null, .null, .null, .null]))]) hD hS hA [0] rfl
  refine va_callv (va_runI (As := []) (rest := [.ref q1]) ⟨hx, hb, hml, hown, hts⟩ (c4_init l dC dI cs q1 H.size) (cwI 0 hts gL_law_X4_init rfl rfl rfl (hts0 _ (lwR (i := 1) (by decide +kernel))) (hts0 _ (lwR (i := 16) (by decide +kernel))) (hts0 _ (lwR (i := 17) (by decide +kernel))) rfl (by decide +kernel) ⟨Nat.le_of_ble_eq_true rfl, Nat.le_of_ble_eq_true rfl⟩) ⟨xPN_blind, fun U hU hW => ⟨rfl, ⟨by rw [hU], by rw [hU]; exact hPc, va_K.moved hW.alike hK, hDc.weaken (fun _ _ _ _ => trivial)⟩, xAO_warm hW hAO⟩⟩ rfl rfl hl.1 rfl (lv_room (Nat.le_of_ble_eq_true rfl)) dL_law_4 ⟨Nat.le_of_ble_eq_true rfl, Nat.le_of_ble_eq_true rfl⟩) hS (fun z9 _ h => hFc z9 h) hFc (fun u2 t H locs ht hvm hw hB hz1 hk1 hS => ?_)
  obtain ⟨hu0, hP1, hD1⟩ := hB
  subst hu0
  rw [ht] at hP1
  obtain ⟨hP, hD⟩ := va_join (wr := []) (w1 := (w4 cs u2 i4).flatten) hP hD [0] [] rfl rfl (by decide) (by decide) hk1 hFc hP1 hD1
  have hP : va_P (dC, dI) vwCl ((w4 cs u2 i4).flatten) H := hP
  have hD : va_D (fun z9 : Nat => s.heap.size ≤ z9) ((w4 cs u2 i4).flatten) := hD
  refine W.widen (k := 102) (n := 5483) (by omega) (by omega) ?_
  refine lv_astore_n (lv' := [(1, .ref (u2 0)), (0, .ref b)]) hx hb dL_law_7 rfl hl (by decide) rfl (fun ls hl => ?_)
  refine xk_bipush hx hb dL_law_8 (by decide) ?_
  refine va_newa (atype := .int) (ty := .int) (N' := 64) (a0 := (64, .inl (xA (fun _ => 0)))) hx hb (hts0 _ (lwR (i := 44) (by decide +kernel))) rfl hK hP hD hS hA (fun cA => x_zero cA 64) (by decide) (by decide) (Nat.le_of_ble_eq_true rfl) (Nat.le_of_ble_eq_true rfl) (Nat.le_of_ble_eq_true rfl) dL_law_10 (fun q2 cA H hK1 hP hD hS => ?_)
  obtain rfl := x_kind 0 hK1 (cB := cs 0) rfl (fun C h => by cases h)
  have hP : va_P (dC, dI) vwCl ((w4 cs u2 i4).flatten ++ [qcC cs q2 64 (fun _ => 0)]) H := hP
  have hD : va_D (fun z9 : Nat => s.heap.size ≤ z9) ((w4 cs u2 i4).flatten ++ [qcC cs q2 64 (fun _ => 0)]) := hD
  refine W.widen (k := 103) (n := 5547) (by omega) (by omega) ?_
  refine lv_astore_n (lv' := [(2, .ref q2), (1, .ref (u2 0)), (0, .ref b)]) hx hb dL_law_12 rfl hl (by decide) rfl (fun ls hl => ?_)
  refine xk_bipush hx hb dL_law_13 (by decide) ?_
  refine va_newa (atype := .int) (ty := .int) (N' := 8) (a0 := (8, .inl (xA (fun _ => 0)))) hx hb (hts0 _ (lwR (i := 44) (by decide +kernel))) rfl hK hP hD hS hA (fun cA => x_zero cA 8) (by decide) (by decide) (Nat.le_of_ble_eq_true rfl) (Nat.le_of_ble_eq_true rfl) (Nat.le_of_ble_eq_true rfl) dL_law_15 (fun q3 cA H hK1 hP hD hS => ?_)
  obtain rfl := x_kind 0 hK1 (cB := cs 0) rfl (fun C h => by cases h)
  have hP : va_P (dC, dI) vwCl ((w4 cs u2 i4).flatten ++ [qcC cs q2 64 (fun _ => 0)] ++ [qcC cs q3 8 (fun _ => 0)]) H := hP
  have hD : va_D (fun z9 : Nat => s.heap.size ≤ z9) ((w4 cs u2 i4).flatten ++ [qcC cs q2 64 (fun _ => 0)] ++ [qcC cs q3 8 (fun _ => 0)]) := hD
  refine W.widen (k := 104) (n := 5555) (by omega) (by omega) ?_
  refine lv_astore_n (lv' := [(3, .ref q3), (2, .ref q2), (1, .ref (u2 0)), (0, .ref b)]) hx hb dL_law_17 rfl hl (by decide) rfl (fun ls hl => ?_)
  refine xk_bipush hx hb dL_law_18 (by decide) ?_
  refine va_newa (atype := .int) (ty := .int) (N' := 64) (a0 := (64, .inl (xA (fun _ => 0)))) hx hb (hts0 _ (lwR (i := 44) (by decide +kernel))) rfl hK hP hD hS hA (fun cA => x_zero cA 64) (by decide) (by decide) (Nat.le_of_ble_eq_true rfl) (Nat.le_of_ble_eq_true rfl) (Nat.le_of_ble_eq_true rfl) dL_law_20 (fun q4 cA H hK1 hP hD hS => ?_)
  obtain rfl := x_kind 0 hK1 (cB := cs 0) rfl (fun C h => by cases h)
  have hP : va_P (dC, dI) vwCl ((w4 cs u2 i4).flatten ++ [qcC cs q2 64 (fun _ => 0)] ++ [qcC cs q3 8 (fun _ => 0)] ++ [qcC cs q4 64 (fun _ => 0)]) H := hP
  have hD : va_D (fun z9 : Nat => s.heap.size ≤ z9) ((w4 cs u2 i4).flatten ++ [qcC cs q2 64 (fun _ => 0)] ++ [qcC cs q3 8 (fun _ => 0)] ++ [qcC cs q4 64 (fun _ => 0)]) := hD
  refine W.widen (k := 105) (n := 5619) (by omega) (by omega) ?_
  refine lv_astore (lv' := [(4, .ref q4), (3, .ref q3), (2, .ref q2), (1, .ref (u2 0)), (0, .ref b)]) hx hb dL_law_22 hl (by decide) rfl (fun ls hl => ?_)
  refine xk_iconst hx hb dL_law_24 ?_
  refine va_newa (atype := .int) (ty := .int) (N' := 1) (a0 := (1, .inl (xA (fun _ => 0)))) hx hb (hts0 _ (lwR (i := 44) (by decide +kernel))) rfl hK hP hD hS hA (fun cA => x_zero cA 1) (by decide) (by decide) (Nat.le_of_ble_eq_true rfl) (Nat.le_of_ble_eq_true rfl) (Nat.le_of_ble_eq_true rfl) dL_law_25 (fun q5 cA H hK1 hP hD hS => ?_)
  obtain rfl := x_kind 0 hK1 (cB := cs 0) rfl (fun C h => by cases h)
  have hP : va_P (dC, dI) vwCl ((w4 cs u2 i4).flatten ++ [qcC cs q2 64 (fun _ => 0)] ++ [qcC cs q3 8 (fun _ => 0)] ++ [qcC cs q4 64 (fun _ => 0)] ++ [qcC cs q5 1 (fun _ => 0)]) H := hP
  have hD : va_D (fun z9 : Nat => s.heap.size ≤ z9) ((w4 cs u2 i4).flatten ++ [qcC cs q2 64 (fun _ => 0)] ++ [qcC cs q3 8 (fun _ => 0)] ++ [qcC cs q4 64 (fun _ => 0)] ++ [qcC cs q5 1 (fun _ => 0)]) := hD
  refine W.widen (k := 106) (n := 5620) (by omega) (by omega) ?_
  refine lv_astore (lv' := [(5, .ref q5), (4, .ref q4), (3, .ref q3), (2, .ref q2), (1, .ref (u2 0)), (0, .ref b)]) hx hb dL_law_27 hl (by decide) rfl (fun ls hl => ?_)
  have hP := hP.sub (ws' := ([[qcC cs q2 64 (fun _ => 0)], [qcC cs q3 8 (fun _ => 0)], [qcC cs q4 64 (fun _ => 0)], [qcC cs q5 1 (fun _ => 0)]] ++ w4 cs u2 i4).flatten) [102, 103, 104, 105, 0, 1, 2, 3, 4, 5, 6, 7, 8, 9, 10, 11, 12, 13, 14, 15, 16, 17, 18, 19, 20, 21, 22, 23, 24, 25, 26, 27, 28, 29, 30, 31, 32, 33, 34, 35, 36, 37, 38, 39, 40, 41, 42, 43, 44, 45, 46, 47, 48, 49, 50, 51, 52, 53, 54, 55, 56, 57, 58, 59, 60, 61, 62, 63, 64, 65, 66, 67, 68, 69, 70, 71, 72, 73, 74, 75, 76, 77, 78, 79, 80, 81, 82, 83, 84, 85, 86, 87, 88, 89, 90, 91, 92, 93, 94, 95, 96, 97, 98, 99, 100, 101] rfl
  have hD := hD.sub (ws' := ([[qcC cs q2 64 (fun _ => 0)], [qcC cs q3 8 (fun _ => 0)], [qcC cs q4 64 (fun _ => 0)], [qcC cs q5 1 (fun _ => 0)]] ++ w4 cs u2 i4).flatten) [102, 103, 104, 105, 0, 1, 2, 3, 4, 5, 6, 7, 8, 9, 10, 11, 12, 13, 14, 15, 16, 17, 18, 19, 20, 21, 22, 23, 24, 25, 26, 27, 28, 29, 30, 31, 32, 33, 34, 35, 36, 37, 38, 39, 40, 41, 42, 43, 44, 45, 46, 47, 48, 49, 50, 51, 52, 53, 54, 55, 56, 57, 58, 59, 60, 61, 62, 63, 64, 65, 66, 67, 68, 69, 70, 71, 72, 73, 74, 75, 76, 77, 78, 79, 80, 81, 82, 83, 84, 85, 86, 87, 88, 89, 90, 91, 92, 93, 94, 95, 96, 97, 98, 99, 100, 101] (by decide +kernel) rfl
  obtain ⟨va, vh, vf, vo, y, e1, y1, n1⟩ := l_a (xi := x_sc xs) (L := (L : Int)) ⟨by omega, by omega⟩
  obtain ⟨vo1, y2, e2, y3⟩ := l_b (xi := x_sc xs) (L := (L : Int)) (vo := vo) y1 n1
  have e3 := l_law (xi := x_sc xs) (L := (L : Int)) ⟨by omega, by omega⟩ 39 41 1 0 y2 va vh vf vo1 (by decide) (by decide) (by decide) y3 (by decide) (by decide)
  refine kG_a l hlS dC dI cs q2 q3 q4 q5 u2 hL hx hb hml hown hts hX hbl hT hN hK (fun _ => 0) (fun _ => 0) (fun _ => 0) (fun _ => 0) i4 _ e1 ⟨by omega, by omega⟩ hP hD hS (lv_sub hl [5, 4, 3, 2, 1, 0] rfl) (fun H locs ls hP hS hl => ?_)
  have hD : va_D (fun z9 : Nat => s.heap.size ≤ z9) (([[qcC cs q2 64 va], [qcC cs q3 8 vh], [qcC cs q4 64 vf], [qcC cs q5 1 vo]] ++ w4 cs u2 y).flatten) := x_addrF hD rfl
  refine kG_b l hlS dC dI cs q2 q3 q4 q5 u2 hL hx hb hml hown hts hX hbl hT hN hK va vh vf vo y _ e2 ⟨by omega, by omega⟩ hP hD hS hl (fun H locs ls hP hS hl => ?_)
  have hD : va_D (fun z9 : Nat => s.heap.size ≤ z9) (([[qcC cs q2 64 va], [qcC cs q3 8 vh], [qcC cs q4 64 vf], [qcC cs q5 1 vo1]] ++ w4 cs u2 y2).flatten) := x_addrF hD rfl
  refine kLoop l hlS dC dI cs q2 q3 q4 q5 u2 hL hx hb hml hown hts hX hbl hT hN hK 41 1 va vh vf vo1 y2 e3 ⟨by omega, by omega⟩ hP hD hS hl (fun H locs ls hS => ?_)
  refine lv_iconst (v := 1) hx hb dL_law_375 (by decide) ?_
  exact va_forget hS.2.2 (lw_ret hx hb hr hlocks dL_law_376)

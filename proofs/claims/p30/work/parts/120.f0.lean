def f0_startAgain (b : BoatS) (p0 : Int) : Option (BoatS) :=
  (f2_clear 120 (g0_keys b)).bind fun r1 =>
  (f2_clear 120 (g0_weis b)).bind fun r2 =>
  (f2_clear 120 (g0_homs b)).bind fun r3 =>
  (f2_clear 120 (g0_ords b)).bind fun r4 =>
  (f2_clear 120 (g0_flts b)).bind fun r5 =>
  (f2_clear 120 (g0_strs b)).bind fun r6 =>
  (f2_clear 120 (g0_rwts b)).bind fun r7 =>
  some (s0_brk (s0_stm (s0_mrg (s0_cst (s0_flo (s0_opn (s0_rwts (s0_strs (s0_flts (s0_ords (s0_homs (s0_weis (s0_keys (s0_room b p0) r1) r2) r3) r4) r5) r6) r7) (-1)) 0) 0) 0) 0) 0)
def f0_copy (b : BoatS) (o : BoatS) : Option (BoatS) :=
  (f2_copy 120 (g0_keys b) 120 (g0_keys o)).bind fun r1 =>
  (f2_copy 120 (g0_weis b) 120 (g0_weis o)).bind fun r2 =>
  (f2_copy 120 (g0_homs b) 120 (g0_homs o)).bind fun r3 =>
  (f2_copy 120 (g0_ords b) 120 (g0_ords o)).bind fun r4 =>
  (f2_copy 120 (g0_flts b) 120 (g0_flts o)).bind fun r5 =>
  (f2_copy 120 (g0_strs b) 120 (g0_strs o)).bind fun r6 =>
  (f2_copy 120 (g0_rwts b) 120 (g0_rwts o)).bind fun r7 =>
  some (s0_brk (s0_stm (s0_mrg (s0_cst (s0_flo (s0_opn (s0_rwts (s0_strs (s0_flts (s0_ords (s0_homs (s0_weis (s0_keys (s0_room b (g0_room o)) r1) r2) r3) r4) r5) r6) r7) (g0_opn o)) (g0_flo o)) (g0_cst o)) (g0_mrg o)) (g0_stm o)) (g0_brk o))
def f0_loaded (b : BoatS) : Option (Int) :=
  (f2_size 120 (g0_keys b)).bind fun v1 =>
  some v1
def f0_allLoaded (b : BoatS) : Option (Int) :=
  (f2_size 120 (g0_keys b)).bind fun v1 =>
  x_lt v1 120 (
    some 0) (
    some 1)
def f0_runs (b : BoatS) : Option (Int) :=
  (f2_size 120 (g0_flts b)).bind fun v1 =>
  some v1
def f0_runNumber (b : BoatS) (p0 : Int) : Option (Int) :=
  (f2_get 120 (g0_flts b) p0).bind fun v1 =>
  some v1
def f0_hasRun (b : BoatS) (p0 : Int) : Option (Int) :=
  (f2_indexOf 120 (g0_flts b) p0).bind fun v1 =>
  x_eq v1 (-1) (
    some 0) (
    some 1)
def f0_isLess (b : BoatS) (p0 : Int) (p1 : Int) : Option (Int) :=
  (f2_get 120 (g0_keys b) p0).bind fun v1 =>
  (f2_get 120 (g0_keys b) p1).bind fun v2 =>
  x_lt v1 v2 (
    some 1) (
    x_eq v1 v2 (
      x_lt p0 p1 (
        some 1) (
        some 0)) (
      some 0))
def f0_countAt_L4 (b : BoatS) (p0 : Int) : Nat → Int → Int → Option (Int)
  | 0, _, _ => none
  | n1 + 1, l2, l3 =>
      (f2_size 120 (g0_homs b)).bind fun v2 =>
      x_lt l3 v2 (
        (f2_get 120 (g0_homs b) l3).bind fun v4 =>
        x_eq v4 p0 (
          f0_countAt_L4 b p0 n1 (l2 + 1) (l3 + 1)) (
          f0_countAt_L4 b p0 n1 l2 (l3 + 1))) (
        some l2)
def f0_countAt (b : BoatS) (p0 : Int) : Option (Int) :=
  f0_countAt_L4 b p0 xFU 0 0
def f0_parcelAt_L5 (b : BoatS) (p0 : Int) : Nat → Int → Int → Option (Int)
  | 0, _, _ => none
  | n1 + 1, l3, l4 =>
      (f2_size 120 (g0_ords b)).bind fun v2 =>
      x_lt l4 v2 (
        (f2_get 120 (g0_ords b) l4).bind fun v4 =>
        (f2_get 120 (g0_homs b) v4).bind fun v5 =>
        x_eq v5 p0 (
          x_eq l3 0 (
            some v4) (
            f0_parcelAt_L5 b p0 n1 (l3 + (-1)) (l4 + 1))) (
          f0_parcelAt_L5 b p0 n1 l3 (l4 + 1))) (
        some (-1))
def f0_parcelAt (b : BoatS) (p0 : Int) (p1 : Int) : Option (Int) :=
  f0_parcelAt_L5 b p0 xFU p1 0
def f0_lastAt_L10 (b : BoatS) (p0 : Int) : Nat → Int → Option (Int)
  | 0, _ => none
  | n2 + 1, l2 =>
      x_lt l2 0 (
        some (-1)) (
        (f2_get 120 (g0_ords b) l2).bind fun v4 =>
        (f2_get 120 (g0_homs b) v4).bind fun v5 =>
        x_eq v5 p0 (
          some v4) (
          f0_lastAt_L10 b p0 n2 (l2 + (-1))))
def f0_lastAt (b : BoatS) (p0 : Int) : Option (Int) :=
  (f2_size 120 (g0_ords b)).bind fun v1 =>
  f0_lastAt_L10 b p0 xFU (v1 - 1)
def f0_placeOf_L14 (b : BoatS) (p0 : Int) (v1 : Int) : Nat → Int → Int → Option (Int)
  | 0, _, _ => none
  | n2 + 1, l3, l4 =>
      (f2_size 120 (g0_ords b)).bind fun v3 =>
      x_lt l4 v3 (
        (f2_get 120 (g0_ords b) l4).bind fun v5 =>
        x_eq v5 p0 (
          some l3) (
          (f2_get 120 (g0_homs b) v5).bind fun v7 =>
          x_eq v7 v1 (
            f0_placeOf_L14 b p0 v1 n2 (l3 + 1) (l4 + 1)) (
            f0_placeOf_L14 b p0 v1 n2 l3 (l4 + 1)))) (
        some (-1))
def f0_placeOf (b : BoatS) (p0 : Int) : Option (Int) :=
  (f2_get 120 (g0_homs b) p0).bind fun v1 =>
  f0_placeOf_L14 b p0 v1 xFU 0 0
def f0_nextOverboard_L25 (b : BoatS) (k1 : Int) : Nat → Int → Int → Option (Int)
  | 0, _, _ => none
  | n126 + 1, l2, l3 =>
      (f2_size 120 (g0_ords b)).bind fun v127 =>
      x_lt l3 v127 (
        (f2_get 120 (g0_ords b) l3).bind fun v129 =>
        (f2_get 120 (g0_homs b) v129).bind fun v130 =>
        x_eq v130 (-1) (
          x_eq k1 (-1) (
            some v129) (
            (f0_isLess b k1 v129).bind fun v133 =>
            x_eq v133 0 (
              x_eq l2 (-1) (
                f0_nextOverboard_L25 b k1 n126 v129 (l3 + 1)) (
                f0_nextOverboard_L25 b k1 n126 l2 (l3 + 1))) (
              some v129))) (
          f0_nextOverboard_L25 b k1 n126 l2 (l3 + 1))) (
        some l2)
def f0_nextOverboard (b : BoatS) : Option (Int) :=
  x_eq (g0_opn b) (-1) (
    f0_nextOverboard_L25 b (-1) xFU (-1) 0) (
    (f0_lastAt b (g0_opn b)).bind fun v2 =>
    f0_nextOverboard_L25 b v2 xFU (-1) 0)
def f0_newFloat (b : BoatS) : Option (Int × BoatS) :=
  (f2_add 120 (g0_flts b) (g0_flo b)).bind fun r1 =>
  (f2_add 120 (g0_strs b) 5).bind fun r2 =>
  (f2_add 120 (g0_rwts b) 0).bind fun r3 =>
  some (g0_flo b, s0_rwts (s0_strs (s0_flts (s0_flo b (g0_flo b + 1)) r1) r2) r3)
def f0_tie (b : BoatS) (p0 : Int) (p1 : Int) : Option (BoatS) :=
  (f2_get 120 (g0_flts b) p1).bind fun v1 =>
  (f2_set 120 (g0_homs b) p0 v1).bind fun r2 =>
  (f2_get 120 (g0_weis b) p0).bind fun v3 =>
  (f2_increase 120 (g0_rwts b) p1 v3).bind fun r4 =>
  some (s0_rwts (s0_homs b r2) r4)
def f0_throwOne (b : BoatS) : Option (Int × BoatS) :=
  (f0_nextOverboard b).bind fun v1 =>
  x_eq v1 (-1) (
    some ((-1), b)) (
    x_eq (g0_opn b) (-1) (
      (f0_newFloat b).bind fun (v5, b4) =>
      (f2_indexOf 120 (g0_flts b4) v5).bind fun v7 =>
      (f0_tie (s0_opn b4 v5) v1 v7).bind fun b8 =>
      some (g0_opn b8, b8)) (
      (f0_lastAt b (g0_opn b)).bind fun v9 =>
      (f0_isLess b v1 v9).bind fun v10 =>
      x_eq v10 0 (
        (f2_indexOf 120 (g0_flts b) (g0_opn b)).bind fun v12 =>
        (f0_tie b v1 v12).bind fun b13 =>
        some (g0_opn b13, b13)) (
        (f0_newFloat b).bind fun (v15, b14) =>
        (f2_indexOf 120 (g0_flts b14) v15).bind fun v17 =>
        (f0_tie (s0_opn b14 v15) v1 v17).bind fun b18 =>
        some (g0_opn b18, b18))))
def f0_notGreater_L4 (b : BoatS) (p0 : Int) : Nat → Int → Int → Option (Int)
  | 0, _, _ => none
  | n1 + 1, l2, l3 =>
      (f2_size 120 (g0_keys b)).bind fun v2 =>
      x_lt l3 v2 (
        (f2_get 120 (g0_keys b) l3).bind fun v4 =>
        x_lt p0 v4 (
          f0_notGreater_L4 b p0 n1 l2 (l3 + 1)) (
          f0_notGreater_L4 b p0 n1 (l2 + 1) (l3 + 1))) (
        some l2)
def f0_notGreater (b : BoatS) (p0 : Int) : Option (Int) :=
  f0_notGreater_L4 b p0 xFU 0 0
def f0_take (b : BoatS) (p0 : Int) (p1 : Int) : Option (Int × BoatS) :=
  (f0_countAt b (-1)).bind fun v1 =>
  x_lt v1 (g0_room b) (
    (f0_notGreater b p0).bind fun v3 =>
    (f2_size 120 (g0_keys b)).bind fun v4 =>
    (f2_insert 120 (g0_ords b) v3 v4).bind fun r5 =>
    (f2_add 120 (g0_keys b) p0).bind fun r6 =>
    (f2_add 120 (g0_weis b) p1).bind fun r7 =>
    (f2_add 120 (g0_homs b) (-1)).bind fun r8 =>
    some ((-1), s0_homs (s0_weis (s0_keys (s0_ords b r5) r6) r7) r8)) (
    (f0_throwOne b).bind fun (v10, b9) =>
    (f0_notGreater b9 p0).bind fun v12 =>
    (f2_size 120 (g0_keys b9)).bind fun v13 =>
    (f2_insert 120 (g0_ords b9) v12 v13).bind fun r14 =>
    (f2_add 120 (g0_keys b9) p0).bind fun r15 =>
    (f2_add 120 (g0_weis b9) p1).bind fun r16 =>
    (f2_add 120 (g0_homs b9) (-1)).bind fun r17 =>
    some (v10, s0_homs (s0_weis (s0_keys (s0_ords b9 r14) r15) r16) r17))
def f0_throwAll_L6  : Nat → Int → BoatS → Option (Int × BoatS)
  | 0, _, _ => none
  | n3 + 1, l1, b2 =>
      x_lt 0 l1 (
        (f0_throwOne b2).bind fun (v6, b5) =>
        f0_throwAll_L6  n3 (l1 + (-1)) b5) (
        (f2_size 120 (g0_flts b2)).bind fun v8 =>
        some (v8, s0_opn b2 (-1)))
def f0_throwAll (b : BoatS) : Option (Int × BoatS) :=
  (f0_countAt b (-1)).bind fun v1 =>
  f0_throwAll_L6  xFU v1 b
def f0_move_L2 (p0 : Int) (p1 : Int) : Nat → Int → BoatS → Option (BoatS)
  | 0, _, _ => none
  | n2 + 1, l3, b1 =>
      (f2_size 120 (g0_homs b1)).bind fun v3 =>
      x_lt l3 v3 (
        (f2_get 120 (g0_homs b1) l3).bind fun v5 =>
        x_eq v5 p0 (
          (f2_set 120 (g0_homs b1) l3 p1).bind fun r7 =>
          f0_move_L2 p0 p1 n2 (l3 + 1) (s0_homs b1 r7)) (
          f0_move_L2 p0 p1 n2 (l3 + 1) b1)) (
        some b1)
def f0_move (b : BoatS) (p0 : Int) (p1 : Int) : Option (BoatS) :=
  f0_move_L2 p0 p1 xFU 0 b
def f0_removeFloat (b : BoatS) (p0 : Int) : Option (BoatS) :=
  (f2_remove 120 (g0_flts b) p0).bind fun r1 =>
  (f2_remove 120 (g0_strs b) p0).bind fun r2 =>
  (f2_remove 120 (g0_rwts b) p0).bind fun r3 =>
  some (s0_rwts (s0_strs (s0_flts b r1) r2) r3)
def f0_join (b : BoatS) (p0 : Int) (p1 : Int) : Option (Int × BoatS) :=
  (x_min p0 p1).bind fun v1 =>
  (x_max p0 p1).bind fun v2 =>
  (f0_move b v2 v1).bind fun b3 =>
  (f2_indexOf 120 (g0_flts b3) v1).bind fun v4 =>
  (f2_indexOf 120 (g0_flts b3) v2).bind fun v5 =>
  (f2_get 120 (g0_rwts b3) v5).bind fun v6 =>
  (f2_increase 120 (g0_rwts b3) v4 v6).bind fun r7 =>
  (f0_removeFloat (s0_rwts b3 r7) v5).bind fun b8 =>
  x_eq (g0_opn b8) p0 (
    (f2_get 120 (g0_rwts b8) v4).bind fun v10 =>
    some (v10, s0_mrg (s0_cst (s0_opn b8 (-1)) (g0_cst b8 + v10)) (g0_mrg b8 + 1))) (
    x_eq (g0_opn b8) p1 (
      (f2_get 120 (g0_rwts b8) v4).bind fun v12 =>
      some (v12, s0_mrg (s0_cst (s0_opn b8 (-1)) (g0_cst b8 + v12)) (g0_mrg b8 + 1))) (
      (f2_get 120 (g0_rwts b8) v4).bind fun v13 =>
      some (v13, s0_mrg (s0_cst b8 (g0_cst b8 + v13)) (g0_mrg b8 + 1))))
def f0_lightestBut_L4 (b : BoatS) (p0 : Int) : Nat → Int → Int → Option (Int)
  | 0, _, _ => none
  | n1 + 1, l2, l3 =>
      (f2_size 120 (g0_flts b)).bind fun v2 =>
      x_lt l3 v2 (
        x_eq l3 p0 (
          f0_lightestBut_L4 b p0 n1 l2 (l3 + 1)) (
          x_eq l2 (-1) (
            f0_lightestBut_L4 b p0 n1 l3 (l3 + 1)) (
            (f2_get 120 (g0_rwts b) l3).bind fun v6 =>
            (f2_get 120 (g0_rwts b) l2).bind fun v7 =>
            x_lt v6 v7 (
              f0_lightestBut_L4 b p0 n1 l3 (l3 + 1)) (
              f0_lightestBut_L4 b p0 n1 l2 (l3 + 1))))) (
        some l2)
def f0_lightestBut (b : BoatS) (p0 : Int) : Option (Int) :=
  f0_lightestBut_L4 b p0 xFU (-1) 0
def f0_joinLightest (b : BoatS) : Option (Int × BoatS) :=
  (f0_lightestBut b (-1)).bind fun v1 =>
  (f0_lightestBut b v1).bind fun v2 =>
  (f2_get 120 (g0_flts b) v1).bind fun v3 =>
  (f2_get 120 (g0_flts b) v2).bind fun v4 =>
  (f0_join b v3 v4).bind fun (v6, b5) =>
  (x_min v3 v4).bind fun v8 =>
  some (v8, b5)
def f0_breakRun_L38 (p0 : Int) (v1 : Int) (v7 : Int) : Nat → Int → Int → BoatS → Option (BoatS)
  | 0, _, _, _ => none
  | n9 + 1, l3, l5, b8 =>
      (f2_size 120 (g0_ords b8)).bind fun v10 =>
      x_lt l5 v10 (
        (f2_get 120 (g0_ords b8) l5).bind fun v12 =>
        (f2_get 120 (g0_homs b8) v12).bind fun v13 =>
        x_eq v13 v1 (
          x_lt 0 l3 (
            f0_breakRun_L38 p0 v1 v7 n9 (l3 + (-1)) (l5 + 1) b8) (
            (f2_get 120 (g0_weis b8) v12).bind fun v16 =>
            (f2_increase 120 (g0_rwts b8) p0 (-v16)).bind fun r17 =>
            (f0_tie (s0_rwts b8 r17) v12 (v7 - 1)).bind fun b18 =>
            f0_breakRun_L38 p0 v1 v7 n9 l3 (l5 + 1) b18)) (
          f0_breakRun_L38 p0 v1 v7 n9 l3 (l5 + 1) b8)) (
        some b8)
def f0_breakRun (b : BoatS) (p0 : Int) : Option (BoatS) :=
  (f2_get 120 (g0_flts b) p0).bind fun v1 =>
  (f0_countAt b v1).bind fun v2 =>
  (x_div (v2 + 1) 2).bind fun v3 =>
  (f0_newFloat b).bind fun (v5, b4) =>
  (f2_size 120 (g0_flts b4)).bind fun v7 =>
  f0_breakRun_L38 p0 v1 v7 xFU v3 0 b4
def f0_breakRuns_L13 (p0 : Int) (v1 : Int) : Nat → Int → Int → BoatS → Option (Int × BoatS)
  | 0, _, _, _ => none
  | n3 + 1, l3, l4, b2 =>
      x_lt l4 v1 (
        (f2_get 120 (g0_strs b2) l4).bind fun v5 =>
        x_lt v5 p0 (
          (f2_get 120 (g0_flts b2) l4).bind fun v7 =>
          (f0_countAt b2 v7).bind fun v8 =>
          x_lt v8 2 (
            (f2_get 120 (g0_strs b2) l4).bind fun v10 =>
            (x_max (v10 - 1) 0).bind fun v11 =>
            (f2_set 120 (g0_strs b2) l4 v11).bind fun r12 =>
            f0_breakRuns_L13 p0 v1 n3 l3 (l4 + 1) (s0_strs b2 r12)) (
            (f0_breakRun b2 l4).bind fun b13 =>
            (f2_get 120 (g0_strs b13) l4).bind fun v14 =>
            (x_max (v14 - 1) 0).bind fun v15 =>
            (f2_set 120 (g0_strs b13) l4 v15).bind fun r16 =>
            f0_breakRuns_L13 p0 v1 n3 (l3 + 1) (l4 + 1) (s0_strs b13 r16))) (
          (f2_get 120 (g0_strs b2) l4).bind fun v17 =>
          (x_max (v17 - 1) 0).bind fun v18 =>
          (f2_set 120 (g0_strs b2) l4 v18).bind fun r19 =>
          f0_breakRuns_L13 p0 v1 n3 l3 (l4 + 1) (s0_strs b2 r19))) (
        some (l3, s0_brk (s0_stm (s0_opn b2 (-1)) (g0_stm b2 + 1)) (g0_brk b2 + l3)))
def f0_breakRuns (b : BoatS) (p0 : Int) : Option (Int × BoatS) :=
  (f2_size 120 (g0_flts b)).bind fun v1 =>
  f0_breakRuns_L13 p0 v1 xFU 0 0 b
def f0_strengthen (b : BoatS) (p0 : Int) : Option (Int × BoatS) :=
  (f2_indexOf 120 (g0_flts b) p0).bind fun v1 =>
  (f2_get 120 (g0_strs b) v1).bind fun v2 =>
  (x_min (v2 + 1) 9).bind fun v3 =>
  (f2_set 120 (g0_strs b) v1 v3).bind fun r4 =>
  (f2_get 120 r4 v1).bind fun v5 =>
  some (v5, s0_strs b r4)
def f0_canBringAshore (b : BoatS) (p0 : Int) : Option (Int) :=
  (f0_lastAt b (-2)).bind fun v1 =>
  x_eq v1 (-1) (
    some 1) (
    (f0_parcelAt b p0 0).bind fun v3 =>
    (f0_isLess b v1 v3).bind fun v4 =>
    x_eq v4 0 (
      some 0) (
      some 1))
def f0_bringAshore (b : BoatS) (p0 : Int) : Option (Int × BoatS) :=
  (f0_move b p0 (-2)).bind fun b1 =>
  (f2_indexOf 120 (g0_flts b1) p0).bind fun v2 =>
  (f0_removeFloat b1 v2).bind fun b3 =>
  x_eq (g0_opn b3) p0 (
    (f0_countAt (s0_opn b3 (-1)) (-2)).bind fun v5 =>
    some (v5, s0_opn b3 (-1))) (
    (f0_countAt b3 (-2)).bind fun v6 =>
    some (v6, b3))
def f0_parcelFact (b : BoatS) (p0 : Int) (p1 : Int) : Option (Int) :=
  (f2_get 120 (g0_homs b) p0).bind fun v1 =>
  x_eq p1 0 (
    (f2_get 120 (g0_keys b) p0).bind fun v3 =>
    some v3) (
  x_eq p1 1 (
    (f2_get 120 (g0_weis b) p0).bind fun v5 =>
    some v5) (
  x_eq p1 2 (
    x_eq v1 (-1) (
      some 0) (
      x_eq v1 (-2) (
        some 2) (
        some 1))) (
  x_eq p1 3 (
    x_eq v1 (-1) (
      some (-1)) (
      x_eq v1 (-2) (
        some (-1)) (
        some v1))) (
    x_eq v1 (-1) (
      some (-1)) (
      (f0_placeOf b p0).bind fun v13 =>
      some v13)))))
def f0_runFact (b : BoatS) (p0 : Int) (p1 : Int) : Option (Int) :=
  x_eq p1 0 (
    (f0_countAt b p0).bind fun v2 =>
    some v2) (
  x_eq p1 1 (
    (f2_indexOf 120 (g0_flts b) p0).bind fun v4 =>
    (f2_get 120 (g0_rwts b) v4).bind fun v5 =>
    some v5) (
  x_eq p1 2 (
    (f2_indexOf 120 (g0_flts b) p0).bind fun v7 =>
    (f2_get 120 (g0_strs b) v7).bind fun v8 =>
    some v8) (
  x_eq p1 3 (
    (f0_parcelAt b p0 0).bind fun v10 =>
    (f2_get 120 (g0_keys b) v10).bind fun v11 =>
    some v11) (
  x_eq p1 4 (
    (f0_lastAt b p0).bind fun v13 =>
    (f2_get 120 (g0_keys b) v13).bind fun v14 =>
    some v14) (
    x_eq (g0_opn b) p0 (
      some 1) (
      some 0))))))
def f0_number (b : BoatS) (p0 : Int) : Option (Int) :=
  x_eq p0 0 (
    some (g0_room b)) (
  x_eq p0 1 (
    (f0_countAt b (-1)).bind fun v3 =>
    some v3) (
  x_eq p0 2 (
    (f2_size 120 (g0_keys b)).bind fun v5 =>
    some v5) (
  x_eq p0 3 (
    (f2_size 120 (g0_flts b)).bind fun v7 =>
    some v7) (
  x_eq p0 4 (
    (f2_size 120 (g0_keys b)).bind fun v9 =>
    (f0_countAt b (-1)).bind fun v10 =>
    (f0_countAt b (-2)).bind fun v11 =>
    some ((v9 - v10) - v11)) (
  x_eq p0 5 (
    (f0_countAt b (-2)).bind fun v13 =>
    some v13) (
  x_eq p0 6 (
    some (g0_cst b)) (
  x_eq p0 7 (
    some (g0_mrg b)) (
  x_eq p0 8 (
    some (g0_stm b)) (
  x_eq p0 9 (
    some (g0_brk b)) (
  x_eq p0 10 (
    some (g0_opn b)) (
    some (g0_flo b))))))))))))

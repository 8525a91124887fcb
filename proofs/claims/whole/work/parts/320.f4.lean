def f4_begin (y : BrS) (p0 : Int) : Option (Int × Int × BrS) :=
  x_lt p0 1 (
    some (1, 0, y)) (
    x_lt 12 p0 (
      some (1, 0, y)) (
      (f1_save (g4_hi y) (g4_bo y)).bind fun h3 =>
      (f0_loaded (g4_bo y)).bind fun v4 =>
      (f0_startAgain (g4_bo y) p0).bind fun b5 =>
      some (0, v4, s4_bo (s4_hi y h3) b5)))
def f4_load (y : BrS) (p0 : Int) (p1 : Int) : Option (Int × Int × BrS) :=
  x_lt p0 0 (
    some (1, 0, y)) (
    x_lt 999 p0 (
      some (1, 0, y)) (
      x_lt p1 1 (
        some (1, 0, y)) (
        x_lt 50 p1 (
          some (1, 0, y)) (
          (f0_allLoaded (g4_bo y)).bind fun v5 =>
          x_eq v5 0 (
            (f1_save (g4_hi y) (g4_bo y)).bind fun h7 =>
            (f0_take (g4_bo y) p0 p1).bind fun (v9, b8) =>
            some (0, v9, s4_bo (s4_hi y h7) b8)) (
            some (2, 0, y))))))
def f4_loadDrawn (y : BrS) (p0 : Int) (p1 : Int) (p2 : Int) : Option (Int × Int × BrS) :=
  x_lt p0 0 (
    some (1, 0, y)) (
    x_lt 999999 p0 (
      some (1, 0, y)) (
      x_lt p1 1 (
        some (1, 0, y)) (
        x_lt 60 p1 (
          some (1, 0, y)) (
          x_lt p2 1 (
            some (1, 0, y)) (
            x_lt 1000 p2 (
              some (1, 0, y)) (
              (f1_save (g4_hi y) (g4_bo y)).bind fun h7 =>
              (f0_takeDrawn (g4_bo y) p0 p1 p2).bind fun (v9, b8) =>
              some (0, v9, s4_bo (s4_hi y h7) b8)))))))
def f4_empty (y : BrS) : Option (Int × BrS) :=
  (f1_save (g4_hi y) (g4_bo y)).bind fun h1 =>
  (f0_throwAll (g4_bo y)).bind fun (v3, b2) =>
  some (v3, s4_bo (s4_hi y h1) b2)
def f4_merge (y : BrS) (p0 : Int) (p1 : Int) : Option (Int × Int × BrS) :=
  (f0_hasRun (g4_bo y) p0).bind fun v1 =>
  x_eq v1 0 (
    some (3, 0, y)) (
    (f0_hasRun (g4_bo y) p1).bind fun v3 =>
    x_eq v3 0 (
      some (3, 0, y)) (
      x_eq p0 p1 (
        some (1, 0, y)) (
        (f1_save (g4_hi y) (g4_bo y)).bind fun h6 =>
        (f0_join (g4_bo y) p0 p1).bind fun (v8, b7) =>
        some (0, v8, s4_bo (s4_hi y h6) b7))))
def f4_mergeLightest (y : BrS) : Option (Int × Int × BrS) :=
  (f0_runs (g4_bo y)).bind fun v1 =>
  x_lt v1 2 (
    some (2, 0, y)) (
    (f1_save (g4_hi y) (g4_bo y)).bind fun h3 =>
    (f0_joinLightest (g4_bo y)).bind fun (v5, b4) =>
    some (0, v5, s4_bo (s4_hi y h3) b4))
def f4_storm (y : BrS) (p0 : Int) : Option (Int × Int × BrS) :=
  x_lt p0 1 (
    some (1, 0, y)) (
    x_lt 9 p0 (
      some (1, 0, y)) (
      (f1_save (g4_hi y) (g4_bo y)).bind fun h3 =>
      (f0_breakRuns (g4_bo y) p0).bind fun (v5, b4) =>
      some (0, v5, s4_bo (s4_hi y h3) b4)))
def f4_tighten (y : BrS) (p0 : Int) : Option (Int × Int × BrS) :=
  (f0_hasRun (g4_bo y) p0).bind fun v1 =>
  x_eq v1 0 (
    some (3, 0, y)) (
    (f1_save (g4_hi y) (g4_bo y)).bind fun h3 =>
    (f0_strengthen (g4_bo y) p0).bind fun (v5, b4) =>
    some (0, v5, s4_bo (s4_hi y h3) b4))
def f4_land (y : BrS) (p0 : Int) : Option (Int × Int × BrS) :=
  (f0_hasRun (g4_bo y) p0).bind fun v1 =>
  x_eq v1 0 (
    some (3, 0, y)) (
    (f0_canBringAshore (g4_bo y) p0).bind fun v3 =>
    x_eq v3 0 (
      some (2, 0, y)) (
      (f1_save (g4_hi y) (g4_bo y)).bind fun h5 =>
      (f0_bringAshore (g4_bo y) p0).bind fun (v7, b6) =>
      some (0, v7, s4_bo (s4_hi y h5) b6)))
def f4_parcel (y : BrS) (p0 : Int) (p1 : Int) : Option (Int × Int × BrS) :=
  x_lt p0 0 (
    some (4, 0, y)) (
    (f0_loaded (g4_bo y)).bind fun v2 =>
    x_lt p0 v2 (
      x_lt p1 0 (
        some (1, 0, y)) (
        x_lt p1 5 (
          (f0_parcelFact (g4_bo y) p0 p1).bind fun v6 =>
          some (0, v6, y)) (
          some (1, 0, y)))) (
      some (4, 0, y)))
def f4_run (y : BrS) (p0 : Int) (p1 : Int) : Option (Int × Int × BrS) :=
  (f0_hasRun (g4_bo y) p0).bind fun v1 =>
  x_eq v1 0 (
    some (3, 0, y)) (
    x_lt p1 0 (
      some (1, 0, y)) (
      x_lt p1 6 (
        (f0_runFact (g4_bo y) p0 p1).bind fun v5 =>
        some (0, v5, y)) (
        some (1, 0, y))))
def f4_inRun (y : BrS) (p0 : Int) (p1 : Int) : Option (Int × Int × BrS) :=
  (f0_hasRun (g4_bo y) p0).bind fun v1 =>
  x_eq v1 0 (
    some (3, 0, y)) (
    x_lt p1 0 (
      some (4, 0, y)) (
      (f0_countAt (g4_bo y) p0).bind fun v4 =>
      x_lt p1 v4 (
        (f0_parcelAt (g4_bo y) p0 p1).bind fun v6 =>
        some (0, v6, y)) (
        some (4, 0, y))))
def f4_ashore (y : BrS) (p0 : Int) : Option (Int × Int × BrS) :=
  x_lt p0 0 (
    some (4, 0, y)) (
    (f0_countAt (g4_bo y) (-2)).bind fun v2 =>
    x_lt p0 v2 (
      (f0_parcelAt (g4_bo y) (-2) p0).bind fun v4 =>
      some (0, v4, y)) (
      some (4, 0, y)))
def f4_runAt (y : BrS) (p0 : Int) : Option (Int × Int × BrS) :=
  x_lt p0 0 (
    some (4, 0, y)) (
    (f0_runs (g4_bo y)).bind fun v2 =>
    x_lt p0 v2 (
      (f0_runNumber (g4_bo y) p0).bind fun v4 =>
      some (0, v4, y)) (
      some (4, 0, y)))
def f4_value (y : BrS) (p0 : Int) : Option (Int × Int × BrS) :=
  x_lt p0 0 (
    some (1, 0, y)) (
    x_lt p0 12 (
      (f0_number (g4_bo y) p0).bind fun v3 =>
      some (0, v3, y)) (
      some (1, 0, y)))
def f4_nextThrown (y : BrS) : Option (Int) :=
  (f0_nextOverboard (g4_bo y)).bind fun v1 =>
  some v1
def f4_runsIfEmptied (y : BrS) : Option (Int × BrS) :=
  (f0_copy (g4_tr y) (g4_bo y)).bind fun b1 =>
  (f0_throwAll b1).bind fun (v3, b2) =>
  some (v3, s4_tr (s4_tr y b1) b2)
def f4_costByWeight (y : BrS) : Option (Int × BrS) :=
  (f0_copy (g4_tr y) (g4_bo y)).bind fun b1 =>
  (f0_joinAllByWeight b1).bind fun (v3, b2) =>
  some (v3, s4_tr (s4_tr y b1) b2)
def f4_costByNumber (y : BrS) : Option (Int × BrS) :=
  (f0_copy (g4_tr y) (g4_bo y)).bind fun b1 =>
  (f0_joinAllByNumber b1).bind fun (v3, b2) =>
  some (v3, s4_tr (s4_tr y b1) b2)
def f4_runsWith_L31  : Nat → Int → BrS → Option (Int × Int × BrS)
  | 0, _, _ => none
  | n5 + 1, l2, y4 =>
      (f0_loaded (g4_bo y4)).bind fun v6 =>
      x_lt l2 v6 (
        (f0_keyOf (g4_bo y4) l2).bind fun v8 =>
        (f0_weightOf (g4_bo y4) l2).bind fun v9 =>
        (f0_take (g4_tr y4) v8 v9).bind fun (v11, b10) =>
        f4_runsWith_L31  n5 (l2 + 1) (s4_tr y4 b10)) (
        (f0_throwAll (g4_tr y4)).bind fun (v13, b12) =>
        some (0, v13, s4_tr y4 b12))
def f4_runsWith (y : BrS) (p0 : Int) : Option (Int × Int × BrS) :=
  x_lt p0 1 (
    some (1, 0, y)) (
    x_lt 120 p0 (
      some (1, 0, y)) (
      (f0_startAgain (g4_tr y) p0).bind fun b3 =>
      f4_runsWith_L31  xFU 0 (s4_tr y b3)))
def f4_leastRoom_L4 (y : BrS) : Nat → Int → Int → Option (Int)
  | 0, _, _ => none
  | n1 + 1, l1, l2 =>
      (f0_loaded (g4_bo y)).bind fun v2 =>
      x_lt l2 v2 (
        (f0_earlierGreater (g4_bo y) l2).bind fun v4 =>
        (x_max l1 v4).bind fun v5 =>
        f4_leastRoom_L4 y n1 v5 (l2 + 1)) (
        some (l1 + 1))
def f4_leastRoom (y : BrS) : Option (Int) :=
  f4_leastRoom_L4 y xFU 0 0
def f4_inversions_L4 (y : BrS) : Nat → Int → Int → Option (Int)
  | 0, _, _ => none
  | n1 + 1, l1, l2 =>
      (f0_loaded (g4_bo y)).bind fun v2 =>
      x_lt l2 v2 (
        (f0_earlierGreater (g4_bo y) l2).bind fun v4 =>
        f4_inversions_L4 y n1 (l1 + v4) (l2 + 1)) (
        some l1)
def f4_inversions (y : BrS) : Option (Int) :=
  f4_inversions_L4 y xFU 0 0
def f4_append (y : BrS) (p0 : Int) : Option (Int × Int × BrS) :=
  x_lt p0 0 (
    some (1, 0, y)) (
    x_lt 127 p0 (
      some (1, 0, y)) (
      (f3_length (g4_tx y)).bind fun v3 =>
      x_lt v3 100 (
        (f3_write (g4_tx y) p0).bind fun (v6, t5) =>
        some (0, v6, s4_tx y t5)) (
        some (2, 0, y))))
def f4_clearText (y : BrS) : Option (Int × BrS) :=
  (f3_wipe (g4_tx y)).bind fun (v2, t1) =>
  some (v2, s4_tx y t1)
def f4_obey (y : BrS) (p0 : Int) (p1 : Int) (p2 : Int) : Option (Int × BrS) :=
  x_eq p0 101 (
    (f0_throwAll (g4_bo y)).bind fun (v3, b2) =>
    some (1, s4_bo y b2)) (
  x_eq p0 108 (
    (f0_runs (g4_bo y)).bind fun v5 =>
    x_lt v5 2 (
      some (0, y)) (
      (f0_joinLightest (g4_bo y)).bind fun (v8, b7) =>
      some (1, s4_bo y b7))) (
  x_eq p0 109 (
    x_eq p1 p2 (
      some (0, y)) (
      (f0_hasRun (g4_bo y) p1).bind fun v11 =>
      x_eq v11 0 (
        some (0, y)) (
        (f0_hasRun (g4_bo y) p2).bind fun v13 =>
        x_eq v13 0 (
          some (0, y)) (
          (f0_join (g4_bo y) p1 p2).bind fun (v16, b15) =>
          some (1, s4_bo y b15))))) (
  x_eq p0 112 (
    (f0_allLoaded (g4_bo y)).bind fun v18 =>
    x_eq v18 0 (
      (f0_take (g4_bo y) p1 p2).bind fun (v21, b20) =>
      some (1, s4_bo y b20)) (
      some (0, y))) (
  x_eq p0 115 (
    (f0_breakRuns (g4_bo y) p1).bind fun (v24, b23) =>
    some (1, s4_bo y b23)) (
    some (0, y))))))
def f4_carryOut_L31  : Nat → Int → BrS → Option (Int × BrS)
  | 0, _, _ => none
  | n6 + 1, l2, y5 =>
      (f3_orders (g4_tx y5)).bind fun v7 =>
      x_lt l2 v7 (
        (f3_kind (g4_tx y5) l2).bind fun v9 =>
        (f3_first (g4_tx y5) l2).bind fun v10 =>
        (f3_second (g4_tx y5) l2).bind fun v11 =>
        (f4_obey y5 v9 v10 v11).bind fun (v13, y12) =>
        x_eq v13 0 (
          some (l2, y12)) (
          f4_carryOut_L31  n6 (l2 + 1) y12)) (
        some (l2, y5))
def f4_carryOut (y : BrS) : Option (Int × BrS) :=
  (f3_readOrders (g4_tx y)).bind fun (v2, t1) =>
  x_eq v2 (-1) (
    (f1_save (g4_hi y) (g4_bo y)).bind fun h4 =>
    f4_carryOut_L31  xFU 0 (s4_hi (s4_tx y t1) h4)) (
    some (((-10) - v2), s4_tx y t1))
def f4_undo (y : BrS) : Option (Int × Int × BrS) :=
  (f1_count (g4_hi y)).bind fun v1 =>
  x_eq v1 0 (
    some (2, 0, y)) (
    (f1_restore (g4_hi y) (g4_bo y)).bind fun (h3, b4) =>
    (f1_count h3).bind fun v5 =>
    some (0, v5, s4_bo (s4_hi y h3) b4))
def f4_mixed (p0 : Int) (p1 : Int) : Option (Int) :=
  x_ck p1 <|
  some ((31 * p0) + p1)
def f4_digest_L57 (y : BrS) (l3x : Int) (kk : Int → Int → Option (Int × BrS)) : Nat → Int → Int → Option (Int × BrS)
  | 0, _, _ => none
  | n10 + 1, l1xx, l4 =>
      x_lt l4 5 (
        (f0_parcelFact (g4_bo y) l3x l4).bind fun v12 =>
        (f4_mixed l1xx v12).bind fun v13 =>
        f4_digest_L57 y l3x kk n10 v13 (l4 + 1)) (
        kk l1xx (l3x + 1))
def f4_digest_L123 (y : BrS) (l3xx : Int) (v17 : Int) (kk : Int → Int → Option (Int × BrS)) : Nat → Int → Int → Option (Int × BrS)
  | 0, _, _ => none
  | n19 + 1, l1xxxx, l5 =>
      x_lt l5 6 (
        (f0_runFact (g4_bo y) v17 l5).bind fun v21 =>
        (f4_mixed l1xxxx v21).bind fun v22 =>
        f4_digest_L123 y l3xx v17 kk n19 v22 (l5 + 1)) (
        kk l1xxxx (l3xx + 1))
def f4_digest_L92 (y : BrS) : Nat → Int → Int → Option (Int × BrS)
  | 0, _, _ => none
  | n14 + 1, l1xxx, l3xx =>
      (f0_runs (g4_bo y)).bind fun v15 =>
      x_lt l3xx v15 (
        (f0_runNumber (g4_bo y) l3xx).bind fun v17 =>
        (f4_mixed l1xxx v17).bind fun v18 =>
        f4_digest_L123 y l3xx v17 (f4_digest_L92 y n14) xFU v18 0) (
        (f4_nextThrown y).bind fun v23 =>
        (f4_mixed l1xxx v23).bind fun v24 =>
        (f4_costByWeight y).bind fun (v26, y25) =>
        (f4_mixed v24 v26).bind fun v27 =>
        (f1_count (g4_hi y25)).bind fun v28 =>
        (f4_mixed v27 v28).bind fun v29 =>
        some (v29, y25))
def f4_digest_L43 (y : BrS) : Nat → Int → Int → Option (Int × BrS)
  | 0, _, _ => none
  | n7 + 1, l1x, l3x =>
      (f0_loaded (g4_bo y)).bind fun v8 =>
      x_lt l3x v8 (
        f4_digest_L57 y l3x (f4_digest_L43 y n7) xFU l1x 0) (
        f4_digest_L92 y xFU l1x 0)
def f4_digest_L16 (y : BrS) : Nat → Int → Int → Option (Int × BrS)
  | 0, _, _ => none
  | n3 + 1, l1, l3 =>
      x_lt l3 12 (
        (f0_number (g4_bo y) l3).bind fun v5 =>
        (f4_mixed l1 v5).bind fun v6 =>
        f4_digest_L16 y n3 v6 (l3 + 1)) (
        f4_digest_L43 y xFU l1 0)
def f4_digest (y : BrS) : Option (Int × BrS) :=
  (f3_length (g4_tx y)).bind fun v1 =>
  (f4_mixed 3691 v1).bind fun v2 =>
  f4_digest_L16 y xFU v2 0

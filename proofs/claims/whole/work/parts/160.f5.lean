def f5_thrown (x : ModS) : Option (Int) :=
  some (g5_thr x)
def f5_in (p0 : Int) (p1 : Int) (p2 : Int) : Option (Int) :=
  x_lt p0 p1 (
    some 0) (
    x_lt p2 p0 (
      some 0) (
      some 1))
def f5_anew_L2 (p0 : Int) : Nat → Int → ModS → Option (ModS)
  | 0, _, _ => none
  | n2 + 1, l2, x1 =>
      x_lt l2 730 (
        (x_st 730 (g5_now x1) l2 0).bind fun g4 =>
        f5_anew_L2 p0 n2 (l2 + 1) (s5_now x1 g4)) (
        (x_st 730 (g5_now x1) 0 p0).bind fun g5 =>
        (x_st 730 g5 6 (-1)).bind fun g6 =>
        some (s5_now (s5_now x1 g5) g6))
def f5_anew (x : ModS) (p0 : Int) : Option (ModS) :=
  f5_anew_L2 p0 xFU 0 x
def f5_of (x : ModS) (p0 : Int) (p1 : Int) : Option (Int) :=
  (x_ld 730 (g5_now x) ((250 + (4 * p0)) + p1)).bind fun v1 =>
  some v1
def f5_be (x : ModS) (p0 : Int) (p1 : Int) (p2 : Int) : Option (ModS) :=
  (x_st 730 (g5_now x) ((250 + (4 * p0)) + p1) p2).bind fun g1 =>
  some (s5_now x g1)
def f5_numberAt (x : ModS) (p0 : Int) : Option (Int) :=
  (x_ld 730 (g5_now x) (10 + (2 * p0))).bind fun v1 =>
  some v1
def f5_placeOf_L2 (x : ModS) (p0 : Int) : Nat → Int → Option (Int)
  | 0, _ => none
  | n1 + 1, l2 =>
      (x_ld 730 (g5_now x) 8).bind fun v2 =>
      x_lt l2 v2 (
        (f5_numberAt x l2).bind fun v4 =>
        x_eq v4 p0 (
          some l2) (
          f5_placeOf_L2 x p0 n1 (l2 + 1))) (
        some (-1))
def f5_placeOf (x : ModS) (p0 : Int) : Option (Int) :=
  f5_placeOf_L2 x p0 xFU 0
def f5_isLess (x : ModS) (p0 : Int) (p1 : Int) : Option (Int) :=
  (f5_of x p0 0).bind fun v1 =>
  (f5_of x p1 0).bind fun v2 =>
  x_lt v1 v2 (
    some 1) (
    (f5_of x p0 0).bind fun v4 =>
    (f5_of x p1 0).bind fun v5 =>
    x_eq v4 v5 (
      x_lt p0 p1 (
        some 1) (
        some 0)) (
      some 0))
def f5_isOf (x : ModS) (p0 : Int) (p1 : Int) : Option (Int) :=
  (f5_of x p0 2).bind fun v1 =>
  x_eq v1 1 (
    (f5_of x p0 3).bind fun v3 =>
    x_eq v3 p1 (
      some 1) (
      some 0)) (
    some 0)
def f5_many_L4 (x : ModS) (p0 : Int) : Nat → Int → Int → Option (Int)
  | 0, _, _ => none
  | n1 + 1, l2, l3 =>
      (x_ld 730 (g5_now x) 1).bind fun v2 =>
      x_lt l3 v2 (
        (f5_of x l3 2).bind fun v4 =>
        x_eq v4 p0 (
          f5_many_L4 x p0 n1 (l2 + 1) (l3 + 1)) (
          f5_many_L4 x p0 n1 (l2 + 0) (l3 + 1))) (
        some l2)
def f5_many (x : ModS) (p0 : Int) : Option (Int) :=
  f5_many_L4 x p0 xFU 0 0
def f5_manyOf_L4 (x : ModS) (p0 : Int) : Nat → Int → Int → Option (Int)
  | 0, _, _ => none
  | n1 + 1, l2, l3 =>
      (x_ld 730 (g5_now x) 1).bind fun v2 =>
      x_lt l3 v2 (
        (f5_isOf x l3 p0).bind fun v4 =>
        x_eq v4 0 (
          f5_manyOf_L4 x p0 n1 (l2 + 0) (l3 + 1)) (
          f5_manyOf_L4 x p0 n1 (l2 + 1) (l3 + 1))) (
        some l2)
def f5_manyOf (x : ModS) (p0 : Int) : Option (Int) :=
  f5_manyOf_L4 x p0 xFU 0 0
def f5_weightOf_L4 (x : ModS) (p0 : Int) : Nat → Int → Int → Option (Int)
  | 0, _, _ => none
  | n1 + 1, l2, l3 =>
      (x_ld 730 (g5_now x) 1).bind fun v2 =>
      x_lt l3 v2 (
        (f5_isOf x l3 p0).bind fun v4 =>
        x_eq v4 0 (
          f5_weightOf_L4 x p0 n1 (l2 + 0) (l3 + 1)) (
          (f5_of x l3 1).bind fun v6 =>
          f5_weightOf_L4 x p0 n1 (l2 + v6) (l3 + 1))) (
        some l2)
def f5_weightOf (x : ModS) (p0 : Int) : Option (Int) :=
  f5_weightOf_L4 x p0 xFU 0 0
def f5_areTogether (x : ModS) (p0 : Int) (p1 : Int) : Option (Int) :=
  (f5_of x p0 2).bind fun v1 =>
  (f5_of x p1 2).bind fun v2 =>
  x_eq v1 v2 (
    (f5_of x p0 3).bind fun v4 =>
    (f5_of x p1 3).bind fun v5 =>
    x_eq v4 v5 (
      some 1) (
      some 0)) (
    some 0)
def f5_placeIn_L4 (x : ModS) (p0 : Int) : Nat → Int → Int → Option (Int)
  | 0, _, _ => none
  | n1 + 1, l2, l3 =>
      (x_ld 730 (g5_now x) 1).bind fun v2 =>
      x_lt l3 v2 (
        (f5_areTogether x p0 l3).bind fun v4 =>
        x_eq v4 0 (
          f5_placeIn_L4 x p0 n1 (l2 + 0) (l3 + 1)) (
          (f5_isLess x l3 p0).bind fun v6 =>
          x_eq v6 0 (
            f5_placeIn_L4 x p0 n1 (l2 + 0) (l3 + 1)) (
            f5_placeIn_L4 x p0 n1 (l2 + 1) (l3 + 1)))) (
        some l2)
def f5_placeIn (x : ModS) (p0 : Int) : Option (Int) :=
  f5_placeIn_L4 x p0 xFU 0 0
def f5_firstOf_L4 (x : ModS) (p0 : Int) : Nat → Int → Int → Option (Int)
  | 0, _, _ => none
  | n1 + 1, l2, l3 =>
      (x_ld 730 (g5_now x) 1).bind fun v2 =>
      x_lt l3 v2 (
        (f5_isOf x l3 p0).bind fun v4 =>
        x_eq v4 0 (
          f5_firstOf_L4 x p0 n1 l2 (l3 + 1)) (
          x_eq l2 (-1) (
            f5_firstOf_L4 x p0 n1 l3 (l3 + 1)) (
            (f5_isLess x l3 l2).bind fun v7 =>
            x_eq v7 0 (
              f5_firstOf_L4 x p0 n1 l2 (l3 + 1)) (
              f5_firstOf_L4 x p0 n1 l3 (l3 + 1))))) (
        some l2)
def f5_firstOf (x : ModS) (p0 : Int) : Option (Int) :=
  f5_firstOf_L4 x p0 xFU (-1) 0
def f5_lastOf_L4 (x : ModS) (p0 : Int) : Nat → Int → Int → Option (Int)
  | 0, _, _ => none
  | n1 + 1, l2, l3 =>
      (x_ld 730 (g5_now x) 1).bind fun v2 =>
      x_lt l3 v2 (
        (f5_isOf x l3 p0).bind fun v4 =>
        x_eq v4 0 (
          f5_lastOf_L4 x p0 n1 l2 (l3 + 1)) (
          x_eq l2 (-1) (
            f5_lastOf_L4 x p0 n1 l3 (l3 + 1)) (
            (f5_isLess x l2 l3).bind fun v7 =>
            x_eq v7 0 (
              f5_lastOf_L4 x p0 n1 l2 (l3 + 1)) (
              f5_lastOf_L4 x p0 n1 l3 (l3 + 1))))) (
        some l2)
def f5_lastOf (x : ModS) (p0 : Int) : Option (Int) :=
  f5_lastOf_L4 x p0 xFU (-1) 0
def f5_lastAshore_L4 (x : ModS) : Nat → Int → Int → Option (Int)
  | 0, _, _ => none
  | n1 + 1, l1, l2 =>
      (x_ld 730 (g5_now x) 1).bind fun v2 =>
      x_lt l2 v2 (
        (f5_of x l2 2).bind fun v4 =>
        x_eq v4 2 (
          x_eq l1 (-1) (
            f5_lastAshore_L4 x n1 l2 (l2 + 1)) (
            (f5_isLess x l1 l2).bind fun v7 =>
            x_eq v7 0 (
              f5_lastAshore_L4 x n1 l1 (l2 + 1)) (
              f5_lastAshore_L4 x n1 l2 (l2 + 1)))) (
          f5_lastAshore_L4 x n1 l1 (l2 + 1))) (
        some l1)
def f5_lastAshore (x : ModS) : Option (Int) :=
  f5_lastAshore_L4 x xFU (-1) 0
def f5_save_L51  : Nat → Int → ModS → Option (ModS)
  | 0, _, _ => none
  | n153 + 1, l1, x152 =>
      x_lt l1 730 (
        (x_ld 730 (g5_now x152) l1).bind fun v155 =>
        (x_st 2920 (g5_was x152) ((730 * g5_acts x152) + l1) v155).bind fun g156 =>
        f5_save_L51  n153 (l1 + 1) (s5_was x152 g156)) (
        some (s5_acts x152 (g5_acts x152 + 1)))
def f5_save_L10  : Nat → Int → ModS → Option (ModS)
  | 0, _, _ => none
  | n3 + 1, l1, x2 =>
      x_lt l1 2190 (
        (x_ld 2920 (g5_was x2) (l1 + 730)).bind fun v5 =>
        (x_st 2920 (g5_was x2) l1 v5).bind fun g6 =>
        f5_save_L10  n3 (l1 + 1) (s5_was x2 g6)) (
        f5_save_L51  xFU 0 (s5_acts x2 (g5_acts x2 - 1)))
def f5_save (x : ModS) : Option (ModS) :=
  x_eq (g5_acts x) 4 (
    f5_save_L10  xFU 0 x) (
    f5_save_L51  xFU 0 x)
def f5_newRun (x : ModS) : Option (Int × ModS) :=
  (x_ld 730 (g5_now x) 8).bind fun v1 =>
  (x_ld 730 (g5_now x) 7).bind fun v2 =>
  (x_st 730 (g5_now x) (10 + (2 * v1)) v2).bind fun g3 =>
  (x_st 730 g3 ((10 + (2 * v1)) + 1) 5).bind fun g4 =>
  (x_ld 730 g4 8).bind fun v5 =>
  (x_st 730 g4 8 (v5 + 1)).bind fun g6 =>
  (x_ld 730 g6 7).bind fun v7 =>
  (x_st 730 g6 7 (v7 + 1)).bind fun g8 =>
  (x_ld 730 g8 7).bind fun v9 =>
  some ((v9 - 1), s5_now (s5_now (s5_now (s5_now x g3) g4) g6) g8)
def f5_dropRun_L7  : Nat → Int → ModS → Option (ModS)
  | 0, _, _ => none
  | n2 + 1, l2, x1 =>
      (x_ld 730 (g5_now x1) 8).bind fun v3 =>
      x_lt l2 ((10 + (2 * v3)) - 2) (
        (x_ld 730 (g5_now x1) (l2 + 2)).bind fun v5 =>
        (x_st 730 (g5_now x1) l2 v5).bind fun g6 =>
        f5_dropRun_L7  n2 (l2 + 1) (s5_now x1 g6)) (
        (x_ld 730 (g5_now x1) 8).bind fun v7 =>
        (x_st 730 (g5_now x1) 8 (v7 - 1)).bind fun g8 =>
        some (s5_now x1 g8))
def f5_dropRun (x : ModS) (p0 : Int) : Option (ModS) :=
  f5_dropRun_L7  xFU (10 + (2 * p0)) x
def f5_leastInBoat_L4 (x : ModS) (p0 : Int) : Nat → Int → Int → Option (Int)
  | 0, _, _ => none
  | n1 + 1, l2, l3 =>
      (x_ld 730 (g5_now x) 1).bind fun v2 =>
      x_lt l3 v2 (
        (f5_of x l3 2).bind fun v4 =>
        x_eq v4 0 (
          x_eq p0 (-1) (
            x_eq l2 (-1) (
              f5_leastInBoat_L4 x p0 n1 l3 (l3 + 1)) (
              (f5_isLess x l3 l2).bind fun v9 =>
              x_eq v9 0 (
                f5_leastInBoat_L4 x p0 n1 l2 (l3 + 1)) (
                f5_leastInBoat_L4 x p0 n1 l3 (l3 + 1)))) (
            (f5_isLess x p0 l3).bind fun v11 =>
            x_eq v11 0 (
              f5_leastInBoat_L4 x p0 n1 l2 (l3 + 1)) (
              x_eq l2 (-1) (
                f5_leastInBoat_L4 x p0 n1 l3 (l3 + 1)) (
                (f5_isLess x l3 l2).bind fun v16 =>
                x_eq v16 0 (
                  f5_leastInBoat_L4 x p0 n1 l2 (l3 + 1)) (
                  f5_leastInBoat_L4 x p0 n1 l3 (l3 + 1)))))) (
          f5_leastInBoat_L4 x p0 n1 l2 (l3 + 1))) (
        some l2)
def f5_leastInBoat (x : ModS) (p0 : Int) : Option (Int) :=
  f5_leastInBoat_L4 x p0 xFU (-1) 0
def f5_fitting (x : ModS) : Option (Int) :=
  (x_ld 730 (g5_now x) 6).bind fun v1 =>
  x_eq v1 (-1) (
    some (-1)) (
    (x_ld 730 (g5_now x) 6).bind fun v3 =>
    (f5_lastOf x v3).bind fun v4 =>
    (f5_leastInBoat x v4).bind fun v5 =>
    some v5)
def f5_throwOne (x : ModS) : Option (Int × ModS) :=
  (f5_fitting x).bind fun v1 =>
  x_eq v1 (-1) (
    (f5_leastInBoat x (-1)).bind fun v3 =>
    (f5_newRun x).bind fun (v5, x4) =>
    (x_st 730 (g5_now x4) 6 v5).bind fun g7 =>
    (f5_be (s5_now x4 g7) v3 2 1).bind fun x8 =>
    (x_ld 730 (g5_now x8) 6).bind fun v9 =>
    (f5_be x8 v3 3 v9).bind fun x10 =>
    (x_ld 730 (g5_now x10) 6).bind fun v11 =>
    some (v11, x10)) (
    (f5_be x v1 2 1).bind fun x12 =>
    (x_ld 730 (g5_now x12) 6).bind fun v13 =>
    (f5_be x12 v1 3 v13).bind fun x14 =>
    (x_ld 730 (g5_now x14) 6).bind fun v15 =>
    some (v15, x14))
def f5_loadOne (x : ModS) (p0 : Int) (p1 : Int) : Option (Int × ModS) :=
  (f5_many x 0).bind fun v1 =>
  (x_ld 730 (g5_now x) 0).bind fun v2 =>
  x_eq v1 v2 (
    (f5_throwOne x).bind fun (v5, x4) =>
    (x_ld 730 (g5_now x4) 1).bind fun v7 =>
    (f5_be x4 v7 0 p0).bind fun x8 =>
    (f5_be x8 v7 1 p1).bind fun x9 =>
    (f5_be x9 v7 2 0).bind fun x10 =>
    (f5_be x10 v7 3 (-1)).bind fun x11 =>
    (x_ld 730 (g5_now x11) 1).bind fun v12 =>
    (x_st 730 (g5_now x11) 1 (v12 + 1)).bind fun g13 =>
    some (v5, s5_now x11 g13)) (
    (x_ld 730 (g5_now x) 1).bind fun v14 =>
    (f5_be x v14 0 p0).bind fun x15 =>
    (f5_be x15 v14 1 p1).bind fun x16 =>
    (f5_be x16 v14 2 0).bind fun x17 =>
    (f5_be x17 v14 3 (-1)).bind fun x18 =>
    (x_ld 730 (g5_now x18) 1).bind fun v19 =>
    (x_st 730 (g5_now x18) 1 (v19 + 1)).bind fun g20 =>
    some ((-1), s5_now x18 g20))
def f5_emptyAll_L0  : Nat → ModS → Option (ModS)
  | 0, _ => none
  | n2 + 1, x1 =>
      (f5_leastInBoat x1 (-1)).bind fun v3 =>
      x_eq v3 (-1) (
        (x_st 730 (g5_now x1) 6 (-1)).bind fun g5 =>
        some (s5_now x1 g5)) (
        (f5_throwOne x1).bind fun (v7, x6) =>
        f5_emptyAll_L0  n2 x6)
def f5_emptyAll (x : ModS) : Option (ModS) :=
  f5_emptyAll_L0  xFU x
def f5_begin (x : ModS) (p0 : Int) : Option (Int × ModS) :=
  (f5_in p0 1 12).bind fun v1 =>
  x_eq v1 0 (
    some (0, s5_thr x 1)) (
    (f5_save (s5_thr x 0)).bind fun x5 =>
    (x_ld 730 (g5_now x5) 1).bind fun v6 =>
    (f5_anew x5 p0).bind fun x7 =>
    some (v6, x7))
def f5_load (x : ModS) (p0 : Int) (p1 : Int) : Option (Int × ModS) :=
  (f5_in p0 0 999).bind fun v1 =>
  x_eq v1 0 (
    some (0, s5_thr x 1)) (
    (f5_in p1 1 50).bind fun v4 =>
    x_eq v4 0 (
      some (0, s5_thr x 1)) (
      (x_ld 730 (g5_now x) 1).bind fun v7 =>
      x_eq v7 120 (
        some (0, s5_thr x 2)) (
        (f5_save (s5_thr x 0)).bind fun x11 =>
        (f5_loadOne x11 p0 p1).bind fun (v13, x12) =>
        some (v13, x12))))
def f5_loadDrawn_L68 (p1 : Int) (p2 : Int) (v12 : Int) : Nat → Int → Int → ModS → Option (Int × ModS)
  | 0, _, _, _ => none
  | n14 + 1, l4, l7, x13 =>
      x_lt l7 p1 (
        (x_ld 730 (g5_now x13) 1).bind fun v16 =>
        x_lt v16 120 (
          (x_lrem ((l4 * 1103515245) + 12345) 2147483648).bind fun v18 =>
          (x_ldiv v18 65536).bind fun v19 =>
          x_ck p2 <|
          (x_lrem v19 p2).bind fun v20 =>
          (x_ldiv v18 1024).bind fun v21 =>
          (x_lrem v21 50).bind fun v22 =>
          (f5_loadOne x13 v20 (v22 + 1)).bind fun (v24, x23) =>
          f5_loadDrawn_L68 p1 p2 v12 n14 v18 (l7 + 1) x23) (
          (x_ld 730 (g5_now x13) 1).bind fun v26 =>
          some ((v26 - v12), x13))) (
        (x_ld 730 (g5_now x13) 1).bind fun v27 =>
        some ((v27 - v12), x13))
def f5_loadDrawn (x : ModS) (p0 : Int) (p1 : Int) (p2 : Int) : Option (Int × ModS) :=
  (f5_in p0 0 999999).bind fun v1 =>
  x_eq v1 0 (
    some (0, s5_thr x 1)) (
    (f5_in p1 1 60).bind fun v4 =>
    x_eq v4 0 (
      some (0, s5_thr x 1)) (
      (f5_in p2 1 1000).bind fun v7 =>
      x_eq v7 0 (
        some (0, s5_thr x 1)) (
        (f5_save (s5_thr x 0)).bind fun x11 =>
        x_ck p0 <|
        (x_ld 730 (g5_now x11) 1).bind fun v12 =>
        f5_loadDrawn_L68 p1 p2 v12 xFU p0 0 x11)))
def f5_empty (x : ModS) : Option (Int × ModS) :=
  (f5_save (s5_thr x 0)).bind fun x1 =>
  (f5_emptyAll x1).bind fun x2 =>
  (x_ld 730 (g5_now x2) 8).bind fun v3 =>
  some (v3, x2)
def f5_mergeBoth_L26 (k3 : Int) (k4 : Int) : Nat → Int → ModS → Option (Int × ModS)
  | 0, _, _ => none
  | n128 + 1, l5, x127 =>
      (x_ld 730 (g5_now x127) 1).bind fun v129 =>
      x_lt l5 v129 (
        (f5_isOf x127 l5 k4).bind fun v131 =>
        x_eq v131 0 (
          f5_mergeBoth_L26 k3 k4 n128 (l5 + 1) x127) (
          (f5_be x127 l5 3 k3).bind fun x133 =>
          f5_mergeBoth_L26 k3 k4 n128 (l5 + 1) x133)) (
        (f5_placeOf x127 k4).bind fun v134 =>
        (f5_dropRun x127 v134).bind fun x135 =>
        (x_ld 730 (g5_now x135) 6).bind fun v136 =>
        x_eq v136 k3 (
          (x_st 730 (g5_now x135) 6 (-1)).bind fun g138 =>
          (f5_weightOf (s5_now x135 g138) k3).bind fun v139 =>
          (x_ld 730 g138 2).bind fun v140 =>
          (x_st 730 g138 2 (v140 + v139)).bind fun g141 =>
          (x_ld 730 g141 3).bind fun v142 =>
          (x_st 730 g141 3 (v142 + 1)).bind fun g143 =>
          some (v139, s5_now (s5_now (s5_now x135 g138) g141) g143)) (
          (x_ld 730 (g5_now x135) 6).bind fun v144 =>
          x_eq v144 k4 (
            (x_st 730 (g5_now x135) 6 (-1)).bind fun g146 =>
            (f5_weightOf (s5_now x135 g146) k3).bind fun v147 =>
            (x_ld 730 g146 2).bind fun v148 =>
            (x_st 730 g146 2 (v148 + v147)).bind fun g149 =>
            (x_ld 730 g149 3).bind fun v150 =>
            (x_st 730 g149 3 (v150 + 1)).bind fun g151 =>
            some (v147, s5_now (s5_now (s5_now x135 g146) g149) g151)) (
            (x_ld 730 (g5_now x135) 6).bind fun v152 =>
            (x_st 730 (g5_now x135) 6 v152).bind fun g153 =>
            (f5_weightOf (s5_now x135 g153) k3).bind fun v154 =>
            (x_ld 730 g153 2).bind fun v155 =>
            (x_st 730 g153 2 (v155 + v154)).bind fun g156 =>
            (x_ld 730 g156 3).bind fun v157 =>
            (x_st 730 g156 3 (v157 + 1)).bind fun g158 =>
            some (v154, s5_now (s5_now (s5_now x135 g153) g156) g158))))
def f5_mergeBoth (x : ModS) (p0 : Int) (p1 : Int) : Option (Int × ModS) :=
  x_lt p0 p1 (
    x_lt p0 p1 (
      f5_mergeBoth_L26 p0 p1 xFU 0 x) (
      f5_mergeBoth_L26 p0 p0 xFU 0 x)) (
    x_lt p0 p1 (
      f5_mergeBoth_L26 p1 p1 xFU 0 x) (
      f5_mergeBoth_L26 p1 p0 xFU 0 x))
def f5_whyNoMerge (x : ModS) (p0 : Int) (p1 : Int) : Option (Int) :=
  (f5_placeOf x p0).bind fun v1 =>
  x_eq v1 (-1) (
    some 1) (
    (f5_placeOf x p1).bind fun v3 =>
    x_eq v3 (-1) (
      some 1) (
      x_eq p0 p1 (
        some 2) (
        some 0)))
def f5_merge (x : ModS) (p0 : Int) (p1 : Int) : Option (Int × ModS) :=
  (f5_whyNoMerge x p0 p1).bind fun v1 =>
  x_lt 0 v1 (
    some (0, s5_thr x v1)) (
    (f5_save (s5_thr x v1)).bind fun x3 =>
    (f5_mergeBoth x3 p0 p1).bind fun (v5, x4) =>
    some (v5, x4))
def f5_lightest_L4 (x : ModS) (p0 : Int) : Nat → Int → Int → Option (Int)
  | 0, _, _ => none
  | n1 + 1, l2, l3 =>
      (x_ld 730 (g5_now x) 8).bind fun v2 =>
      x_lt l3 v2 (
        (f5_numberAt x l3).bind fun v4 =>
        x_eq v4 p0 (
          f5_lightest_L4 x p0 n1 l2 (l3 + 1)) (
          x_eq l2 (-1) (
            (f5_numberAt x l3).bind fun v9 =>
            f5_lightest_L4 x p0 n1 v9 (l3 + 1)) (
            (f5_numberAt x l3).bind fun v10 =>
            (f5_weightOf x v10).bind fun v11 =>
            (f5_weightOf x l2).bind fun v12 =>
            x_lt v11 v12 (
              (f5_numberAt x l3).bind fun v15 =>
              f5_lightest_L4 x p0 n1 v15 (l3 + 1)) (
              f5_lightest_L4 x p0 n1 l2 (l3 + 1))))) (
        some l2)
def f5_lightest (x : ModS) (p0 : Int) : Option (Int) :=
  f5_lightest_L4 x p0 xFU (-1) 0
def f5_mergeLight (x : ModS) : Option (Int × ModS) :=
  (f5_lightest x (-1)).bind fun v1 =>
  (f5_lightest x v1).bind fun v2 =>
  (f5_mergeBoth x v1 v2).bind fun (v4, x3) =>
  x_lt 0 v4 (
    x_lt v1 v2 (
      some (v1, x3)) (
      some (v2, x3))) (
    some (v2, x3))
def f5_mergeLightest (x : ModS) : Option (Int × ModS) :=
  (x_ld 730 (g5_now x) 8).bind fun v1 =>
  x_lt v1 2 (
    some (0, s5_thr x 1)) (
    (f5_save (s5_thr x 0)).bind fun x5 =>
    (f5_mergeLight x5).bind fun (v7, x6) =>
    some (v7, x6))
def f5_stormBy_L71 (l3 : Int) (l4 : Int) (v5 : Int) (v6 : Int) (v11 : Int) (kk : Int → Int → ModS → Option (Int × ModS)) : Nat → Int → ModS → Option (Int × ModS)
  | 0, _, _ => none
  | n14 + 1, l8, x13 =>
      (x_div v6 2).bind fun v15 =>
      x_lt l8 v15 (
        (f5_lastOf x13 v5).bind fun v17 =>
        (f5_be x13 v17 3 v11).bind fun x18 =>
        f5_stormBy_L71 l3 l4 v5 v6 v11 kk n14 (l8 + 1) x18) (
        kk (l3 + 1) (l4 + 1) x13)
def f5_stormBy_L108 (v1 : Int) (l3 : Int) : Nat → Int → ModS → Option (Int × ModS)
  | 0, _, _ => none
  | n20 + 1, l4x, x19 =>
      x_lt l4x v1 (
        (x_ld 730 (g5_now x19) ((10 + (2 * l4x)) + 1)).bind fun v22 =>
        x_lt 0 v22 (
          (x_ld 730 (g5_now x19) ((10 + (2 * l4x)) + 1)).bind fun v24 =>
          (x_st 730 (g5_now x19) ((10 + (2 * l4x)) + 1) (v24 - 1)).bind fun g25 =>
          f5_stormBy_L108 v1 l3 n20 (l4x + 1) (s5_now x19 g25)) (
          (x_st 730 (g5_now x19) ((10 + (2 * l4x)) + 1) 0).bind fun g26 =>
          f5_stormBy_L108 v1 l3 n20 (l4x + 1) (s5_now x19 g26))) (
        (x_st 730 (g5_now x19) 6 (-1)).bind fun g27 =>
        (x_ld 730 g27 4).bind fun v28 =>
        (x_st 730 g27 4 (v28 + 1)).bind fun g29 =>
        (x_ld 730 g29 5).bind fun v30 =>
        (x_st 730 g29 5 (v30 + l3)).bind fun g31 =>
        some (l3, s5_now (s5_now (s5_now x19 g27) g29) g31))
def f5_stormBy_L13 (p0 : Int) (v1 : Int) : Nat → Int → Int → ModS → Option (Int × ModS)
  | 0, _, _, _ => none
  | n3 + 1, l3, l4, x2 =>
      x_lt l4 v1 (
        (f5_numberAt x2 l4).bind fun v5 =>
        (f5_manyOf x2 v5).bind fun v6 =>
        x_lt 1 v6 (
          (x_ld 730 (g5_now x2) ((10 + (2 * l4)) + 1)).bind fun v8 =>
          x_lt v8 p0 (
            (f5_newRun x2).bind fun (v11, x10) =>
            f5_stormBy_L71 l3 l4 v5 v6 v11 (f5_stormBy_L13 p0 v1 n3) xFU 0 x10) (
            f5_stormBy_L13 p0 v1 n3 l3 (l4 + 1) x2)) (
          f5_stormBy_L13 p0 v1 n3 l3 (l4 + 1) x2)) (
        f5_stormBy_L108 v1 l3 xFU 0 x2)
def f5_stormBy (x : ModS) (p0 : Int) : Option (Int × ModS) :=
  (x_ld 730 (g5_now x) 8).bind fun v1 =>
  f5_stormBy_L13 p0 v1 xFU 0 0 x
def f5_storm (x : ModS) (p0 : Int) : Option (Int × ModS) :=
  (f5_in p0 1 9).bind fun v1 =>
  x_eq v1 0 (
    some (0, s5_thr x 1)) (
    (f5_save (s5_thr x 0)).bind fun x5 =>
    (f5_stormBy x5 p0).bind fun (v7, x6) =>
    some (v7, x6))
def f5_tighten (x : ModS) (p0 : Int) : Option (Int × ModS) :=
  (f5_placeOf x p0).bind fun v1 =>
  x_eq v1 (-1) (
    some (0, s5_thr x 1)) (
    (f5_save (s5_thr x 0)).bind fun x5 =>
    (x_ld 730 (g5_now x5) ((10 + (2 * v1)) + 1)).bind fun v6 =>
    x_lt v6 9 (
      (x_ld 730 (g5_now x5) ((10 + (2 * v1)) + 1)).bind fun v8 =>
      (x_st 730 (g5_now x5) ((10 + (2 * v1)) + 1) (v8 + 1)).bind fun g9 =>
      (x_ld 730 g9 ((10 + (2 * v1)) + 1)).bind fun v10 =>
      some (v10, s5_now x5 g9)) (
      (x_st 730 (g5_now x5) ((10 + (2 * v1)) + 1) 9).bind fun g11 =>
      (x_ld 730 g11 ((10 + (2 * v1)) + 1)).bind fun v12 =>
      some (v12, s5_now x5 g11)))
def f5_canLand (x : ModS) (p0 : Int) : Option (Int) :=
  (f5_lastAshore x).bind fun v1 =>
  x_eq v1 (-1) (
    some 1) (
    (f5_firstOf x p0).bind fun v3 =>
    (f5_isLess x v1 v3).bind fun v4 =>
    x_eq v4 0 (
      some 0) (
      some 1))
def f5_land_L47 (p0 : Int) (v1 : Int) : Nat → Int → ModS → Option (Int × ModS)
  | 0, _, _ => none
  | n10 + 1, l3, x9 =>
      (x_ld 730 (g5_now x9) 1).bind fun v11 =>
      x_lt l3 v11 (
        (f5_isOf x9 l3 p0).bind fun v13 =>
        x_eq v13 0 (
          f5_land_L47 p0 v1 n10 (l3 + 1) x9) (
          (f5_be x9 l3 2 2).bind fun x15 =>
          (f5_be x15 l3 3 (-1)).bind fun x16 =>
          f5_land_L47 p0 v1 n10 (l3 + 1) x16)) (
        (f5_dropRun x9 v1).bind fun x17 =>
        (x_ld 730 (g5_now x17) 6).bind fun v18 =>
        x_eq v18 p0 (
          (x_st 730 (g5_now x17) 6 (-1)).bind fun g20 =>
          (f5_many (s5_now x17 g20) 2).bind fun v21 =>
          some (v21, s5_now x17 g20)) (
          (x_ld 730 (g5_now x17) 6).bind fun v22 =>
          (x_st 730 (g5_now x17) 6 v22).bind fun g23 =>
          (f5_many (s5_now x17 g23) 2).bind fun v24 =>
          some (v24, s5_now x17 g23)))
def f5_land (x : ModS) (p0 : Int) : Option (Int × ModS) :=
  (f5_placeOf x p0).bind fun v1 =>
  x_eq v1 (-1) (
    some (0, s5_thr x 1)) (
    (f5_canLand x p0).bind fun v4 =>
    x_eq v4 0 (
      some (0, s5_thr x 2)) (
      (f5_save (s5_thr x 0)).bind fun x8 =>
      f5_land_L47 p0 v1 xFU 0 x8))
def f5_parcelBy (x : ModS) (p0 : Int) (p1 : Int) : Option (Int) :=
  x_lt p1 3 (
    (f5_of x p0 p1).bind fun v2 =>
    some v2) (
    x_eq p1 3 (
      (f5_of x p0 2).bind fun v4 =>
      x_eq v4 1 (
        (f5_of x p0 3).bind fun v6 =>
        some v6) (
        some (-1))) (
      (f5_of x p0 2).bind fun v7 =>
      x_eq v7 0 (
        some (-1)) (
        (f5_placeIn x p0).bind fun v9 =>
        some v9)))
def f5_parcel (x : ModS) (p0 : Int) (p1 : Int) : Option (Int × ModS) :=
  (x_ld 730 (g5_now x) 1).bind fun v1 =>
  (f5_in p0 0 (v1 - 1)).bind fun v2 =>
  x_eq v2 0 (
    some (0, s5_thr x 1)) (
    (f5_in p1 0 4).bind fun v5 =>
    x_eq v5 0 (
      some (0, s5_thr x 2)) (
      (f5_parcelBy (s5_thr x 0) p0 p1).bind fun v9 =>
      some (v9, s5_thr x 0)))
def f5_runBy (x : ModS) (p0 : Int) (p1 : Int) : Option (Int) :=
  x_eq p1 0 (
    (f5_manyOf x p0).bind fun v2 =>
    some v2) (
  x_eq p1 1 (
    (f5_weightOf x p0).bind fun v4 =>
    some v4) (
  x_eq p1 2 (
    (f5_placeOf x p0).bind fun v6 =>
    (x_ld 730 (g5_now x) ((10 + (2 * v6)) + 1)).bind fun v7 =>
    some v7) (
  x_eq p1 3 (
    (f5_firstOf x p0).bind fun v9 =>
    (f5_of x v9 0).bind fun v10 =>
    some v10) (
  x_eq p1 4 (
    (f5_lastOf x p0).bind fun v12 =>
    (f5_of x v12 0).bind fun v13 =>
    some v13) (
    (x_ld 730 (g5_now x) 6).bind fun v14 =>
    x_eq v14 p0 (
      some 1) (
      some 0))))))
def f5_run (x : ModS) (p0 : Int) (p1 : Int) : Option (Int × ModS) :=
  (f5_placeOf x p0).bind fun v1 =>
  x_eq v1 (-1) (
    some (0, s5_thr x 1)) (
    (f5_in p1 0 5).bind fun v4 =>
    x_eq v4 0 (
      some (0, s5_thr x 2)) (
      (f5_runBy (s5_thr x 0) p0 p1).bind fun v8 =>
      some (v8, s5_thr x 0)))
def f5_inRun_L39 (k1 : Int) (k2 : Int) : Nat → Int → ModS → Option (Int × ModS)
  | 0, _, _ => none
  | n141 + 1, l3, x140 =>
      (x_ld 730 (g5_now x140) 1).bind fun v142 =>
      x_lt l3 v142 (
        x_eq (g5_thr x140) 0 (
          (f5_isOf x140 l3 k1).bind fun v145 =>
          x_eq v145 0 (
            f5_inRun_L39 k1 k2 n141 (l3 + 1) x140) (
            (f5_placeIn x140 l3).bind fun v147 =>
            x_eq v147 k2 (
              some (l3, x140)) (
              f5_inRun_L39 k1 k2 n141 (l3 + 1) x140))) (
          some (0, x140))) (
        some (0, x140))
def f5_inRun (x : ModS) (p0 : Int) (p1 : Int) : Option (Int × ModS) :=
  (f5_placeOf x p0).bind fun v1 =>
  x_eq v1 (-1) (
    f5_inRun_L39 p0 p1 xFU 0 (s5_thr x 1)) (
    (f5_manyOf x p0).bind fun v3 =>
    (f5_in p1 0 (v3 - 1)).bind fun v4 =>
    x_eq v4 0 (
      f5_inRun_L39 p0 p1 xFU 0 (s5_thr x 2)) (
      f5_inRun_L39 p0 p1 xFU 0 (s5_thr x 0)))
def f5_ashore_L26 (k1 : Int) : Nat → Int → ModS → Option (Int × ModS)
  | 0, _, _ => none
  | n128 + 1, l2, x127 =>
      (x_ld 730 (g5_now x127) 1).bind fun v129 =>
      x_lt l2 v129 (
        x_eq (g5_thr x127) 0 (
          (f5_of x127 l2 2).bind fun v132 =>
          x_eq v132 2 (
            (f5_placeIn x127 l2).bind fun v134 =>
            x_eq v134 k1 (
              some (l2, x127)) (
              f5_ashore_L26 k1 n128 (l2 + 1) x127)) (
            f5_ashore_L26 k1 n128 (l2 + 1) x127)) (
          some (0, x127))) (
        some (0, x127))
def f5_ashore (x : ModS) (p0 : Int) : Option (Int × ModS) :=
  (f5_many x 2).bind fun v1 =>
  (f5_in p0 0 (v1 - 1)).bind fun v2 =>
  x_eq v2 0 (
    f5_ashore_L26 p0 xFU 0 (s5_thr x 1)) (
    f5_ashore_L26 p0 xFU 0 (s5_thr x 0))
def f5_runAt (x : ModS) (p0 : Int) : Option (Int × ModS) :=
  (x_ld 730 (g5_now x) 8).bind fun v1 =>
  (f5_in p0 0 (v1 - 1)).bind fun v2 =>
  x_eq v2 0 (
    some (0, s5_thr x 1)) (
    (f5_numberAt (s5_thr x 0) p0).bind fun v6 =>
    some (v6, s5_thr x 0))
def f5_valueBy (x : ModS) (p0 : Int) : Option (Int) :=
  x_eq p0 0 (
    (x_ld 730 (g5_now x) 0).bind fun v2 =>
    some v2) (
  x_eq p0 1 (
    (f5_many x 0).bind fun v4 =>
    some v4) (
  x_eq p0 2 (
    (x_ld 730 (g5_now x) 1).bind fun v6 =>
    some v6) (
  x_eq p0 3 (
    (x_ld 730 (g5_now x) 8).bind fun v8 =>
    some v8) (
  x_eq p0 4 (
    (f5_many x 1).bind fun v10 =>
    some v10) (
  x_eq p0 5 (
    (f5_many x 2).bind fun v12 =>
    some v12) (
  x_eq p0 6 (
    (x_ld 730 (g5_now x) 2).bind fun v14 =>
    some v14) (
  x_eq p0 7 (
    (x_ld 730 (g5_now x) 3).bind fun v16 =>
    some v16) (
  x_eq p0 8 (
    (x_ld 730 (g5_now x) 4).bind fun v18 =>
    some v18) (
  x_eq p0 9 (
    (x_ld 730 (g5_now x) 5).bind fun v20 =>
    some v20) (
  x_eq p0 10 (
    (x_ld 730 (g5_now x) 6).bind fun v22 =>
    some v22) (
    (x_ld 730 (g5_now x) 7).bind fun v23 =>
    some v23)))))))))))
def f5_value (x : ModS) (p0 : Int) : Option (Int × ModS) :=
  (f5_in p0 0 11).bind fun v1 =>
  x_eq v1 0 (
    some (0, s5_thr x 1)) (
    (f5_valueBy (s5_thr x 0) p0).bind fun v5 =>
    some (v5, s5_thr x 0))
def f5_thrownNext (x : ModS) : Option (Int) :=
  (f5_fitting x).bind fun v1 =>
  x_eq v1 (-1) (
    (f5_leastInBoat x (-1)).bind fun v3 =>
    some v3) (
    some v1)
def f5_nextThrown (x : ModS) : Option (Int × ModS) :=
  (f5_thrownNext (s5_thr x 0)).bind fun v1 =>
  some (v1, s5_thr x 0)
def f5_runsIfEmptied_L46 (v7 : Int) : Nat → Int → ModS → Option (Int × ModS)
  | 0, _, _ => none
  | n9 + 1, l2, x8 =>
      x_lt l2 730 (
        (x_ld 730 (g5_put x8) l2).bind fun v11 =>
        (x_st 730 (g5_now x8) l2 v11).bind fun g12 =>
        f5_runsIfEmptied_L46 v7 n9 (l2 + 1) (s5_now x8 g12)) (
        some (v7, x8))
def f5_runsIfEmptied_L7  : Nat → Int → ModS → Option (Int × ModS)
  | 0, _, _ => none
  | n2 + 1, l1, x1 =>
      x_lt l1 730 (
        (x_ld 730 (g5_now x1) l1).bind fun v4 =>
        (x_st 730 (g5_put x1) l1 v4).bind fun g5 =>
        f5_runsIfEmptied_L7  n2 (l1 + 1) (s5_put x1 g5)) (
        (f5_emptyAll x1).bind fun x6 =>
        (x_ld 730 (g5_now x6) 8).bind fun v7 =>
        f5_runsIfEmptied_L46 v7 xFU 0 x6)
def f5_runsIfEmptied (x : ModS) : Option (Int × ModS) :=
  f5_runsIfEmptied_L7  xFU 0 (s5_thr x 0)
def f5_lightestLeft_L4 (x : ModS) (p0 : Int) : Nat → Int → Int → Option (Int)
  | 0, _, _ => none
  | n1 + 1, l2, l3 =>
      (x_ld 730 (g5_now x) 8).bind fun v2 =>
      x_lt l3 v2 (
        x_eq l3 p0 (
          f5_lightestLeft_L4 x p0 n1 l2 (l3 + 1)) (
          (x_ld 120 (g5_lef x) l3).bind fun v5 =>
          x_eq v5 (-1) (
            f5_lightestLeft_L4 x p0 n1 l2 (l3 + 1)) (
            x_eq l2 (-1) (
              f5_lightestLeft_L4 x p0 n1 l3 (l3 + 1)) (
              (x_ld 120 (g5_lef x) l3).bind fun v8 =>
              (x_ld 120 (g5_lef x) l2).bind fun v9 =>
              x_lt v8 v9 (
                f5_lightestLeft_L4 x p0 n1 l3 (l3 + 1)) (
                f5_lightestLeft_L4 x p0 n1 l2 (l3 + 1)))))) (
        some l2)
def f5_lightestLeft (x : ModS) (p0 : Int) : Option (Int) :=
  f5_lightestLeft_L4 x p0 xFU (-1) 0
def f5_costOfAll_L44  : Nat → Int → Int → ModS → Option (Int × ModS)
  | 0, _, _, _ => none
  | n10 + 1, l1x, l2, x9 =>
      x_lt 1 l2 (
        (f5_lightestLeft x9 (-1)).bind fun v12 =>
        (f5_lightestLeft x9 v12).bind fun v13 =>
        x_lt v12 v13 (
          (x_ld 120 (g5_lef x9) v12).bind fun v15 =>
          (x_ld 120 (g5_lef x9) v13).bind fun v16 =>
          (x_st 120 (g5_lef x9) v12 (-1)).bind fun g17 =>
          (x_st 120 g17 v13 (-1)).bind fun g18 =>
          (x_st 120 g18 v12 (v15 + v16)).bind fun g19 =>
          f5_costOfAll_L44  n10 (l1x + (v15 + v16)) (l2 + (-1)) (s5_lef (s5_lef (s5_lef x9 g17) g18) g19)) (
          (x_ld 120 (g5_lef x9) v12).bind fun v20 =>
          (x_ld 120 (g5_lef x9) v13).bind fun v21 =>
          (x_st 120 (g5_lef x9) v12 (-1)).bind fun g22 =>
          (x_st 120 g22 v13 (-1)).bind fun g23 =>
          (x_st 120 g23 v13 (v20 + v21)).bind fun g24 =>
          f5_costOfAll_L44  n10 (l1x + (v20 + v21)) (l2 + (-1)) (s5_lef (s5_lef (s5_lef x9 g22) g23) g24))) (
        some (l1x, x9))
def f5_costOfAll_L2  : Nat → Int → ModS → Option (Int × ModS)
  | 0, _, _ => none
  | n2 + 1, l1, x1 =>
      (x_ld 730 (g5_now x1) 8).bind fun v3 =>
      x_lt l1 v3 (
        (f5_numberAt x1 l1).bind fun v5 =>
        (f5_weightOf x1 v5).bind fun v6 =>
        (x_st 120 (g5_lef x1) l1 v6).bind fun g7 =>
        f5_costOfAll_L2  n2 (l1 + 1) (s5_lef x1 g7)) (
        (x_ld 730 (g5_now x1) 8).bind fun v8 =>
        f5_costOfAll_L44  xFU 0 v8 x1)
def f5_costOfAll (x : ModS) : Option (Int × ModS) :=
  f5_costOfAll_L2  xFU 0 x
def f5_costByWeight (x : ModS) : Option (Int × ModS) :=
  (f5_costOfAll (s5_thr x 0)).bind fun (v2, x1) =>
  some (v2, x1)
def f5_costByNumber_L11 (x : ModS) : Nat → Int → Int → Int → Option (Int × ModS)
  | 0, _, _, _ => none
  | n1 + 1, l1, l2, l3 =>
      (x_ld 730 (g5_now x) 8).bind fun v2 =>
      x_lt l3 v2 (
        (f5_numberAt (s5_thr x 0) l3).bind fun v4 =>
        (f5_weightOf (s5_thr x 0) v4).bind fun v5 =>
        x_lt 0 l3 (
          f5_costByNumber_L11 x n1 (l1 + (l2 + v5)) (l2 + v5) (l3 + 1)) (
          f5_costByNumber_L11 x n1 (l1 + 0) (l2 + v5) (l3 + 1))) (
        some (l1, s5_thr x 0))
def f5_costByNumber (x : ModS) : Option (Int × ModS) :=
  f5_costByNumber_L11 x xFU 0 0 0
def f5_leastAboard_L4 (x : ModS) (p0 : Int) : Nat → Int → Int → Option (Int)
  | 0, _, _ => none
  | n1 + 1, l2, l3 =>
      (x_ld 730 (g5_now x) 1).bind fun v2 =>
      x_lt l3 v2 (
        (x_ld 120 (g5_abo x) l3).bind fun v4 =>
        x_eq v4 0 (
          f5_leastAboard_L4 x p0 n1 l2 (l3 + 1)) (
          x_eq p0 (-1) (
            x_eq l2 (-1) (
              f5_leastAboard_L4 x p0 n1 l3 (l3 + 1)) (
              (f5_isLess x l3 l2).bind fun v10 =>
              x_eq v10 0 (
                f5_leastAboard_L4 x p0 n1 l2 (l3 + 1)) (
                f5_leastAboard_L4 x p0 n1 l3 (l3 + 1)))) (
            (f5_isLess x p0 l3).bind fun v12 =>
            x_eq v12 0 (
              f5_leastAboard_L4 x p0 n1 l2 (l3 + 1)) (
              x_eq l2 (-1) (
                f5_leastAboard_L4 x p0 n1 l3 (l3 + 1)) (
                (f5_isLess x l3 l2).bind fun v17 =>
                x_eq v17 0 (
                  f5_leastAboard_L4 x p0 n1 l2 (l3 + 1)) (
                  f5_leastAboard_L4 x p0 n1 l3 (l3 + 1))))))) (
        some l2)
def f5_leastAboard (x : ModS) (p0 : Int) : Option (Int) :=
  f5_leastAboard_L4 x p0 xFU (-1) 0
def f5_tries (x : ModS) : Option (Int × ModS) :=
  x_eq (g5_lat x) (-1) (
    (f5_leastAboard x (-1)).bind fun v4 =>
    (x_stZ 120 (g5_abo x) v4 0).bind fun g5 =>
    some (1, s5_lat (s5_abo x g5) v4)) (
    (f5_leastAboard x (g5_lat x)).bind fun v6 =>
    x_eq v6 (-1) (
      x_eq v6 (-1) (
        (f5_leastAboard x (-1)).bind fun v9 =>
        (x_stZ 120 (g5_abo x) v9 0).bind fun g10 =>
        some (1, s5_lat (s5_abo x g10) v9)) (
        (x_stZ 120 (g5_abo x) v6 0).bind fun g11 =>
        some (1, s5_lat (s5_abo x g11) v6))) (
      x_eq v6 (-1) (
        (f5_leastAboard x (-1)).bind fun v13 =>
        (x_stZ 120 (g5_abo x) v13 0).bind fun g14 =>
        some (0, s5_lat (s5_abo x g14) v13)) (
        (x_stZ 120 (g5_abo x) v6 0).bind fun g15 =>
        some (0, s5_lat (s5_abo x g15) v6))))
def f5_runsBy_L79 (l3 : Int) : Nat → Int → Int → ModS → Option (Int × ModS)
  | 0, _, _, _ => none
  | n16 + 1, l2xx, l4x, x15 =>
      x_lt l4x l3 (
        (f5_tries x15).bind fun (v19, x18) =>
        f5_runsBy_L79 l3 n16 (l2xx + v19) (l4x + 1) x18) (
        some (l2xx, x15))
def f5_runsBy_L33 (p0 : Int) : Nat → Int → Int → Int → ModS → Option (Int × ModS)
  | 0, _, _, _, _ => none
  | n6 + 1, l2x, l3, l4, x5 =>
      (x_ld 730 (g5_now x5) 1).bind fun v7 =>
      x_lt l4 v7 (
        x_eq l3 p0 (
          (f5_tries x5).bind fun (v11, x10) =>
          (x_stZ 120 (g5_abo x10) l4 1).bind fun g13 =>
          f5_runsBy_L33 p0 n6 (l2x + v11) ((l3 + (-1)) + 1) (l4 + 1) (s5_abo x10 g13)) (
          (x_stZ 120 (g5_abo x5) l4 1).bind fun g14 =>
          f5_runsBy_L33 p0 n6 l2x (l3 + 1) (l4 + 1) (s5_abo x5 g14))) (
        f5_runsBy_L79 l3 xFU l2x 0 x5)
def f5_runsBy_L2 (p0 : Int) : Nat → Int → ModS → Option (Int × ModS)
  | 0, _, _ => none
  | n2 + 1, l2, x1 =>
      x_lt l2 120 (
        (x_stZ 120 (g5_abo x1) l2 0).bind fun g4 =>
        f5_runsBy_L2 p0 n2 (l2 + 1) (s5_abo x1 g4)) (
        f5_runsBy_L33 p0 xFU 0 0 0 (s5_lat x1 (-1)))
def f5_runsBy (x : ModS) (p0 : Int) : Option (Int × ModS) :=
  f5_runsBy_L2 p0 xFU 0 x
def f5_runsWith (x : ModS) (p0 : Int) : Option (Int × ModS) :=
  (f5_in p0 1 120).bind fun v1 =>
  x_eq v1 0 (
    some (0, s5_thr x 1)) (
    (f5_runsBy (s5_thr x 0) p0).bind fun (v6, x5) =>
    some (v6, x5))
def f5_leastRoom_L7  : Nat → Int → ModS → Option (Int × ModS)
  | 0, _, _ => none
  | n2 + 1, l1, x1 =>
      (f5_runsBy x1 l1).bind fun (v4, x3) =>
      x_lt 1 v4 (
        f5_leastRoom_L7  n2 (l1 + 1) x3) (
        some (l1, x3))
def f5_leastRoom (x : ModS) : Option (Int × ModS) :=
  f5_leastRoom_L7  xFU 1 (s5_thr x 0)
def f5_inversions_L23 (x : ModS) (l2 : Int) (kk : Int → Int → Option (Int × ModS)) : Nat → Int → Int → Option (Int × ModS)
  | 0, _, _ => none
  | n4 + 1, l1x, l3 =>
      (x_ld 730 (g5_now x) 1).bind fun v5 =>
      x_lt l3 v5 (
        (f5_of (s5_thr x 0) l2 0).bind fun v7 =>
        (f5_of (s5_thr x 0) l3 0).bind fun v8 =>
        x_lt v8 v7 (
          f5_inversions_L23 x l2 kk n4 (l1x + 1) (l3 + 1)) (
          f5_inversions_L23 x l2 kk n4 (l1x + 0) (l3 + 1))) (
        kk l1x (l2 + 1))
def f5_inversions_L9 (x : ModS) : Nat → Int → Int → Option (Int × ModS)
  | 0, _, _ => none
  | n1 + 1, l1, l2 =>
      (x_ld 730 (g5_now x) 1).bind fun v2 =>
      x_lt l2 v2 (
        f5_inversions_L23 x l2 (f5_inversions_L9 x n1) xFU l1 (l2 + 1)) (
        some (l1, s5_thr x 0))
def f5_inversions (x : ModS) : Option (Int × ModS) :=
  f5_inversions_L9 x xFU 0 0
def f5_append (x : ModS) (p0 : Int) : Option (Int × ModS) :=
  (f5_in p0 0 127).bind fun v1 =>
  x_eq v1 0 (
    some (0, s5_thr x 1)) (
    x_eq (g5_typ x) 100 (
      some (0, s5_thr x 2)) (
      (x_st 100 (g5_txt x) (g5_typ x) p0).bind fun g7 =>
      some (g5_typ x + 1, s5_typ (s5_txt (s5_thr x 0) g7) (g5_typ x + 1))))
def f5_clearText (x : ModS) : Option (Int × ModS) :=
  some (g5_typ x, s5_typ (s5_thr x 0) 0)
def f5_look (x : ModS) : Option (Int) :=
  x_lt (g5_pos x) (g5_typ x) (
    (x_ld 100 (g5_txt x) (g5_pos x)).bind fun v2 =>
    some v2) (
    some (-1))
def f5_wrong (x : ModS) (p0 : Int) : Option (ModS) :=
  x_eq (g5_wra x) (-1) (
    some (s5_wra x p0)) (
    some (s5_wra x (g5_wra x)))
def f5_sign (x : ModS) (p0 : Int) : Option (ModS) :=
  (f5_look x).bind fun v1 =>
  x_eq v1 p0 (
    some (s5_pos x (g5_pos x + 1))) (
    (f5_wrong x (g5_pos x)).bind fun x3 =>
    some (s5_pos x3 (g5_pos x3 + 1)))
def f5_number_L9 (x : ModS) (p0 : Int) (p1 : Int) (p2 : Int) : Nat → Int → ModS → Option (Int × ModS)
  | 0, _, _ => none
  | n2 + 1, l5, x1 =>
      (f5_look x1).bind fun v3 =>
      (f5_in v3 48 57).bind fun v4 =>
      x_eq v4 0 (
        x_eq (g5_pos x1) (g5_pos x) (
          (f5_wrong x1 (g5_pos x1)).bind fun x7 =>
          x_eq (g5_wra x7) (-1) (
            (f5_in l5 p1 p2).bind fun v9 =>
            x_eq v9 0 (
              (f5_wrong x7 (g5_pos x)).bind fun x11 =>
              some (l5, x11)) (
              some (l5, x7))) (
            some (l5, x7))) (
          x_eq (g5_wra x1) (-1) (
            (f5_in l5 p1 p2).bind fun v13 =>
            x_eq v13 0 (
              (f5_wrong x1 (g5_pos x)).bind fun x15 =>
              some (l5, x15)) (
              some (l5, x1))) (
            some (l5, x1)))) (
        x_eq (g5_pos x1) (g5_pos x + p0) (
          (f5_wrong x1 (g5_pos x1)).bind fun x17 =>
          x_eq (g5_wra x17) (-1) (
            (f5_look x17).bind fun v19 =>
            f5_number_L9 x p0 p1 p2 n2 (((10 * l5) + v19) - 48) (s5_pos x17 (g5_pos x17 + 1))) (
            f5_number_L9 x p0 p1 p2 n2 0 (s5_pos x17 (g5_pos x17 + 1)))) (
          x_eq (g5_wra x1) (-1) (
            (f5_look x1).bind fun v21 =>
            f5_number_L9 x p0 p1 p2 n2 (((10 * l5) + v21) - 48) (s5_pos x1 (g5_pos x1 + 1))) (
            f5_number_L9 x p0 p1 p2 n2 0 (s5_pos x1 (g5_pos x1 + 1)))))
def f5_number (x : ModS) (p0 : Int) (p1 : Int) (p2 : Int) : Option (Int × ModS) :=
  f5_number_L9 x p0 p1 p2 xFU 0 x
def f5_order (x : ModS) (p0 : Int) : Option (ModS) :=
  (f5_look x).bind fun v1 =>
  (x_st 150 (g5_ors x) (3 * p0) v1).bind fun g2 =>
  x_eq v1 101 (
    (f5_sign (s5_pos (s5_ors x g2) (g5_pos x + 1)) 59).bind fun x4 =>
    some x4) (
  x_eq v1 108 (
    (f5_sign (s5_pos (s5_ors x g2) (g5_pos x + 1)) 59).bind fun x6 =>
    some x6) (
  x_eq v1 109 (
    (f5_number (s5_pos (s5_ors x g2) (g5_pos x + 1)) 3 0 999).bind fun (v9, x8) =>
    (x_st 150 (g5_ors x8) ((3 * p0) + 1) v9).bind fun g11 =>
    (f5_sign (s5_ors x8 g11) 43).bind fun x12 =>
    (f5_number x12 3 0 999).bind fun (v14, x13) =>
    (x_st 150 (g5_ors x13) ((3 * p0) + 2) v14).bind fun g16 =>
    (f5_sign (s5_ors x13 g16) 59).bind fun x17 =>
    some x17) (
  x_eq v1 112 (
    (f5_number (s5_pos (s5_ors x g2) (g5_pos x + 1)) 3 0 999).bind fun (v20, x19) =>
    (x_st 150 (g5_ors x19) ((3 * p0) + 1) v20).bind fun g22 =>
    (f5_sign (s5_ors x19 g22) 44).bind fun x23 =>
    (f5_number x23 2 1 50).bind fun (v25, x24) =>
    (x_st 150 (g5_ors x24) ((3 * p0) + 2) v25).bind fun g27 =>
    (f5_sign (s5_ors x24 g27) 59).bind fun x28 =>
    some x28) (
  x_eq v1 115 (
    (f5_look (s5_pos (s5_ors x g2) (g5_pos x + 1))).bind fun v30 =>
    (f5_in v30 49 57).bind fun v31 =>
    x_eq v31 0 (
      (f5_wrong (s5_pos (s5_ors x g2) (g5_pos x + 1)) (g5_pos x + 1)).bind fun x33 =>
      (f5_look x33).bind fun v34 =>
      (x_st 150 (g5_ors x33) ((3 * p0) + 1) (v34 - 48)).bind fun g35 =>
      (f5_sign (s5_pos (s5_ors x33 g35) (g5_pos x33 + 1)) 59).bind fun x36 =>
      some x36) (
      (f5_look (s5_pos (s5_ors x g2) (g5_pos x + 1))).bind fun v37 =>
      (x_st 150 g2 ((3 * p0) + 1) (v37 - 48)).bind fun g38 =>
      (f5_sign (s5_pos (s5_ors (s5_pos (s5_ors x g2) (g5_pos x + 1)) g38) (g5_pos x + 1 + 1)) 59).bind fun x39 =>
      some x39)) (
    (f5_wrong (s5_pos (s5_ors x g2) (g5_pos x + 1)) (g5_pos x + 1 - 1)).bind fun x40 =>
    (f5_sign x40 59).bind fun x41 =>
    some x41)))))
def f5_isDone (x : ModS) (p0 : Int) : Option (Int × ModS) :=
  (x_ld 150 (g5_ors x) ((3 * p0) + 1)).bind fun v1 =>
  (x_ld 150 (g5_ors x) ((3 * p0) + 2)).bind fun v2 =>
  (x_ld 150 (g5_ors x) (3 * p0)).bind fun v3 =>
  x_eq v3 101 (
    (f5_emptyAll x).bind fun x5 =>
    some (1, x5)) (
  x_eq v3 108 (
    (x_ld 730 (g5_now x) 8).bind fun v7 =>
    x_lt 1 v7 (
      (f5_mergeLight x).bind fun (v10, x9) =>
      x_lt v10 0 (
        some (0, x9)) (
        some (1, x9))) (
      some (0, x))) (
  x_eq v3 112 (
    (x_ld 730 (g5_now x) 1).bind fun v14 =>
    x_eq v14 120 (
      some (0, x)) (
      (f5_loadOne x v1 v2).bind fun (v17, x16) =>
      some (1, x16))) (
  x_eq v3 115 (
    (f5_stormBy x v1).bind fun (v21, x20) =>
    x_lt v21 0 (
      some (0, x20)) (
      some (1, x20))) (
    (f5_whyNoMerge x v1 v2).bind fun v24 =>
    x_eq v24 0 (
      (f5_mergeBoth x v1 v2).bind fun (v27, x26) =>
      x_lt v27 0 (
        some (0, x26)) (
        some (1, x26))) (
      some (0, x))))))
def f5_carryOut_L87 (k1 : Int) : Nat → Int → ModS → Option (Int × ModS)
  | 0, _, _ => none
  | n189 + 1, l2, x188 =>
      x_lt l2 k1 (
        (f5_isDone x188 l2).bind fun (v192, x191) =>
        x_eq v192 0 (
          some (l2, x191)) (
          f5_carryOut_L87 k1 n189 (l2 + 1) x191)) (
        some (l2, x188))
def f5_carryOut_L17  : Nat → Int → ModS → Option (Int × ModS)
  | 0, _, _ => none
  | n2 + 1, l1, x1 =>
      x_lt (g5_pos x1) (g5_typ x1) (
        x_eq (g5_wra x1) (-1) (
          (f5_order x1 l1).bind fun x5 =>
          f5_carryOut_L17  n2 (l1 + 1) x5) (
          x_eq (g5_wra x1) (-1) (
            (f5_save x1).bind fun x7 =>
            f5_carryOut_L87 l1 xFU 0 x7) (
            x_lt (g5_wra x1) (g5_typ x1) (
              some (((-10) - g5_wra x1), x1)) (
              some (((-10) - g5_typ x1), x1))))) (
        x_eq (g5_wra x1) (-1) (
          (f5_save x1).bind fun x10 =>
          f5_carryOut_L87 l1 xFU 0 x10) (
          x_lt (g5_wra x1) (g5_typ x1) (
            some (((-10) - g5_wra x1), x1)) (
            some (((-10) - g5_typ x1), x1))))
def f5_carryOut (x : ModS) : Option (Int × ModS) :=
  f5_carryOut_L17  xFU 0 (s5_wra (s5_pos (s5_thr x 0) 0) (-1))
def f5_undo_L37  : Nat → Int → ModS → Option (Int × ModS)
  | 0, _, _ => none
  | n5 + 1, l1, x4 =>
      x_lt l1 730 (
        (x_ld 2920 (g5_was x4) ((730 * g5_acts x4) + l1)).bind fun v7 =>
        (x_st 730 (g5_now x4) l1 v7).bind fun g8 =>
        f5_undo_L37  n5 (l1 + 1) (s5_now x4 g8)) (
        some (g5_acts x4, x4))
def f5_undo (x : ModS) : Option (Int × ModS) :=
  x_eq (g5_acts x) 0 (
    some (0, s5_thr x 1)) (
    f5_undo_L37  xFU 0 (s5_acts (s5_thr x 0) (g5_acts x - 1)))
def f5_digest_L57 (x : ModS) (l3x : Int) (kk : Int → Int → Option (Int × ModS)) : Nat → Int → Int → Option (Int × ModS)
  | 0, _, _ => none
  | n7 + 1, l1xx, l4 =>
      x_lt l4 5 (
        (f5_parcelBy (s5_thr x 0) l3x l4).bind fun v9 =>
        x_ck v9 <|
        f5_digest_L57 x l3x kk n7 ((31 * l1xx) + v9) (l4 + 1)) (
        kk l1xx (l3x + 1))
def f5_digest_L119 (x : ModS) (l3xx : Int) (kk : Int → Int → Option (Int × ModS)) : Nat → Int → Int → Option (Int × ModS)
  | 0, _, _ => none
  | n14 + 1, l1xxxx, l4x =>
      x_lt l4x 6 (
        (f5_numberAt (s5_thr x 0) l3xx).bind fun v16 =>
        (f5_runBy (s5_thr x 0) v16 l4x).bind fun v17 =>
        x_ck v17 <|
        f5_digest_L119 x l3xx kk n14 ((31 * l1xxxx) + v17) (l4x + 1)) (
        kk l1xxxx (l3xx + 1))
def f5_digest_L92 (x : ModS) : Nat → Int → Int → Option (Int × ModS)
  | 0, _, _ => none
  | n10 + 1, l1xxx, l3xx =>
      (x_ld 730 (g5_now x) 8).bind fun v11 =>
      x_lt l3xx v11 (
        (f5_numberAt (s5_thr x 0) l3xx).bind fun v13 =>
        x_ck v13 <|
        f5_digest_L119 x l3xx (f5_digest_L92 x n10) xFU ((31 * l1xxx) + v13) 0) (
        (f5_thrownNext (s5_thr x 0)).bind fun v18 =>
        x_ck v18 <|
        (f5_costOfAll (s5_thr x 0)).bind fun (v20, x19) =>
        x_ck v20 <|
        x_ck (g5_acts x19) <|
        some (((31 * ((31 * ((31 * l1xxx) + v18)) + v20)) + g5_acts x19), x19))
def f5_digest_L44 (x : ModS) : Nat → Int → Int → Option (Int × ModS)
  | 0, _, _ => none
  | n4 + 1, l1x, l3x =>
      (x_ld 730 (g5_now x) 1).bind fun v5 =>
      x_lt l3x v5 (
        f5_digest_L57 x l3x (f5_digest_L44 x n4) xFU l1x 0) (
        f5_digest_L92 x xFU l1x 0)
def f5_digest_L17 (x : ModS) : Nat → Int → Int → Option (Int × ModS)
  | 0, _, _ => none
  | n1 + 1, l1, l3 =>
      x_lt l3 12 (
        (f5_valueBy (s5_thr x 0) l3).bind fun v3 =>
        x_ck v3 <|
        f5_digest_L17 x n1 ((31 * l1) + v3) (l3 + 1)) (
        f5_digest_L44 x xFU l1 0)
def f5_digest (x : ModS) : Option (Int × ModS) :=
  x_ck (g5_typ x) <|
  f5_digest_L17 x xFU (114421 + g5_typ x) 0

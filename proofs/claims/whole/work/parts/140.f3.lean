def f3_length (t : TextS) : Option (Int) :=
  (f2_size 100 (g3_byts t)).bind fun v1 =>
  some v1
def f3_write (t : TextS) (p0 : Int) : Option (Int × TextS) :=
  (f2_add 100 (g3_byts t) p0).bind fun r1 =>
  (f2_size 100 r1).bind fun v2 =>
  some (v2, s3_byts t r1)
def f3_wipe (t : TextS) : Option (Int × TextS) :=
  (f2_size 100 (g3_byts t)).bind fun v1 =>
  (f2_clear 100 (g3_byts t)).bind fun r2 =>
  some (v1, s3_byts t r2)
def f3_orders (t : TextS) : Option (Int) :=
  (f2_size 50 (g3_knds t)).bind fun v1 =>
  some v1
def f3_kind (t : TextS) (p0 : Int) : Option (Int) :=
  (f2_get 50 (g3_knds t) p0).bind fun v1 =>
  some v1
def f3_first (t : TextS) (p0 : Int) : Option (Int) :=
  (f2_get 50 (g3_fsts t) p0).bind fun v1 =>
  some v1
def f3_second (t : TextS) (p0 : Int) : Option (Int) :=
  (f2_get 50 (g3_snds t) p0).bind fun v1 =>
  some v1
def f3_here (t : TextS) : Option (Int) :=
  (f2_get 100 (g3_byts t) (g3_pos t)).bind fun v1 =>
  some v1
def f3_isDigitHere (t : TextS) : Option (Int) :=
  (f3_here t).bind fun v1 =>
  x_lt v1 48 (
    some 0) (
    (f3_here t).bind fun v3 =>
    x_lt 57 v3 (
      some 0) (
      some 1))
def f3_readNumber_L22 (t : TextS) (p0 : Int) (p1 : Int) (p2 : Int) : Nat → Int → Int → TextS → Option (Int × TextS)
  | 0, _, _, _ => none
  | n3 + 1, l5, l6, t2 =>
      x_lt l6 p0 (
        (f3_isDigitHere t2).bind fun v5 =>
        x_eq v5 0 (
          x_eq (g3_pos t2) (g3_pos t) (
            some (l5, s3_err t2 (g3_pos t2))) (
            (f3_isDigitHere t2).bind fun v8 =>
            x_eq v8 0 (
              x_lt l5 p1 (
                some (l5, s3_err t2 (g3_pos t))) (
                x_lt p2 l5 (
                  some (l5, s3_err t2 (g3_pos t))) (
                  some (l5, t2)))) (
              some (l5, s3_err t2 (g3_pos t2))))) (
          (f3_here t2).bind fun v12 =>
          f3_readNumber_L22 t p0 p1 p2 n3 (((10 * l5) + v12) - 48) (l6 + 1) (s3_pos t2 (g3_pos t2 + 1)))) (
        x_eq (g3_pos t2) (g3_pos t) (
          some (l5, s3_err t2 (g3_pos t2))) (
          (f3_isDigitHere t2).bind fun v14 =>
          x_eq v14 0 (
            x_lt l5 p1 (
              some (l5, s3_err t2 (g3_pos t))) (
              x_lt p2 l5 (
                some (l5, s3_err t2 (g3_pos t))) (
                some (l5, t2)))) (
            some (l5, s3_err t2 (g3_pos t2)))))
def f3_readNumber (t : TextS) (p0 : Int) (p1 : Int) (p2 : Int) : Option (Int × TextS) :=
  x_eq (g3_err t) (-1) (
    f3_readNumber_L22 t p0 p1 p2 xFU 0 0 t) (
    some (0, t))
def f3_readSign (t : TextS) (p0 : Int) : Option (TextS) :=
  x_eq (g3_err t) (-1) (
    (f3_here t).bind fun v2 =>
    x_eq v2 p0 (
      some (s3_pos t (g3_pos t + 1))) (
      some (s3_err t (g3_pos t)))) (
    some t)
def f3_readForce (t : TextS) : Option (Int × TextS) :=
  (f3_here t).bind fun v1 =>
  x_lt v1 49 (
    some (0, s3_err t (g3_pos t))) (
    x_lt 57 v1 (
      some (0, s3_err t (g3_pos t))) (
      some ((v1 - 48), s3_pos t (g3_pos t + 1))))
def f3_readOrder (t : TextS) : Option (TextS) :=
  (f3_here t).bind fun v1 =>
  x_eq v1 101 (
    (f3_readSign (s3_pos t (g3_pos t + 1)) 59).bind fun t3 =>
    x_eq (g3_err t3) (-1) (
      (f2_add 50 (g3_knds t3) v1).bind fun r5 =>
      (f2_add 50 (g3_fsts t3) 0).bind fun r6 =>
      (f2_add 50 (g3_snds t3) 0).bind fun r7 =>
      some (s3_snds (s3_fsts (s3_knds t3 r5) r6) r7)) (
      some t3)) (
  x_eq v1 108 (
    (f3_readSign (s3_pos t (g3_pos t + 1)) 59).bind fun t9 =>
    x_eq (g3_err t9) (-1) (
      (f2_add 50 (g3_knds t9) v1).bind fun r11 =>
      (f2_add 50 (g3_fsts t9) 0).bind fun r12 =>
      (f2_add 50 (g3_snds t9) 0).bind fun r13 =>
      some (s3_snds (s3_fsts (s3_knds t9 r11) r12) r13)) (
      some t9)) (
  x_eq v1 109 (
    (f3_readNumber (s3_pos t (g3_pos t + 1)) 3 0 999).bind fun (v16, t15) =>
    (f3_readSign t15 43).bind fun t18 =>
    (f3_readNumber t18 3 0 999).bind fun (v20, t19) =>
    (f3_readSign t19 59).bind fun t22 =>
    x_eq (g3_err t22) (-1) (
      (f2_add 50 (g3_knds t22) v1).bind fun r24 =>
      (f2_add 50 (g3_fsts t22) v16).bind fun r25 =>
      (f2_add 50 (g3_snds t22) v20).bind fun r26 =>
      some (s3_snds (s3_fsts (s3_knds t22 r24) r25) r26)) (
      some t22)) (
  x_eq v1 112 (
    (f3_readNumber (s3_pos t (g3_pos t + 1)) 3 0 999).bind fun (v29, t28) =>
    (f3_readSign t28 44).bind fun t31 =>
    (f3_readNumber t31 2 1 50).bind fun (v33, t32) =>
    (f3_readSign t32 59).bind fun t35 =>
    x_eq (g3_err t35) (-1) (
      (f2_add 50 (g3_knds t35) v1).bind fun r37 =>
      (f2_add 50 (g3_fsts t35) v29).bind fun r38 =>
      (f2_add 50 (g3_snds t35) v33).bind fun r39 =>
      some (s3_snds (s3_fsts (s3_knds t35 r37) r38) r39)) (
      some t35)) (
  x_eq v1 115 (
    (f3_readForce (s3_pos t (g3_pos t + 1))).bind fun (v42, t41) =>
    (f3_readSign t41 59).bind fun t44 =>
    x_eq (g3_err t44) (-1) (
      (f2_add 50 (g3_knds t44) v1).bind fun r46 =>
      (f2_add 50 (g3_fsts t44) v42).bind fun r47 =>
      (f2_add 50 (g3_snds t44) 0).bind fun r48 =>
      some (s3_snds (s3_fsts (s3_knds t44 r46) r47) r48)) (
      some t44)) (
    (f3_readSign (s3_err t (g3_pos t)) 59).bind fun t49 =>
    x_eq (g3_err t49) (-1) (
      (f2_add 50 (g3_knds t49) v1).bind fun r51 =>
      (f2_add 50 (g3_fsts t49) 0).bind fun r52 =>
      (f2_add 50 (g3_snds t49) 0).bind fun r53 =>
      some (s3_snds (s3_fsts (s3_knds t49 r51) r52) r53)) (
      some t49))))))
def f3_readOrders_L33  : Nat → Int → TextS → Option (Int × TextS)
  | 0, _, _ => none
  | n5 + 1, l1, t4 =>
      x_lt l1 100 (
        x_eq (g3_err t4) (-1) (
          (f2_size 100 (g3_byts t4)).bind fun v8 =>
          x_lt (g3_pos t4) v8 (
            (f3_readOrder t4).bind fun t10 =>
            f3_readOrders_L33  n5 (l1 + 1) t10) (
            some (g3_err t4, t4))) (
          some (g3_err t4, t4))) (
        some (g3_err t4, t4))
def f3_readOrders (t : TextS) : Option (Int × TextS) :=
  (f2_clear 50 (g3_knds t)).bind fun r1 =>
  (f2_clear 50 (g3_fsts t)).bind fun r2 =>
  (f2_clear 50 (g3_snds t)).bind fun r3 =>
  f3_readOrders_L33  xFU 0 (s3_err (s3_pos (s3_snds (s3_fsts (s3_knds t r1) r2) r3) 0) (-1))

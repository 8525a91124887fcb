def fG_a (xi : Int → Int) (L : Int) (va : Int → Int) (vh : Int → Int) (vf : Int → Int) (vo : Int → Int) (y : BrS) : Option ((Int → Int) × (Int → Int) × (Int → Int) × (Int → Int) × BrS) :=
  (fL_cell xi L 0).bind fun v1 =>
  (x_st 8 vh 1 4).bind fun g2 =>
  (x_st 8 g2 2 (-1)).bind fun g3 =>
  (fL_low v1 3).bind fun v4 =>
  x_lt 0 v4 (
    (fL_low (x_shr v1 4) 12).bind fun v6 =>
    (x_st 8 g3 1 (1 + v6)).bind fun g7 =>
    (x_ld 8 g7 1).bind fun v8 =>
    (f4_begin y v8).bind fun (c11, v9, y10) =>
    x_zr c11 <|
    x_eq v9 0 (
      some (va, g7, vf, vo, y10)) (
      none)) (
    some (va, g3, vf, vo, y))
def fG_b (xi : Int → Int) (L : Int) (va : Int → Int) (vh : Int → Int) (vf : Int → Int) (vo : Int → Int) (y : BrS) : Option (Int × (Int → Int) × (Int → Int) × (Int → Int) × (Int → Int) × BrS) :=
  (fL_areValues va vh vf y).bind fun (v2, y1) =>
  x_eq v2 0 (
    none) (
    (f4_empty y1).bind fun (v4, y5) =>
    x_eq v4 0 (
      (fL_mergeLightest vo y5).bind fun (v9, g7, y8) =>
      x_eq v9 1 (
        some (1, va, vh, vf, g7, y8)) (
        none)) (
      none))
def fG_c_L255 (p7 : Int) (v1 : Int) : Nat → Int → Int → (Int → Int) → (Int → Int) → (Int → Int) → (Int → Int) → BrS → Option (Int × Int × (Int → Int) × (Int → Int) × (Int → Int) × (Int → Int) × BrS)
  | 0, _, _, _, _, _, _, _ => none
  | n36 + 1, l9, l10, g31, g32, g33, g34, y35 =>
      (fL_low (x_shr v1 24) 4).bind fun v37 =>
      x_lt l10 (1 + v37) (
        x_eq l9 0 (
          fG_c_L255 p7 v1 n36 0 (l10 + 1) g31 g32 g33 g34 y35) (
          (fL_isLoaded g31 g32 g33 y35 (x_xor (x_shr v1 (3 * l10)) (x_shl v1 (5 * l10)))).bind fun (v44, g40, g41, g42, y43) =>
          x_eq v44 0 (
            fG_c_L255 p7 v1 n36 0 (l10 + 1) g40 g41 g42 g34 y43) (
            fG_c_L255 p7 v1 n36 1 (l10 + 1) g40 g41 g42 g34 y43))) (
        some (p7, l9, g31, g32, g33, g34, y35))
def fG_c (xi : Int → Int) (L : Int) (va : Int → Int) (vh : Int → Int) (vf : Int → Int) (vo : Int → Int) (y : BrS) (p7 : Int) : Option (Int × Int × (Int → Int) × (Int → Int) × (Int → Int) × (Int → Int) × BrS) :=
  (fL_cell xi L p7).bind fun v1 =>
  (fL_low (x_shr v1 27) 8).bind fun v2 =>
  x_eq v2 0 (
    (fL_low v1 11).bind fun v4 =>
    (fL_isStormy va vh vf y v4).bind fun (v9, g5, g6, g7, y8) =>
    some (p7, v9, g5, g6, g7, vo, y8)) (
  x_eq v2 1 (
    (fL_isMerged va vh vf y v1).bind fun (v15, g11, g12, g13, y14) =>
    some (p7, v15, g11, g12, g13, vo, y14)) (
  x_eq v2 2 (
    (fL_isLanded va vh vf y v1).bind fun (v21, g17, g18, g19, y20) =>
    some (p7, v21, g17, g18, g19, vo, y20)) (
  x_eq v2 3 (
    (fL_low v1 3).bind fun v23 =>
    x_lt 0 v23 (
      some (p7, 1, va, vh, vf, vo, y)) (
      (fL_isEmptied va vh vf y).bind fun (v29, g25, g26, g27, y28) =>
      x_eq v29 0 (
        some (p7, 0, g25, g26, g27, vo, y28)) (
        some (p7, 1, g25, g26, g27, vo, y28)))) (
    fG_c_L255 p7 v1 6 1 0 va vh vf vo y))))
def fG_d (xi : Int → Int) (L : Int) (va : Int → Int) (vh : Int → Int) (vf : Int → Int) (vo : Int → Int) (y : BrS) (p7 : Int) (p9 : Int) : Option (Int × (Int → Int) × (Int → Int) × (Int → Int) × (Int → Int) × BrS) :=
  x_eq p9 0 (
    none) (
    (x_rem p7 4).bind fun v2 =>
    x_eq v2 3 (
      (fL_areParcels va vh y).bind fun (v5, y4) =>
      x_eq v5 0 (
        none) (
        (x_rem p7 2).bind fun v7 =>
        x_eq v7 1 (
          (fL_areRuns va vh vf y4).bind fun (v10, y9) =>
          x_eq v10 0 (
            none) (
            (fL_areValues va vh vf y9).bind fun (v13, y12) =>
            x_eq v13 0 (
              none) (
              some (p7, va, vh, vf, vo, y12)))) (
          (fL_areValues va vh vf y4).bind fun (v16, y15) =>
          x_eq v16 0 (
            none) (
            some (p7, va, vh, vf, vo, y15))))) (
      (x_rem p7 2).bind fun v18 =>
      x_eq v18 1 (
        (fL_areRuns va vh vf y).bind fun (v21, y20) =>
        x_eq v21 0 (
          none) (
          (fL_areValues va vh vf y20).bind fun (v24, y23) =>
          x_eq v24 0 (
            none) (
            some (p7, va, vh, vf, vo, y23)))) (
        (fL_areValues va vh vf y).bind fun (v27, y26) =>
        x_eq v27 0 (
          none) (
          some (p7, va, vh, vf, vo, y26)))))

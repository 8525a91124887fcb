def fL_low (p0 : Int) (p1 : Int) : Option (Int) :=
  (x_rem (x_and p0 2147483647) p1).bind fun v1 =>
  some v1
def fL_pack (p0 : Int) (p1 : Int) (p2 : Int) (p3 : Int) : Option (Int) :=
  some (x_or (x_or (x_or p0 (x_shl p1 10)) (x_shl p2 16)) (x_shl (p3 + 1) 18))
def fL_key (va : Int → Int) (p1 : Int) : Option (Int) :=
  (x_ld 64 va p1).bind fun v1 =>
  some (x_and v1 1023)
def fL_weight (va : Int → Int) (p1 : Int) : Option (Int) :=
  (x_ld 64 va p1).bind fun v1 =>
  some (x_and (x_shr v1 10) 63)
def fL_where (va : Int → Int) (p1 : Int) : Option (Int) :=
  (x_ld 64 va p1).bind fun v1 =>
  some (x_and (x_shr v1 16) 3)
def fL_run (va : Int → Int) (p1 : Int) : Option (Int) :=
  (x_ld 64 va p1).bind fun v1 =>
  some ((x_shr v1 18) - 1)
def fL_goes (va : Int → Int) (p1 : Int) (p2 : Int) (p3 : Int) : Option (Int → Int) :=
  (fL_key va p1).bind fun v1 =>
  (fL_weight va p1).bind fun v2 =>
  (fL_pack v1 v2 p2 p3).bind fun v3 =>
  (x_st 64 va p1 v3).bind fun g4 =>
  some g4
def fL_isLess (va : Int → Int) (p1 : Int) (p2 : Int) : Option (Int) :=
  (fL_key va p1).bind fun v1 =>
  (fL_key va p2).bind fun v2 =>
  x_eq v1 v2 (
    x_lt p1 p2 (
      some 1) (
      some 0)) (
    (fL_key va p1).bind fun v5 =>
    (fL_key va p2).bind fun v6 =>
    x_lt v5 v6 (
      some 1) (
      some 0))
def fL_many_L6 (va : Int → Int) (vh : Int → Int) (p2 : Int) (p3 : Int) : Nat → Int → Int → Option (Int)
  | 0, _, _ => none
  | n1 + 1, l4, l5 =>
      (x_ld 8 vh 0).bind fun v2 =>
      x_lt l5 v2 (
        (fL_where va l5).bind fun v4 =>
        x_eq v4 p2 (
          (fL_run va l5).bind fun v6 =>
          x_eq v6 p3 (
            fL_many_L6 va vh p2 p3 n1 (l4 + 1) (l5 + 1)) (
            fL_many_L6 va vh p2 p3 n1 (l4 + 0) (l5 + 1))) (
          fL_many_L6 va vh p2 p3 n1 (l4 + 0) (l5 + 1))) (
        some l4)
def fL_many (va : Int → Int) (vh : Int → Int) (p2 : Int) (p3 : Int) : Option (Int) :=
  fL_many_L6 va vh p2 p3 xFU 0 0
def fL_weighs_L5 (va : Int → Int) (vh : Int → Int) (p2 : Int) : Nat → Int → Int → Option (Int)
  | 0, _, _ => none
  | n1 + 1, l3, l4 =>
      (x_ld 8 vh 0).bind fun v2 =>
      x_lt l4 v2 (
        (fL_where va l4).bind fun v4 =>
        x_eq v4 1 (
          (fL_run va l4).bind fun v6 =>
          x_eq v6 p2 (
            (fL_weight va l4).bind fun v8 =>
            fL_weighs_L5 va vh p2 n1 (l3 + v8) (l4 + 1)) (
            fL_weighs_L5 va vh p2 n1 (l3 + 0) (l4 + 1))) (
          fL_weighs_L5 va vh p2 n1 (l3 + 0) (l4 + 1))) (
        some l3)
def fL_weighs (va : Int → Int) (vh : Int → Int) (p2 : Int) : Option (Int) :=
  fL_weighs_L5 va vh p2 xFU 0 0
def fL_ranked_L44 (va : Int → Int) (vh : Int → Int) (p2 : Int) (p3 : Int) (p4 : Int) (l5 : Int) (k7 : Int) (kk : Int → Option (Int)) : Nat → Int → Int → Option (Int)
  | 0, _, _ => none
  | n145 + 1, l6, l8 =>
      (x_ld 8 vh 0).bind fun v146 =>
      x_lt l8 v146 (
        x_eq k7 0 (
          x_eq k7 0 (
            kk (l5 + 1)) (
            x_eq l6 p4 (
              some l5) (
              kk (l5 + 1)))) (
          (fL_where va l8).bind fun v151 =>
          x_eq v151 p2 (
            (fL_run va l8).bind fun v153 =>
            x_eq v153 p3 (
              (fL_isLess va l8 l5).bind fun v155 =>
              x_eq v155 0 (
                fL_ranked_L44 va vh p2 p3 p4 l5 k7 kk n145 (l6 + 0) (l8 + 1)) (
                fL_ranked_L44 va vh p2 p3 p4 l5 k7 kk n145 (l6 + 1) (l8 + 1))) (
              fL_ranked_L44 va vh p2 p3 p4 l5 k7 kk n145 (l6 + 0) (l8 + 1))) (
            fL_ranked_L44 va vh p2 p3 p4 l5 k7 kk n145 (l6 + 0) (l8 + 1)))) (
        x_eq k7 0 (
          kk (l5 + 1)) (
          x_eq l6 p4 (
            some l5) (
            kk (l5 + 1))))
def fL_ranked_L3 (va : Int → Int) (vh : Int → Int) (p2 : Int) (p3 : Int) (p4 : Int) : Nat → Int → Option (Int)
  | 0, _ => none
  | n1 + 1, l5 =>
      (x_ld 8 vh 0).bind fun v2 =>
      x_lt l5 v2 (
        (fL_where va l5).bind fun v4 =>
        x_eq v4 p2 (
          (fL_run va l5).bind fun v6 =>
          x_eq v6 p3 (
            fL_ranked_L44 va vh p2 p3 p4 l5 1 (fL_ranked_L3 va vh p2 p3 p4 n1) xFU 0 0) (
            fL_ranked_L44 va vh p2 p3 p4 l5 0 (fL_ranked_L3 va vh p2 p3 p4 n1) xFU 0 0)) (
          fL_ranked_L44 va vh p2 p3 p4 l5 0 (fL_ranked_L3 va vh p2 p3 p4 n1) xFU 0 0)) (
        some (-1))
def fL_ranked (va : Int → Int) (vh : Int → Int) (p2 : Int) (p3 : Int) (p4 : Int) : Option (Int) :=
  fL_ranked_L3 va vh p2 p3 p4 xFU 0
def fL_lastOf (va : Int → Int) (vh : Int → Int) (p2 : Int) : Option (Int) :=
  (fL_many va vh 1 p2).bind fun v1 =>
  (fL_ranked va vh 1 p2 (v1 - 1)).bind fun v2 =>
  some v2
def fL_next_L26 (va : Int → Int) (vh : Int → Int) (v1 : Int) (v7 : Int) : Nat → Int → Option (Int)
  | 0, _ => none
  | n8 + 1, l4 =>
      x_lt l4 v1 (
        (fL_ranked va vh 0 (-1) l4).bind fun v10 =>
        (fL_isLess va v7 v10).bind fun v11 =>
        x_eq v11 0 (
          fL_next_L26 va vh v1 v7 n8 (l4 + 1)) (
          some v10)) (
        x_eq v1 0 (
          some (-1)) (
          (fL_ranked va vh 0 (-1) 0).bind fun v14 =>
          some v14))
def fL_next (va : Int → Int) (vh : Int → Int) : Option (Int) :=
  (fL_many va vh 0 (-1)).bind fun v1 =>
  (x_ld 8 vh 2).bind fun v2 =>
  x_lt v2 0 (
    x_eq v1 0 (
      some (-1)) (
      (fL_ranked va vh 0 (-1) 0).bind fun v5 =>
      some v5)) (
    (x_ld 8 vh 2).bind fun v6 =>
    (fL_lastOf va vh v6).bind fun v7 =>
    fL_next_L26 va vh v1 v7 xFU 0)
def fL_throwsOne (va : Int → Int) (vh : Int → Int) (vf : Int → Int) : Option (Int × (Int → Int) × (Int → Int) × (Int → Int)) :=
  (fL_next va vh).bind fun v1 =>
  (x_ld 8 vh 2).bind fun v2 =>
  x_lt v2 0 (
    (x_ld 8 vh 3).bind fun v4 =>
    (x_st 8 vh 2 v4).bind fun g5 =>
    (x_ld 8 g5 3).bind fun v6 =>
    (x_st 64 vf v6 5).bind fun g7 =>
    (x_ld 8 g5 3).bind fun v8 =>
    (x_st 8 g5 3 (v8 + 1)).bind fun g9 =>
    (x_ld 8 g9 2).bind fun v10 =>
    (fL_goes va v1 1 v10).bind fun g11 =>
    (x_ld 8 g9 2).bind fun v12 =>
    some (v12, g11, g9, g7)) (
    (x_ld 8 vh 2).bind fun v13 =>
    (fL_lastOf va vh v13).bind fun v14 =>
    (fL_isLess va v14 v1).bind fun v15 =>
    x_eq v15 0 (
      (x_ld 8 vh 3).bind fun v17 =>
      (x_st 8 vh 2 v17).bind fun g18 =>
      (x_ld 8 g18 3).bind fun v19 =>
      (x_st 64 vf v19 5).bind fun g20 =>
      (x_ld 8 g18 3).bind fun v21 =>
      (x_st 8 g18 3 (v21 + 1)).bind fun g22 =>
      (x_ld 8 g22 2).bind fun v23 =>
      (fL_goes va v1 1 v23).bind fun g24 =>
      (x_ld 8 g22 2).bind fun v25 =>
      some (v25, g24, g22, g20)) (
      (x_ld 8 vh 2).bind fun v26 =>
      (fL_goes va v1 1 v26).bind fun g27 =>
      (x_ld 8 vh 2).bind fun v28 =>
      some (v28, g27, vh, vf)))
def fL_loads (va : Int → Int) (vh : Int → Int) (vf : Int → Int) (p3 : Int) (p4 : Int) : Option (Int × (Int → Int) × (Int → Int) × (Int → Int)) :=
  (fL_many va vh 0 (-1)).bind fun v1 =>
  (x_ld 8 vh 1).bind fun v2 =>
  x_lt v1 v2 (
    (x_ld 8 vh 0).bind fun v4 =>
    (fL_pack p3 p4 0 (-1)).bind fun v5 =>
    (x_st 64 va v4 v5).bind fun g6 =>
    (x_ld 8 vh 0).bind fun v7 =>
    (x_st 8 vh 0 (v7 + 1)).bind fun g8 =>
    some ((-1), g6, g8, vf)) (
    (fL_throwsOne va vh vf).bind fun (v12, g9, g10, g11) =>
    (x_ld 8 g10 0).bind fun v13 =>
    (fL_pack p3 p4 0 (-1)).bind fun v14 =>
    (x_st 64 g9 v13 v14).bind fun g15 =>
    (x_ld 8 g10 0).bind fun v16 =>
    (x_st 8 g10 0 (v16 + 1)).bind fun g17 =>
    some (v12, g15, g17, g11))
def fL_runs_L4 (vh : Int → Int) (vf : Int → Int) : Nat → Int → Int → Option (Int)
  | 0, _, _ => none
  | n1 + 1, l2, l3 =>
      (x_ld 8 vh 3).bind fun v2 =>
      x_lt l3 v2 (
        (x_ld 64 vf l3).bind fun v4 =>
        x_lt v4 0 (
          fL_runs_L4 vh vf n1 (l2 + 0) (l3 + 1)) (
          fL_runs_L4 vh vf n1 (l2 + 1) (l3 + 1))) (
        some l2)
def fL_runs (vh : Int → Int) (vf : Int → Int) : Option (Int) :=
  fL_runs_L4 vh vf xFU 0 0
def fL_runBy_L5 (vh : Int → Int) (vf : Int → Int) (p2 : Int) : Nat → Int → Int → Option (Int)
  | 0, _, _ => none
  | n1 + 1, l3, l4 =>
      (x_ld 8 vh 3).bind fun v2 =>
      x_lt l4 v2 (
        (x_ld 64 vf l4).bind fun v4 =>
        x_lt v4 0 (
          fL_runBy_L5 vh vf p2 n1 l3 (l4 + 1)) (
          x_eq l3 p2 (
            some l4) (
            fL_runBy_L5 vh vf p2 n1 (l3 + 1) (l4 + 1)))) (
        some (-1))
def fL_runBy (vh : Int → Int) (vf : Int → Int) (p2 : Int) : Option (Int) :=
  fL_runBy_L5 vh vf p2 xFU 0 0
def fL_empties_L8  : Nat → Int → (Int → Int) → (Int → Int) → (Int → Int) → Option ((Int → Int) × (Int → Int) × (Int → Int))
  | 0, _, _, _, _ => none
  | n5 + 1, l3, g2, g3, g4 =>
      x_lt 0 l3 (
        (fL_throwsOne g2 g3 g4).bind fun (v10, g7, g8, g9) =>
        fL_empties_L8  n5 (l3 + (-1)) g7 g8 g9) (
        (x_st 8 g3 2 (-1)).bind fun g11 =>
        some (g2, g11, g4))
def fL_empties (va : Int → Int) (vh : Int → Int) (vf : Int → Int) : Option ((Int → Int) × (Int → Int) × (Int → Int)) :=
  (fL_many va vh 0 (-1)).bind fun v1 =>
  fL_empties_L8  xFU v1 va vh vf
def fL_merges_L42 (p3 : Int) (p4 : Int) (k5 : Int) (k6 : Int) (k7 : Int) : Nat → Int → (Int → Int) → (Int → Int) → (Int → Int) → Option (Int × (Int → Int) × (Int → Int) × (Int → Int))
  | 0, _, _, _, _ => none
  | n146 + 1, l8, g143, g144, g145 =>
      (x_ld 8 g144 0).bind fun v147 =>
      x_lt l8 v147 (
        (fL_where g143 l8).bind fun v149 =>
        x_eq v149 1 (
          (fL_run g143 l8).bind fun v151 =>
          x_eq v151 k6 (
            (fL_goes g143 l8 1 k5).bind fun g153 =>
            fL_merges_L42 p3 p4 k5 k6 k7 n146 (l8 + 1) g153 g144 g145) (
            fL_merges_L42 p3 p4 k5 k6 k7 n146 (l8 + 1) g143 g144 g145)) (
          fL_merges_L42 p3 p4 k5 k6 k7 n146 (l8 + 1) g143 g144 g145)) (
        (x_st 64 g145 k6 (-1)).bind fun g154 =>
        (x_ld 8 g144 2).bind fun v155 =>
        x_eq v155 p3 (
          (x_st 8 g144 2 (-1)).bind fun g157 =>
          (x_ld 8 g157 4).bind fun v158 =>
          (x_st 8 g157 4 (v158 + k7)).bind fun g159 =>
          (x_ld 8 g159 5).bind fun v160 =>
          (x_st 8 g159 5 (v160 + 1)).bind fun g161 =>
          some (k7, g143, g161, g154)) (
          (x_ld 8 g144 2).bind fun v162 =>
          x_eq v162 p4 (
            (x_st 8 g144 2 (-1)).bind fun g164 =>
            (x_ld 8 g164 4).bind fun v165 =>
            (x_st 8 g164 4 (v165 + k7)).bind fun g166 =>
            (x_ld 8 g166 5).bind fun v167 =>
            (x_st 8 g166 5 (v167 + 1)).bind fun g168 =>
            some (k7, g143, g168, g154)) (
            (x_ld 8 g144 2).bind fun v169 =>
            (x_st 8 g144 2 v169).bind fun g170 =>
            (x_ld 8 g170 4).bind fun v171 =>
            (x_st 8 g170 4 (v171 + k7)).bind fun g172 =>
            (x_ld 8 g172 5).bind fun v173 =>
            (x_st 8 g172 5 (v173 + 1)).bind fun g174 =>
            some (k7, g143, g174, g154))))
def fL_merges (va : Int → Int) (vh : Int → Int) (vf : Int → Int) (p3 : Int) (p4 : Int) : Option (Int × (Int → Int) × (Int → Int) × (Int → Int)) :=
  x_lt p3 p4 (
    (fL_weighs va vh p3).bind fun v2 =>
    (fL_weighs va vh p4).bind fun v3 =>
    fL_merges_L42 p3 p4 p3 ((p3 + p4) - p3) (v2 + v3) xFU 0 va vh vf) (
    (fL_weighs va vh p3).bind fun v4 =>
    (fL_weighs va vh p4).bind fun v5 =>
    fL_merges_L42 p3 p4 p4 ((p3 + p4) - p4) (v4 + v5) xFU 0 va vh vf)
def fL_lightest_L6 (va : Int → Int) (vh : Int → Int) (vf : Int → Int) (p3 : Int) : Nat → Int → Int → Option (Int)
  | 0, _, _ => none
  | n1 + 1, l4, l5 =>
      (x_ld 8 vh 3).bind fun v2 =>
      x_lt l5 v2 (
        (x_ld 64 vf l5).bind fun v4 =>
        x_lt v4 0 (
          fL_lightest_L6 va vh vf p3 n1 l4 (l5 + 1)) (
          x_eq l5 p3 (
            fL_lightest_L6 va vh vf p3 n1 l4 (l5 + 1)) (
            x_lt l4 0 (
              fL_lightest_L6 va vh vf p3 n1 l5 (l5 + 1)) (
              (fL_weighs va vh l5).bind fun v8 =>
              (fL_weighs va vh l4).bind fun v9 =>
              x_lt v8 v9 (
                fL_lightest_L6 va vh vf p3 n1 l5 (l5 + 1)) (
                fL_lightest_L6 va vh vf p3 n1 l4 (l5 + 1)))))) (
        some l4)
def fL_lightest (va : Int → Int) (vh : Int → Int) (vf : Int → Int) (p3 : Int) : Option (Int) :=
  fL_lightest_L6 va vh vf p3 xFU (-1) 0
def fL_storms_L68 (l5 : Int) (l6 : Int) (v12 : Int) (kk : Int → Int → (Int → Int) → (Int → Int) → (Int → Int) → Option (Int × (Int → Int) × (Int → Int) × (Int → Int))) : Nat → Int → (Int → Int) → (Int → Int) → (Int → Int) → Option (Int × (Int → Int) × (Int → Int) × (Int → Int))
  | 0, _, _, _, _ => none
  | n19 + 1, l8, g16, g17, g18 =>
      (x_div (v12 + 1) 2).bind fun v20 =>
      x_lt l8 v20 (
        (x_ld 8 g17 3).bind fun v22 =>
        (x_st 8 g17 3 (v22 + 1)).bind fun g23 =>
        kk (l5 + 1) (l6 + 1) g16 g23 g18) (
        (fL_ranked g16 g17 1 l6 l8).bind fun v24 =>
        (x_ld 8 g17 3).bind fun v25 =>
        (fL_goes g16 v24 1 v25).bind fun g26 =>
        fL_storms_L68 l5 l6 v12 kk n19 (l8 + (-1)) g26 g17 g18)
def fL_storms_L119 (v1 : Int) (l5 : Int) : Nat → Int → (Int → Int) → (Int → Int) → (Int → Int) → Option (Int × (Int → Int) × (Int → Int) × (Int → Int))
  | 0, _, _, _, _ => none
  | n31 + 1, l6x, g28, g29, g30 =>
      x_lt l6x v1 (
        (x_ld 64 g30 l6x).bind fun v33 =>
        x_lt 0 v33 (
          (x_ld 64 g30 l6x).bind fun v35 =>
          (x_st 64 g30 l6x (v35 - 1)).bind fun g36 =>
          fL_storms_L119 v1 l5 n31 (l6x + 1) g28 g29 g36) (
          (x_ld 64 g30 l6x).bind fun v37 =>
          (x_st 64 g30 l6x v37).bind fun g38 =>
          fL_storms_L119 v1 l5 n31 (l6x + 1) g28 g29 g38)) (
        (x_st 8 g29 2 (-1)).bind fun g39 =>
        (x_ld 8 g39 6).bind fun v40 =>
        (x_st 8 g39 6 (v40 + 1)).bind fun g41 =>
        (x_ld 8 g41 7).bind fun v42 =>
        (x_st 8 g41 7 (v42 + l5)).bind fun g43 =>
        some (l5, g28, g43, g30))
def fL_storms_L11 (p3 : Int) (v1 : Int) : Nat → Int → Int → (Int → Int) → (Int → Int) → (Int → Int) → Option (Int × (Int → Int) × (Int → Int) × (Int → Int))
  | 0, _, _, _, _, _ => none
  | n5 + 1, l5, l6, g2, g3, g4 =>
      x_lt l6 v1 (
        (x_ld 64 g4 l6).bind fun v7 =>
        x_lt v7 0 (
          fL_storms_L11 p3 v1 n5 l5 (l6 + 1) g2 g3 g4) (
          (x_ld 64 g4 l6).bind fun v10 =>
          x_lt v10 p3 (
            (fL_many g2 g3 1 l6).bind fun v12 =>
            x_lt 1 v12 (
              (x_ld 8 g3 3).bind fun v14 =>
              (x_st 64 g4 v14 5).bind fun g15 =>
              fL_storms_L68 l5 l6 v12 (fL_storms_L11 p3 v1 n5) xFU (v12 - 1) g2 g3 g15) (
              fL_storms_L11 p3 v1 n5 l5 (l6 + 1) g2 g3 g4)) (
            fL_storms_L11 p3 v1 n5 l5 (l6 + 1) g2 g3 g4))) (
        fL_storms_L119 v1 l5 xFU 0 g2 g3 g4)
def fL_storms (va : Int → Int) (vh : Int → Int) (vf : Int → Int) (p3 : Int) : Option (Int × (Int → Int) × (Int → Int) × (Int → Int)) :=
  (x_ld 8 vh 3).bind fun v1 =>
  fL_storms_L11 p3 v1 xFU 0 0 va vh vf

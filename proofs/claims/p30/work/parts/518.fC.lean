def fL_areParcels_L7 (va : Int → Int) (vh : Int → Int) : Nat → Int → (Int → Int) → BrS → Option (Int × BrS)
  | 0, _, _, _ => none
  | n3 + 1, l4, g1, y2 =>
      (x_ld 8 vh 0).bind fun v4 =>
      x_lt l4 v4 (
        (fL_parcel g1 y2 l4 0).bind fun (v8, g6, y7) =>
        x_eq v8 0 (
          (x_ld 1 g6 0).bind fun v10 =>
          (fL_key va l4).bind fun v11 =>
          x_eq v10 v11 (
            (fL_parcel g6 y7 l4 1).bind fun (v15, g13, y14) =>
            x_eq v15 0 (
              (x_ld 1 g13 0).bind fun v17 =>
              (fL_weight va l4).bind fun v18 =>
              x_eq v17 v18 (
                (fL_parcel g13 y14 l4 2).bind fun (v22, g20, y21) =>
                x_eq v22 0 (
                  (x_ld 1 g20 0).bind fun v24 =>
                  (fL_where va l4).bind fun v25 =>
                  x_eq v24 v25 (
                    (fL_parcel g20 y21 l4 3).bind fun (v29, g27, y28) =>
                    x_eq v29 0 (
                      (x_ld 1 g27 0).bind fun v31 =>
                      (fL_run va l4).bind fun v32 =>
                      x_eq v31 v32 (
                        (fL_parcel g27 y28 l4 4).bind fun (v36, g34, y35) =>
                        x_eq v36 0 (
                          (fL_where va l4).bind fun v38 =>
                          x_eq v38 0 (
                            (x_ld 1 g34 0).bind fun v40 =>
                            x_eq v40 (-1) (
                              fL_areParcels_L7 va vh n3 (l4 + 1) g34 y35) (
                              some (0, y35))) (
                            (fL_where va l4).bind fun v42 =>
                            (fL_run va l4).bind fun v43 =>
                            (x_ld 1 g34 0).bind fun v44 =>
                            (fL_ranked va vh v42 v43 v44).bind fun v45 =>
                            x_eq v45 l4 (
                              fL_areParcels_L7 va vh n3 (l4 + 1) g34 y35) (
                              some (0, y35)))) (
                          some (0, y35))) (
                        some (0, y28))) (
                      some (0, y28))) (
                    some (0, y21))) (
                  some (0, y21))) (
                some (0, y14))) (
              some (0, y14))) (
            some (0, y7))) (
          some (0, y7))) (
        (x_ld 8 vh 0).bind fun v47 =>
        (fL_parcel g1 y2 v47 0).bind fun (v50, g48, y49) =>
        x_eq v50 1 (
          (fL_parcel g48 y49 (-1) 5).bind fun (v54, g52, y53) =>
          x_eq v54 1 (
            (x_ld 8 vh 0).bind fun v56 =>
            x_eq v56 0 (
              some (1, y53)) (
              (fL_parcel g52 y53 0 5).bind fun (v60, g58, y59) =>
              x_eq v60 2 (
                some (1, y59)) (
                some (0, y59)))) (
            some (0, y53))) (
          some (0, y49)))
def fL_areParcels (va : Int → Int) (vh : Int → Int) (y : BrS) : Option (Int × BrS) :=
  fL_areParcels_L7 va vh 70 0 (fun _ => 0) y
def fL_areRuns_L178 (va : Int → Int) (vh : Int → Int) (l6 : Int) (v6 : Int) (v7 : Int) (kk : Int → (Int → Int) → BrS → Option (Int × BrS)) : Nat → Int → (Int → Int) → BrS → Option (Int × BrS)
  | 0, _, _, _ => none
  | n281 + 1, l9, g279, y280 =>
      x_lt l9 v7 (
        (fL_inRun g279 y280 v6 l9).bind fun (v285, g283, y284) =>
        x_eq v285 0 (
          (x_ld 1 g283 0).bind fun v287 =>
          (fL_ranked va vh 1 v6 l9).bind fun v288 =>
          x_eq v287 v288 (
            fL_areRuns_L178 va vh l6 v6 v7 kk n281 (l9 + 1) g283 y284) (
            some (0, y284))) (
          some (0, y284))) (
        (fL_inRun g279 y280 v6 v7).bind fun (v292, g290, y291) =>
        x_eq v292 2 (
          kk (l6 + 1) g290 y291) (
          some (0, y291)))
def fL_areRuns_L15 (va : Int → Int) (vh : Int → Int) (vf : Int → Int) (v1 : Int) : Nat → Int → (Int → Int) → BrS → Option (Int × BrS)
  | 0, _, _, _ => none
  | n4 + 1, l6, g2, y3 =>
      x_lt l6 v1 (
        (fL_runBy vh vf l6).bind fun v6 =>
        (fL_many va vh 1 v6).bind fun v7 =>
        (fL_runAt g2 y3 l6).bind fun (v10, g8, y9) =>
        x_eq v10 0 (
          (x_ld 1 g8 0).bind fun v12 =>
          x_eq v12 v6 (
            (f4_run y9 v6 0).bind fun (c16, v14, y15) =>
            x_zr c16 <|
            x_eq v14 v7 (
              (f4_run y15 v6 1).bind fun (c20, v18, y19) =>
              x_zr c20 <|
              (fL_weighs va vh v6).bind fun v21 =>
              x_eq v18 v21 (
                (f4_run y19 v6 2).bind fun (c25, v23, y24) =>
                x_zr c25 <|
                (x_ld 64 vf v6).bind fun v26 =>
                x_eq v23 v26 (
                  (f4_run y24 v6 3).bind fun (c30, v28, y29) =>
                  x_zr c30 <|
                  (fL_ranked va vh 1 v6 0).bind fun v31 =>
                  (fL_key va v31).bind fun v32 =>
                  x_eq v28 v32 (
                    (f4_run y29 v6 4).bind fun (c36, v34, y35) =>
                    x_zr c36 <|
                    (fL_lastOf va vh v6).bind fun v37 =>
                    (fL_key va v37).bind fun v38 =>
                    x_eq v34 v38 (
                      (f4_run y35 v6 5).bind fun (c42, v40, y41) =>
                      x_zr c42 <|
                      (x_ld 8 vh 2).bind fun v43 =>
                      x_eq v43 v6 (
                        x_eq v40 1 (
                          fL_areRuns_L178 va vh l6 v6 v7 (fL_areRuns_L15 va vh vf v1 n4) 70 0 g8 y41) (
                          some (0, y41))) (
                        x_eq v40 0 (
                          fL_areRuns_L178 va vh l6 v6 v7 (fL_areRuns_L15 va vh vf v1 n4) 70 0 g8 y41) (
                          some (0, y41)))) (
                      some (0, y35))) (
                    some (0, y29))) (
                  some (0, y24))) (
                some (0, y19))) (
              some (0, y15))) (
            some (0, y9))) (
          some (0, y9))) (
        (fL_runAt g2 y3 v1).bind fun (v49, g47, y48) =>
        x_eq v49 1 (
          (fL_runAt g47 y48 (-1)).bind fun (v53, g51, y52) =>
          x_eq v53 1 (
            (x_ld 8 vh 3).bind fun v55 =>
            (fL_inRun g51 y52 v55 0).bind fun (v58, g56, y57) =>
            x_eq v58 1 (
              some (1, y57)) (
              some (0, y57))) (
            some (0, y52))) (
          some (0, y48)))
def fL_areRuns (va : Int → Int) (vh : Int → Int) (vf : Int → Int) (y : BrS) : Option (Int × BrS) :=
  (fL_runs vh vf).bind fun v1 =>
  fL_areRuns_L15 va vh vf v1 70 0 (fun _ => 0) y
def fL_areValues_L26 (va : Int → Int) (vh : Int → Int) (vf : Int → Int) (v1 : Int) (v2 : Int) : Nat → Int → (Int → Int) → BrS → Option (Int × BrS)
  | 0, _, _, _ => none
  | n5 + 1, l7, g3, y4 =>
      x_lt l7 v2 (
        (fL_ashore g3 y4 l7).bind fun (v9, g7, y8) =>
        x_eq v9 0 (
          (x_ld 1 g7 0).bind fun v11 =>
          (fL_ranked va vh 2 (-1) l7).bind fun v12 =>
          x_eq v11 v12 (
            fL_areValues_L26 va vh vf v1 v2 n5 (l7 + 1) g7 y8) (
            some (0, y8))) (
          some (0, y8))) (
        (fL_ashore g3 y4 v2).bind fun (v16, g14, y15) =>
        x_eq v16 1 (
          (f4_value y15 0).bind fun (c20, v18, y19) =>
          x_zr c20 <|
          (x_ld 8 vh 1).bind fun v21 =>
          x_eq v18 v21 (
            (f4_value y19 1).bind fun (c25, v23, y24) =>
            x_zr c25 <|
            x_eq v23 v1 (
              (f4_value y24 2).bind fun (c29, v27, y28) =>
              x_zr c29 <|
              (x_ld 8 vh 0).bind fun v30 =>
              x_eq v27 v30 (
                (f4_value y28 3).bind fun (c34, v32, y33) =>
                x_zr c34 <|
                (fL_runs vh vf).bind fun v35 =>
                x_eq v32 v35 (
                  (f4_value y33 4).bind fun (c39, v37, y38) =>
                  x_zr c39 <|
                  (x_ld 8 vh 0).bind fun v40 =>
                  x_eq v37 ((v40 - v1) - v2) (
                    (f4_value y38 5).bind fun (c45, v43, y44) =>
                    x_zr c45 <|
                    x_eq v43 v2 (
                      (f4_value y44 6).bind fun (c49, v47, y48) =>
                      x_zr c49 <|
                      (x_ld 8 vh 4).bind fun v50 =>
                      x_eq v47 v50 (
                        (f4_value y48 7).bind fun (c54, v52, y53) =>
                        x_zr c54 <|
                        (x_ld 8 vh 5).bind fun v55 =>
                        x_eq v52 v55 (
                          (f4_value y53 8).bind fun (c59, v57, y58) =>
                          x_zr c59 <|
                          (x_ld 8 vh 6).bind fun v60 =>
                          x_eq v57 v60 (
                            (f4_value y58 9).bind fun (c64, v62, y63) =>
                            x_zr c64 <|
                            (x_ld 8 vh 7).bind fun v65 =>
                            x_eq v62 v65 (
                              (f4_value y63 10).bind fun (c69, v67, y68) =>
                              x_zr c69 <|
                              (x_ld 8 vh 2).bind fun v70 =>
                              x_eq v67 v70 (
                                (f4_value y68 11).bind fun (c74, v72, y73) =>
                                x_zr c74 <|
                                (x_ld 8 vh 3).bind fun v75 =>
                                x_eq v72 v75 (
                                  (f4_nextThrown y73).bind fun v78 =>
                                  (fL_next va vh).bind fun v79 =>
                                  x_eq v78 v79 (
                                    some (1, y73)) (
                                    some (0, y73))) (
                                  some (0, y73))) (
                                some (0, y68))) (
                              some (0, y63))) (
                            some (0, y58))) (
                          some (0, y53))) (
                        some (0, y48))) (
                      some (0, y44))) (
                    some (0, y38))) (
                  some (0, y33))) (
                some (0, y28))) (
              some (0, y24))) (
            some (0, y19))) (
          some (0, y15)))
def fL_areValues (va : Int → Int) (vh : Int → Int) (vf : Int → Int) (y : BrS) : Option (Int × BrS) :=
  (fL_many va vh 0 (-1)).bind fun v1 =>
  (fL_many va vh 2 (-1)).bind fun v2 =>
  fL_areValues_L26 va vh vf v1 v2 70 0 (fun _ => 0) y
def fL_isLoaded (va : Int → Int) (vh : Int → Int) (vf : Int → Int) (y : BrS) (p4 : Int) : Option (Int × (Int → Int) × (Int → Int) × (Int → Int) × BrS) :=
  (fL_low (x_shr p4 20) 2).bind fun v1 =>
  x_eq v1 0 (
    (fL_low p4 8).bind fun v3 =>
    (fL_low (x_shr p4 10) 50).bind fun v4 =>
    (x_ld 8 vh 0).bind fun v5 =>
    x_lt 59 v5 (
      (fL_load (fun _ => 0) y 1000 (1 + v4)).bind fun (v9, g7, y8) =>
      x_eq v9 1 (
        some (1, va, vh, vf, y8)) (
        some (0, va, vh, vf, y8))) (
      (x_ld 8 vh 3).bind fun v11 =>
      x_lt 60 v11 (
        (fL_load (fun _ => 0) y 1000 (1 + v4)).bind fun (v15, g13, y14) =>
        x_eq v15 1 (
          some (1, va, vh, vf, y14)) (
          some (0, va, vh, vf, y14))) (
        (fL_load (fun _ => 0) y v3 51).bind fun (v19, g17, y18) =>
        x_eq v19 1 (
          (fL_load g17 y18 (-1) (1 + v4)).bind fun (v23, g21, y22) =>
          x_eq v23 1 (
            (fL_load g21 y22 v3 (1 + v4)).bind fun (v27, g25, y26) =>
            x_eq v27 0 (
              (x_ld 1 g25 0).bind fun v29 =>
              (fL_loads va vh vf v3 (1 + v4)).bind fun (v33, g30, g31, g32) =>
              x_eq v29 v33 (
                some (1, g30, g31, g32, y26)) (
                some (0, g30, g31, g32, y26))) (
              some (0, va, vh, vf, y26))) (
            some (0, va, vh, vf, y22))) (
          some (0, va, vh, vf, y18))))) (
    (fL_low p4 1000).bind fun v35 =>
    (fL_low (x_shr p4 10) 50).bind fun v36 =>
    (x_ld 8 vh 0).bind fun v37 =>
    x_lt 59 v37 (
      (fL_load (fun _ => 0) y 1000 (1 + v36)).bind fun (v41, g39, y40) =>
      x_eq v41 1 (
        some (1, va, vh, vf, y40)) (
        some (0, va, vh, vf, y40))) (
      (x_ld 8 vh 3).bind fun v43 =>
      x_lt 60 v43 (
        (fL_load (fun _ => 0) y 1000 (1 + v36)).bind fun (v47, g45, y46) =>
        x_eq v47 1 (
          some (1, va, vh, vf, y46)) (
          some (0, va, vh, vf, y46))) (
        (fL_load (fun _ => 0) y v35 51).bind fun (v51, g49, y50) =>
        x_eq v51 1 (
          (fL_load g49 y50 (-1) (1 + v36)).bind fun (v55, g53, y54) =>
          x_eq v55 1 (
            (fL_load g53 y54 v35 (1 + v36)).bind fun (v59, g57, y58) =>
            x_eq v59 0 (
              (x_ld 1 g57 0).bind fun v61 =>
              (fL_loads va vh vf v35 (1 + v36)).bind fun (v65, g62, g63, g64) =>
              x_eq v61 v65 (
                some (1, g62, g63, g64, y58)) (
                some (0, g62, g63, g64, y58))) (
              some (0, va, vh, vf, y58))) (
            some (0, va, vh, vf, y54))) (
          some (0, va, vh, vf, y50)))))
def fL_isStormy (va : Int → Int) (vh : Int → Int) (vf : Int → Int) (y : BrS) (p4 : Int) : Option (Int × (Int → Int) × (Int → Int) × (Int → Int) × BrS) :=
  x_lt p4 1 (
    x_lt 0 p4 (
      x_lt p4 10 (
        (fL_storm (fun _ => 0) y 10).bind fun (v6, g4, y5) =>
        x_eq v6 1 (
          some (1, va, vh, vf, y5)) (
          some (0, va, vh, vf, y5))) (
        (fL_storm (fun _ => 0) y p4).bind fun (v10, g8, y9) =>
        x_eq v10 1 (
          some (1, va, vh, vf, y9)) (
          some (0, va, vh, vf, y9)))) (
      (fL_storm (fun _ => 0) y p4).bind fun (v14, g12, y13) =>
      x_eq v14 1 (
        some (1, va, vh, vf, y13)) (
        some (0, va, vh, vf, y13)))) (
    x_lt 9 p4 (
      x_lt 0 p4 (
        x_lt p4 10 (
          (fL_storm (fun _ => 0) y 10).bind fun (v21, g19, y20) =>
          x_eq v21 1 (
            some (1, va, vh, vf, y20)) (
            some (0, va, vh, vf, y20))) (
          (fL_storm (fun _ => 0) y p4).bind fun (v25, g23, y24) =>
          x_eq v25 1 (
            some (1, va, vh, vf, y24)) (
            some (0, va, vh, vf, y24)))) (
        (fL_storm (fun _ => 0) y p4).bind fun (v29, g27, y28) =>
        x_eq v29 1 (
          some (1, va, vh, vf, y28)) (
          some (0, va, vh, vf, y28)))) (
      (x_ld 8 vh 3).bind fun v31 =>
      (fL_runs vh vf).bind fun v32 =>
      x_lt 63 (v31 + v32) (
        x_lt 0 p4 (
          x_lt p4 10 (
            (fL_storm (fun _ => 0) y 10).bind fun (v38, g36, y37) =>
            x_eq v38 1 (
              some (1, va, vh, vf, y37)) (
              some (0, va, vh, vf, y37))) (
            (fL_storm (fun _ => 0) y p4).bind fun (v42, g40, y41) =>
            x_eq v42 1 (
              some (1, va, vh, vf, y41)) (
              some (0, va, vh, vf, y41)))) (
          (fL_storm (fun _ => 0) y p4).bind fun (v46, g44, y45) =>
          x_eq v46 1 (
            some (1, va, vh, vf, y45)) (
            some (0, va, vh, vf, y45)))) (
        (fL_storm (fun _ => 0) y p4).bind fun (v50, g48, y49) =>
        x_eq v50 0 (
          (x_ld 1 g48 0).bind fun v52 =>
          (fL_storms va vh vf p4).bind fun (v56, g53, g54, g55) =>
          x_eq v52 v56 (
            some (1, g53, g54, g55, y49)) (
            some (0, g53, g54, g55, y49))) (
          some (0, va, vh, vf, y49)))))
def fL_isMerged (va : Int → Int) (vh : Int → Int) (vf : Int → Int) (y : BrS) (p4 : Int) : Option (Int × (Int → Int) × (Int → Int) × (Int → Int) × BrS) :=
  (fL_runs vh vf).bind fun v1 =>
  x_lt v1 2 (
    (fL_mergeLightest (fun _ => 0) y).bind fun (v5, g3, y4) =>
    x_eq v5 1 (
      (x_ld 8 vh 3).bind fun v7 =>
      (x_ld 8 vh 3).bind fun v8 =>
      (fL_merge g3 y4 v7 v8).bind fun (v11, g9, y10) =>
      x_eq v11 1 (
        some (1, va, vh, vf, y10)) (
        some (0, va, vh, vf, y10))) (
      some (0, va, vh, vf, y4))) (
    (fL_low p4 2).bind fun v13 =>
    x_eq v13 0 (
      (fL_lightest va vh vf (-1)).bind fun v15 =>
      (fL_lightest va vh vf v15).bind fun v16 =>
      (fL_merges va vh vf v15 v16).bind fun (v20, g17, g18, g19) =>
      (fL_mergeLightest (fun _ => 0) y).bind fun (v23, g21, y22) =>
      x_eq v23 0 (
        (x_ld 1 g21 0).bind fun v25 =>
        x_lt v15 v16 (
          x_eq v25 v15 (
            some (1, g17, g18, g19, y22)) (
            some (0, g17, g18, g19, y22))) (
          x_eq v25 v16 (
            some (1, g17, g18, g19, y22)) (
            some (0, g17, g18, g19, y22)))) (
        some (0, g17, g18, g19, y22))) (
      (fL_low (x_shr p4 3) v1).bind fun v29 =>
      (fL_runBy vh vf v29).bind fun v30 =>
      (fL_low (x_shr p4 9) v1).bind fun v31 =>
      (fL_runBy vh vf v31).bind fun v32 =>
      x_eq v30 v32 (
        (fL_merge (fun _ => 0) y v30 v32).bind fun (v36, g34, y35) =>
        x_eq v36 2 (
          (x_ld 8 vh 3).bind fun v38 =>
          (fL_merge g34 y35 v30 v38).bind fun (v41, g39, y40) =>
          x_eq v41 1 (
            some (1, va, vh, vf, y40)) (
            some (0, va, vh, vf, y40))) (
          some (0, va, vh, vf, y35))) (
        (fL_merge (fun _ => 0) y v30 v32).bind fun (v45, g43, y44) =>
        x_eq v45 0 (
          (x_ld 1 g43 0).bind fun v47 =>
          (fL_merges va vh vf v30 v32).bind fun (v51, g48, g49, g50) =>
          x_eq v47 v51 (
            some (1, g48, g49, g50, y44)) (
            some (0, g48, g49, g50, y44))) (
          some (0, va, vh, vf, y44)))))
def fL_isLanded_L195 (v12 : Int) (v34 : Int) (k9 : Int) : Nat → Int → (Int → Int) → (Int → Int) → (Int → Int) → (Int → Int) → BrS → Option (Int × (Int → Int) × (Int → Int) × (Int → Int) × BrS)
  | 0, _, _, _, _, _, _ => none
  | n301 + 1, l10, g296, g297, g298, g299, y300 =>
      (x_ld 8 g297 0).bind fun v302 =>
      x_lt l10 v302 (
        (fL_where g296 l10).bind fun v304 =>
        x_eq v304 1 (
          (fL_run g296 l10).bind fun v306 =>
          x_eq v306 v12 (
            (fL_goes g296 l10 2 (-1)).bind fun g308 =>
            fL_isLanded_L195 v12 v34 k9 n301 (l10 + 1) g308 g297 g298 g299 y300) (
            fL_isLanded_L195 v12 v34 k9 n301 (l10 + 1) g296 g297 g298 g299 y300)) (
          fL_isLanded_L195 v12 v34 k9 n301 (l10 + 1) g296 g297 g298 g299 y300)) (
        (x_st 64 g298 v12 (-1)).bind fun g309 =>
        (x_ld 8 g297 2).bind fun v310 =>
        x_eq v310 v12 (
          (x_st 8 g297 2 (-1)).bind fun g312 =>
          (fL_land g299 y300 v12).bind fun (v315, g313, y314) =>
          x_eq v315 0 (
            (x_ld 1 g313 0).bind fun v317 =>
            x_eq v317 (v34 + k9) (
              (fL_land g313 y314 v12).bind fun (v321, g319, y320) =>
              x_eq v321 1 (
                some (1, g296, g312, g309, y320)) (
                some (0, g296, g312, g309, y320))) (
              some (0, g296, g312, g309, y314))) (
            some (0, g296, g312, g309, y314))) (
          (x_ld 8 g297 2).bind fun v323 =>
          (x_st 8 g297 2 v323).bind fun g324 =>
          (fL_land g299 y300 v12).bind fun (v327, g325, y326) =>
          x_eq v327 0 (
            (x_ld 1 g325 0).bind fun v329 =>
            x_eq v329 (v34 + k9) (
              (fL_land g325 y326 v12).bind fun (v333, g331, y332) =>
              x_eq v333 1 (
                some (1, g296, g324, g309, y332)) (
                some (0, g296, g324, g309, y332))) (
              some (0, g296, g324, g309, y326))) (
            some (0, g296, g324, g309, y326))))
def fL_isLanded (va : Int → Int) (vh : Int → Int) (vf : Int → Int) (y : BrS) (p4 : Int) : Option (Int × (Int → Int) × (Int → Int) × (Int → Int) × BrS) :=
  (fL_runs vh vf).bind fun v1 =>
  x_eq v1 0 (
    (fL_land (fun _ => 0) y 0).bind fun (v5, g3, y4) =>
    x_eq v5 1 (
      (fL_tighten g3 y4 0).bind fun (v9, g7, y8) =>
      x_eq v9 1 (
        some (1, va, vh, vf, y8)) (
        some (0, va, vh, vf, y8))) (
      some (0, va, vh, vf, y4))) (
    (fL_low p4 v1).bind fun v11 =>
    (fL_runBy vh vf v11).bind fun v12 =>
    (fL_low (x_shr p4 7) 3).bind fun v13 =>
    x_eq v13 0 (
      (x_ld 64 vf v12).bind fun v15 =>
      x_lt v15 9 (
        (x_ld 64 vf v12).bind fun v17 =>
        (x_st 64 vf v12 (v17 + 1)).bind fun g18 =>
        (fL_tighten (fun _ => 0) y v12).bind fun (v21, g19, y20) =>
        x_eq v21 0 (
          (x_ld 1 g19 0).bind fun v23 =>
          (x_ld 64 g18 v12).bind fun v24 =>
          x_eq v23 v24 (
            some (1, va, vh, g18, y20)) (
            some (0, va, vh, g18, y20))) (
          some (0, va, vh, g18, y20))) (
        (x_st 64 vf v12 9).bind fun g26 =>
        (fL_tighten (fun _ => 0) y v12).bind fun (v29, g27, y28) =>
        x_eq v29 0 (
          (x_ld 1 g27 0).bind fun v31 =>
          (x_ld 64 g26 v12).bind fun v32 =>
          x_eq v31 v32 (
            some (1, va, vh, g26, y28)) (
            some (0, va, vh, g26, y28))) (
          some (0, va, vh, g26, y28)))) (
      (fL_many va vh 2 (-1)).bind fun v34 =>
      x_lt 0 v34 (
        (fL_ranked va vh 2 (-1) (v34 - 1)).bind fun v36 =>
        (fL_ranked va vh 1 v12 0).bind fun v37 =>
        (fL_isLess va v36 v37).bind fun v38 =>
        x_eq v38 0 (
          (fL_land (fun _ => 0) y v12).bind fun (v42, g40, y41) =>
          x_eq v42 2 (
            some (1, va, vh, vf, y41)) (
            some (0, va, vh, vf, y41))) (
          (fL_many va vh 1 v12).bind fun v44 =>
          fL_isLanded_L195 v12 v34 v44 70 0 va vh vf (fun _ => 0) y)) (
        (fL_many va vh 1 v12).bind fun v45 =>
        fL_isLanded_L195 v12 v34 v45 70 0 va vh vf (fun _ => 0) y)))
def fL_isEmptied (va : Int → Int) (vh : Int → Int) (vf : Int → Int) (y : BrS) : Option (Int × (Int → Int) × (Int → Int) × (Int → Int) × BrS) :=
  (x_ld 8 vh 3).bind fun v1 =>
  (fL_many va vh 0 (-1)).bind fun v2 =>
  x_lt 63 (v1 + v2) (
    some (1, va, vh, vf, y)) (
    (fL_empties va vh vf).bind fun (g4, g5, g6) =>
    (f4_empty y).bind fun (v7, y8) =>
    (fL_runs g5 g6).bind fun v9 =>
    x_eq v7 v9 (
      some (1, g4, g5, g6, y8)) (
      some (0, g4, g5, g6, y8)))

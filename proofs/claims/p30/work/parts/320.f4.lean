def f4_begin (y : BrS) (p0 : Int) : Option (Int × Int × BrS) :=
  x_lt p0 1 (
    some (1, 0, y)) (
    x_lt 12 p0 (
      some (1, 0, y)) (
      (f1_save (g4_hi y) (g4_bo y)).bind fun h3 =>
      (f0_loaded (g4_bo y)).bind fun v4 =>
      (f0_startAgain (g4_bo y) p0).bind fun b5 =>
      some (0, v4, s4_bo (s4_hi y h3) b5)))
def f4_load (y : BrS) (p0 : Int) (p1 : Int) : Option (Int × Int × BrS) :=
  x_lt p0 0 (
    some (1, 0, y)) (
    x_lt 999 p0 (
      some (1, 0, y)) (
      x_lt p1 1 (
        some (1, 0, y)) (
        x_lt 50 p1 (
          some (1, 0, y)) (
          (f0_allLoaded (g4_bo y)).bind fun v5 =>
          x_eq v5 0 (
            (f1_save (g4_hi y) (g4_bo y)).bind fun h7 =>
            (f0_take (g4_bo y) p0 p1).bind fun (v9, b8) =>
            some (0, v9, s4_bo (s4_hi y h7) b8)) (
            some (2, 0, y))))))
def f4_empty (y : BrS) : Option (Int × BrS) :=
  (f1_save (g4_hi y) (g4_bo y)).bind fun h1 =>
  (f0_throwAll (g4_bo y)).bind fun (v3, b2) =>
  some (v3, s4_bo (s4_hi y h1) b2)
def f4_merge (y : BrS) (p0 : Int) (p1 : Int) : Option (Int × Int × BrS) :=
  (f0_hasRun (g4_bo y) p0).bind fun v1 =>
  x_eq v1 0 (
    some (3, 0, y)) (
    (f0_hasRun (g4_bo y) p1).bind fun v3 =>
    x_eq v3 0 (
      some (3, 0, y)) (
      x_eq p0 p1 (
        some (1, 0, y)) (
        (f1_save (g4_hi y) (g4_bo y)).bind fun h6 =>
        (f0_join (g4_bo y) p0 p1).bind fun (v8, b7) =>
        some (0, v8, s4_bo (s4_hi y h6) b7))))
def f4_mergeLightest (y : BrS) : Option (Int × Int × BrS) :=
  (f0_runs (g4_bo y)).bind fun v1 =>
  x_lt v1 2 (
    some (2, 0, y)) (
    (f1_save (g4_hi y) (g4_bo y)).bind fun h3 =>
    (f0_joinLightest (g4_bo y)).bind fun (v5, b4) =>
    some (0, v5, s4_bo (s4_hi y h3) b4))
def f4_storm (y : BrS) (p0 : Int) : Option (Int × Int × BrS) :=
  x_lt p0 1 (
    some (1, 0, y)) (
    x_lt 9 p0 (
      some (1, 0, y)) (
      (f1_save (g4_hi y) (g4_bo y)).bind fun h3 =>
      (f0_breakRuns (g4_bo y) p0).bind fun (v5, b4) =>
      some (0, v5, s4_bo (s4_hi y h3) b4)))
def f4_tighten (y : BrS) (p0 : Int) : Option (Int × Int × BrS) :=
  (f0_hasRun (g4_bo y) p0).bind fun v1 =>
  x_eq v1 0 (
    some (3, 0, y)) (
    (f1_save (g4_hi y) (g4_bo y)).bind fun h3 =>
    (f0_strengthen (g4_bo y) p0).bind fun (v5, b4) =>
    some (0, v5, s4_bo (s4_hi y h3) b4))
def f4_land (y : BrS) (p0 : Int) : Option (Int × Int × BrS) :=
  (f0_hasRun (g4_bo y) p0).bind fun v1 =>
  x_eq v1 0 (
    some (3, 0, y)) (
    (f0_canBringAshore (g4_bo y) p0).bind fun v3 =>
    x_eq v3 0 (
      some (2, 0, y)) (
      (f1_save (g4_hi y) (g4_bo y)).bind fun h5 =>
      (f0_bringAshore (g4_bo y) p0).bind fun (v7, b6) =>
      some (0, v7, s4_bo (s4_hi y h5) b6)))
def f4_parcel (y : BrS) (p0 : Int) (p1 : Int) : Option (Int × Int × BrS) :=
  x_lt p0 0 (
    some (4, 0, y)) (
    (f0_loaded (g4_bo y)).bind fun v2 =>
    x_lt p0 v2 (
      x_lt p1 0 (
        some (1, 0, y)) (
        x_lt p1 5 (
          (f0_parcelFact (g4_bo y) p0 p1).bind fun v6 =>
          some (0, v6, y)) (
          some (1, 0, y)))) (
      some (4, 0, y)))
def f4_run (y : BrS) (p0 : Int) (p1 : Int) : Option (Int × Int × BrS) :=
  (f0_hasRun (g4_bo y) p0).bind fun v1 =>
  x_eq v1 0 (
    some (3, 0, y)) (
    x_lt p1 0 (
      some (1, 0, y)) (
      x_lt p1 6 (
        (f0_runFact (g4_bo y) p0 p1).bind fun v5 =>
        some (0, v5, y)) (
        some (1, 0, y))))
def f4_inRun (y : BrS) (p0 : Int) (p1 : Int) : Option (Int × Int × BrS) :=
  (f0_hasRun (g4_bo y) p0).bind fun v1 =>
  x_eq v1 0 (
    some (3, 0, y)) (
    x_lt p1 0 (
      some (4, 0, y)) (
      (f0_countAt (g4_bo y) p0).bind fun v4 =>
      x_lt p1 v4 (
        (f0_parcelAt (g4_bo y) p0 p1).bind fun v6 =>
        some (0, v6, y)) (
        some (4, 0, y))))
def f4_ashore (y : BrS) (p0 : Int) : Option (Int × Int × BrS) :=
  x_lt p0 0 (
    some (4, 0, y)) (
    (f0_countAt (g4_bo y) (-2)).bind fun v2 =>
    x_lt p0 v2 (
      (f0_parcelAt (g4_bo y) (-2) p0).bind fun v4 =>
      some (0, v4, y)) (
      some (4, 0, y)))
def f4_runAt (y : BrS) (p0 : Int) : Option (Int × Int × BrS) :=
  x_lt p0 0 (
    some (4, 0, y)) (
    (f0_runs (g4_bo y)).bind fun v2 =>
    x_lt p0 v2 (
      (f0_runNumber (g4_bo y) p0).bind fun v4 =>
      some (0, v4, y)) (
      some (4, 0, y)))
def f4_value (y : BrS) (p0 : Int) : Option (Int × Int × BrS) :=
  x_lt p0 0 (
    some (1, 0, y)) (
    x_lt p0 12 (
      (f0_number (g4_bo y) p0).bind fun v3 =>
      some (0, v3, y)) (
      some (1, 0, y)))
def f4_nextThrown (y : BrS) : Option (Int) :=
  (f0_nextOverboard (g4_bo y)).bind fun v1 =>
  some v1

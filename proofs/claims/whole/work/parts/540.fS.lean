/-! The law as one pure function: an act (fC_), the choice of the act (fS), the loop (fLaw). -/
def fC_begin (xi : Int → Int) (i : Int) (x : ModS) (y : BrS) (o : Int → Int) : Option (ModS × BrS × (Int → Int)) :=
  (fL_begin y o (xi (i + 1))).bind fun (k, y1, o1) => (f5_begin x (xi (i + 1))).bind fun (v, x1) => (f5_thrown x1).bind fun t => x_eq t k (x_eq k 0 (x_ck v (if o1 0 = v then some (x1, y1, o1) else none)) (some (x1, y1, o1))) none
def fC_load (xi : Int → Int) (i : Int) (x : ModS) (y : BrS) (o : Int → Int) : Option (ModS × BrS × (Int → Int)) :=
  (fL_load y o (xi (i + 1)) (xi (i + 2))).bind fun (k, y1, o1) => (f5_load x (xi (i + 1)) (xi (i + 2))).bind fun (v, x1) => (f5_thrown x1).bind fun t => x_eq t k (x_eq k 0 (x_ck v (if o1 0 = v then some (x1, y1, o1) else none)) (some (x1, y1, o1))) none
def fC_loadDrawn (xi : Int → Int) (i : Int) (x : ModS) (y : BrS) (o : Int → Int) : Option (ModS × BrS × (Int → Int)) :=
  (fL_loadDrawn y o (xi (i + 1)) (xi (i + 2)) (xi (i + 3))).bind fun (k, y1, o1) => (f5_loadDrawn x (xi (i + 1)) (xi (i + 2)) (xi (i + 3))).bind fun (v, x1) => (f5_thrown x1).bind fun t => x_eq t k (x_eq k 0 (x_ck v (if o1 0 = v then some (x1, y1, o1) else none)) (some (x1, y1, o1))) none
def fC_empty (xi : Int → Int) (i : Int) (x : ModS) (y : BrS) (o : Int → Int) : Option (ModS × BrS × (Int → Int)) :=
  (f4_empty y).bind fun (v, y1) => (f5_empty x).bind fun (w, x1) => x_eq v w (some (x1, y1, o)) none
def fC_merge (xi : Int → Int) (i : Int) (x : ModS) (y : BrS) (o : Int → Int) : Option (ModS × BrS × (Int → Int)) :=
  (fL_merge y o (xi (i + 1)) (xi (i + 2))).bind fun (k, y1, o1) => (f5_merge x (xi (i + 1)) (xi (i + 2))).bind fun (v, x1) => (f5_thrown x1).bind fun t => x_eq t k (x_eq k 0 (x_ck v (if o1 0 = v then some (x1, y1, o1) else none)) (some (x1, y1, o1))) none
def fC_mergeLightest (xi : Int → Int) (i : Int) (x : ModS) (y : BrS) (o : Int → Int) : Option (ModS × BrS × (Int → Int)) :=
  (fL_mergeLightest y o).bind fun (k, y1, o1) => (f5_mergeLightest x).bind fun (v, x1) => (f5_thrown x1).bind fun t => x_eq t k (x_eq k 0 (x_ck v (if o1 0 = v then some (x1, y1, o1) else none)) (some (x1, y1, o1))) none
def fC_storm (xi : Int → Int) (i : Int) (x : ModS) (y : BrS) (o : Int → Int) : Option (ModS × BrS × (Int → Int)) :=
  (fL_storm y o (xi (i + 1))).bind fun (k, y1, o1) => (f5_storm x (xi (i + 1))).bind fun (v, x1) => (f5_thrown x1).bind fun t => x_eq t k (x_eq k 0 (x_ck v (if o1 0 = v then some (x1, y1, o1) else none)) (some (x1, y1, o1))) none
def fC_tighten (xi : Int → Int) (i : Int) (x : ModS) (y : BrS) (o : Int → Int) : Option (ModS × BrS × (Int → Int)) :=
  (fL_tighten y o (xi (i + 1))).bind fun (k, y1, o1) => (f5_tighten x (xi (i + 1))).bind fun (v, x1) => (f5_thrown x1).bind fun t => x_eq t k (x_eq k 0 (x_ck v (if o1 0 = v then some (x1, y1, o1) else none)) (some (x1, y1, o1))) none
def fC_land (xi : Int → Int) (i : Int) (x : ModS) (y : BrS) (o : Int → Int) : Option (ModS × BrS × (Int → Int)) :=
  (fL_land y o (xi (i + 1))).bind fun (k, y1, o1) => (f5_land x (xi (i + 1))).bind fun (v, x1) => (f5_thrown x1).bind fun t => x_eq t k (x_eq k 0 (x_ck v (if o1 0 = v then some (x1, y1, o1) else none)) (some (x1, y1, o1))) none
def fC_parcel (xi : Int → Int) (i : Int) (x : ModS) (y : BrS) (o : Int → Int) : Option (ModS × BrS × (Int → Int)) :=
  (fL_parcel y o (xi (i + 1)) (xi (i + 2))).bind fun (k, y1, o1) => (f5_parcel x (xi (i + 1)) (xi (i + 2))).bind fun (v, x1) => (f5_thrown x1).bind fun t => x_eq t k (x_eq k 0 (x_ck v (if o1 0 = v then some (x1, y1, o1) else none)) (some (x1, y1, o1))) none
def fC_run (xi : Int → Int) (i : Int) (x : ModS) (y : BrS) (o : Int → Int) : Option (ModS × BrS × (Int → Int)) :=
  (fL_run y o (xi (i + 1)) (xi (i + 2))).bind fun (k, y1, o1) => (f5_run x (xi (i + 1)) (xi (i + 2))).bind fun (v, x1) => (f5_thrown x1).bind fun t => x_eq t k (x_eq k 0 (x_ck v (if o1 0 = v then some (x1, y1, o1) else none)) (some (x1, y1, o1))) none
def fC_inRun (xi : Int → Int) (i : Int) (x : ModS) (y : BrS) (o : Int → Int) : Option (ModS × BrS × (Int → Int)) :=
  (fL_inRun y o (xi (i + 1)) (xi (i + 2))).bind fun (k, y1, o1) => (f5_inRun x (xi (i + 1)) (xi (i + 2))).bind fun (v, x1) => (f5_thrown x1).bind fun t => x_eq t k (x_eq k 0 (x_ck v (if o1 0 = v then some (x1, y1, o1) else none)) (some (x1, y1, o1))) none
def fC_ashore (xi : Int → Int) (i : Int) (x : ModS) (y : BrS) (o : Int → Int) : Option (ModS × BrS × (Int → Int)) :=
  (fL_ashore y o (xi (i + 1))).bind fun (k, y1, o1) => (f5_ashore x (xi (i + 1))).bind fun (v, x1) => (f5_thrown x1).bind fun t => x_eq t k (x_eq k 0 (x_ck v (if o1 0 = v then some (x1, y1, o1) else none)) (some (x1, y1, o1))) none
def fC_runAt (xi : Int → Int) (i : Int) (x : ModS) (y : BrS) (o : Int → Int) : Option (ModS × BrS × (Int → Int)) :=
  (fL_runAt y o (xi (i + 1))).bind fun (k, y1, o1) => (f5_runAt x (xi (i + 1))).bind fun (v, x1) => (f5_thrown x1).bind fun t => x_eq t k (x_eq k 0 (x_ck v (if o1 0 = v then some (x1, y1, o1) else none)) (some (x1, y1, o1))) none
def fC_value (xi : Int → Int) (i : Int) (x : ModS) (y : BrS) (o : Int → Int) : Option (ModS × BrS × (Int → Int)) :=
  (fL_value y o (xi (i + 1))).bind fun (k, y1, o1) => (f5_value x (xi (i + 1))).bind fun (v, x1) => (f5_thrown x1).bind fun t => x_eq t k (x_eq k 0 (x_ck v (if o1 0 = v then some (x1, y1, o1) else none)) (some (x1, y1, o1))) none
def fC_nextThrown (xi : Int → Int) (i : Int) (x : ModS) (y : BrS) (o : Int → Int) : Option (ModS × BrS × (Int → Int)) :=
  (f4_nextThrown y).bind fun v => (f5_nextThrown x).bind fun (w, x1) => x_eq v w (some (x1, y, o)) none
def fC_runsIfEmptied (xi : Int → Int) (i : Int) (x : ModS) (y : BrS) (o : Int → Int) : Option (ModS × BrS × (Int → Int)) :=
  (f4_runsIfEmptied y).bind fun (v, y1) => (f5_runsIfEmptied x).bind fun (w, x1) => x_eq v w (some (x1, y1, o)) none
def fC_costByWeight (xi : Int → Int) (i : Int) (x : ModS) (y : BrS) (o : Int → Int) : Option (ModS × BrS × (Int → Int)) :=
  (f4_costByWeight y).bind fun (v, y1) => (f5_costByWeight x).bind fun (w, x1) => x_eq v w (some (x1, y1, o)) none
def fC_costByNumber (xi : Int → Int) (i : Int) (x : ModS) (y : BrS) (o : Int → Int) : Option (ModS × BrS × (Int → Int)) :=
  (f4_costByNumber y).bind fun (v, y1) => (f5_costByNumber x).bind fun (w, x1) => x_eq v w (some (x1, y1, o)) none
def fC_runsWith (xi : Int → Int) (i : Int) (x : ModS) (y : BrS) (o : Int → Int) : Option (ModS × BrS × (Int → Int)) :=
  (fL_runsWith y o (xi (i + 1))).bind fun (k, y1, o1) => (f5_runsWith x (xi (i + 1))).bind fun (v, x1) => (f5_thrown x1).bind fun t => x_eq t k (x_eq k 0 (x_ck v (if o1 0 = v then some (x1, y1, o1) else none)) (some (x1, y1, o1))) none
def fC_leastRoom (xi : Int → Int) (i : Int) (x : ModS) (y : BrS) (o : Int → Int) : Option (ModS × BrS × (Int → Int)) :=
  (f4_leastRoom y).bind fun v => (f5_leastRoom x).bind fun (w, x1) => x_eq v w (some (x1, y, o)) none
def fC_inversions (xi : Int → Int) (i : Int) (x : ModS) (y : BrS) (o : Int → Int) : Option (ModS × BrS × (Int → Int)) :=
  (f4_inversions y).bind fun v => (f5_inversions x).bind fun (w, x1) => x_eq v w (some (x1, y, o)) none
def fC_append (xi : Int → Int) (i : Int) (x : ModS) (y : BrS) (o : Int → Int) : Option (ModS × BrS × (Int → Int)) :=
  (fL_append y o (xi (i + 1))).bind fun (k, y1, o1) => (f5_append x (xi (i + 1))).bind fun (v, x1) => (f5_thrown x1).bind fun t => x_eq t k (x_eq k 0 (x_ck v (if o1 0 = v then some (x1, y1, o1) else none)) (some (x1, y1, o1))) none
def fC_clearText (xi : Int → Int) (i : Int) (x : ModS) (y : BrS) (o : Int → Int) : Option (ModS × BrS × (Int → Int)) :=
  (f4_clearText y).bind fun (v, y1) => (f5_clearText x).bind fun (w, x1) => x_eq v w (some (x1, y1, o)) none
def fC_carryOut (xi : Int → Int) (i : Int) (x : ModS) (y : BrS) (o : Int → Int) : Option (ModS × BrS × (Int → Int)) :=
  (f4_carryOut y).bind fun (v, y1) => (f5_carryOut x).bind fun (w, x1) => x_eq v w (some (x1, y1, o)) none
def fC_undo (xi : Int → Int) (i : Int) (x : ModS) (y : BrS) (o : Int → Int) : Option (ModS × BrS × (Int → Int)) :=
  (fL_undo y o).bind fun (k, y1, o1) => (f5_undo x).bind fun (v, x1) => (f5_thrown x1).bind fun t => x_eq t k (x_eq k 0 (x_ck v (if o1 0 = v then some (x1, y1, o1) else none)) (some (x1, y1, o1))) none
def fC_digest (xi : Int → Int) (i : Int) (x : ModS) (y : BrS) (o : Int → Int) : Option (ModS × BrS × (Int → Int)) :=
  (f4_digest y).bind fun (v, y1) => (f5_digest x).bind fun (w, x1) => if v = w then some (x1, y1, o) else none
def fS_27 (xi : Int → Int) (i : Int) (x : ModS) (y : BrS) (o : Int → Int) : Option (ModS × BrS × (Int → Int)) := some (x, y, o)
def fS_26 (xi : Int → Int) (i : Int) (x : ModS) (y : BrS) (o : Int → Int) : Option (ModS × BrS × (Int → Int)) := x_eq (xi i % 32) 26 (fC_digest xi i x y o) (fS_27 xi i x y o)
def fS_25 (xi : Int → Int) (i : Int) (x : ModS) (y : BrS) (o : Int → Int) : Option (ModS × BrS × (Int → Int)) := x_eq (xi i % 32) 25 (fC_undo xi i x y o) (fS_26 xi i x y o)
def fS_24 (xi : Int → Int) (i : Int) (x : ModS) (y : BrS) (o : Int → Int) : Option (ModS × BrS × (Int → Int)) := x_eq (xi i % 32) 24 (fC_carryOut xi i x y o) (fS_25 xi i x y o)
def fS_23 (xi : Int → Int) (i : Int) (x : ModS) (y : BrS) (o : Int → Int) : Option (ModS × BrS × (Int → Int)) := x_eq (xi i % 32) 23 (fC_clearText xi i x y o) (fS_24 xi i x y o)
def fS_22 (xi : Int → Int) (i : Int) (x : ModS) (y : BrS) (o : Int → Int) : Option (ModS × BrS × (Int → Int)) := x_eq (xi i % 32) 22 (fC_append xi i x y o) (fS_23 xi i x y o)
def fS_21 (xi : Int → Int) (i : Int) (x : ModS) (y : BrS) (o : Int → Int) : Option (ModS × BrS × (Int → Int)) := x_eq (xi i % 32) 21 (fC_inversions xi i x y o) (fS_22 xi i x y o)
def fS_20 (xi : Int → Int) (i : Int) (x : ModS) (y : BrS) (o : Int → Int) : Option (ModS × BrS × (Int → Int)) := x_eq (xi i % 32) 20 (fC_leastRoom xi i x y o) (fS_21 xi i x y o)
def fS_19 (xi : Int → Int) (i : Int) (x : ModS) (y : BrS) (o : Int → Int) : Option (ModS × BrS × (Int → Int)) := x_eq (xi i % 32) 19 (fC_runsWith xi i x y o) (fS_20 xi i x y o)
def fS_18 (xi : Int → Int) (i : Int) (x : ModS) (y : BrS) (o : Int → Int) : Option (ModS × BrS × (Int → Int)) := x_eq (xi i % 32) 18 (fC_costByNumber xi i x y o) (fS_19 xi i x y o)
def fS_17 (xi : Int → Int) (i : Int) (x : ModS) (y : BrS) (o : Int → Int) : Option (ModS × BrS × (Int → Int)) := x_eq (xi i % 32) 17 (fC_costByWeight xi i x y o) (fS_18 xi i x y o)
def fS_16 (xi : Int → Int) (i : Int) (x : ModS) (y : BrS) (o : Int → Int) : Option (ModS × BrS × (Int → Int)) := x_eq (xi i % 32) 16 (fC_runsIfEmptied xi i x y o) (fS_17 xi i x y o)
def fS_15 (xi : Int → Int) (i : Int) (x : ModS) (y : BrS) (o : Int → Int) : Option (ModS × BrS × (Int → Int)) := x_eq (xi i % 32) 15 (fC_nextThrown xi i x y o) (fS_16 xi i x y o)
def fS_14 (xi : Int → Int) (i : Int) (x : ModS) (y : BrS) (o : Int → Int) : Option (ModS × BrS × (Int → Int)) := x_eq (xi i % 32) 14 (fC_value xi i x y o) (fS_15 xi i x y o)
def fS_13 (xi : Int → Int) (i : Int) (x : ModS) (y : BrS) (o : Int → Int) : Option (ModS × BrS × (Int → Int)) := x_eq (xi i % 32) 13 (fC_runAt xi i x y o) (fS_14 xi i x y o)
def fS_12 (xi : Int → Int) (i : Int) (x : ModS) (y : BrS) (o : Int → Int) : Option (ModS × BrS × (Int → Int)) := x_eq (xi i % 32) 12 (fC_ashore xi i x y o) (fS_13 xi i x y o)
def fS_11 (xi : Int → Int) (i : Int) (x : ModS) (y : BrS) (o : Int → Int) : Option (ModS × BrS × (Int → Int)) := x_eq (xi i % 32) 11 (fC_inRun xi i x y o) (fS_12 xi i x y o)
def fS_10 (xi : Int → Int) (i : Int) (x : ModS) (y : BrS) (o : Int → Int) : Option (ModS × BrS × (Int → Int)) := x_eq (xi i % 32) 10 (fC_run xi i x y o) (fS_11 xi i x y o)
def fS_9 (xi : Int → Int) (i : Int) (x : ModS) (y : BrS) (o : Int → Int) : Option (ModS × BrS × (Int → Int)) := x_eq (xi i % 32) 9 (fC_parcel xi i x y o) (fS_10 xi i x y o)
def fS_8 (xi : Int → Int) (i : Int) (x : ModS) (y : BrS) (o : Int → Int) : Option (ModS × BrS × (Int → Int)) := x_eq (xi i % 32) 8 (fC_land xi i x y o) (fS_9 xi i x y o)
def fS_7 (xi : Int → Int) (i : Int) (x : ModS) (y : BrS) (o : Int → Int) : Option (ModS × BrS × (Int → Int)) := x_eq (xi i % 32) 7 (fC_tighten xi i x y o) (fS_8 xi i x y o)
def fS_6 (xi : Int → Int) (i : Int) (x : ModS) (y : BrS) (o : Int → Int) : Option (ModS × BrS × (Int → Int)) := x_eq (xi i % 32) 6 (fC_storm xi i x y o) (fS_7 xi i x y o)
def fS_5 (xi : Int → Int) (i : Int) (x : ModS) (y : BrS) (o : Int → Int) : Option (ModS × BrS × (Int → Int)) := x_eq (xi i % 32) 5 (fC_mergeLightest xi i x y o) (fS_6 xi i x y o)
def fS_4 (xi : Int → Int) (i : Int) (x : ModS) (y : BrS) (o : Int → Int) : Option (ModS × BrS × (Int → Int)) := x_eq (xi i % 32) 4 (fC_merge xi i x y o) (fS_5 xi i x y o)
def fS_3 (xi : Int → Int) (i : Int) (x : ModS) (y : BrS) (o : Int → Int) : Option (ModS × BrS × (Int → Int)) := x_eq (xi i % 32) 3 (fC_empty xi i x y o) (fS_4 xi i x y o)
def fS_2 (xi : Int → Int) (i : Int) (x : ModS) (y : BrS) (o : Int → Int) : Option (ModS × BrS × (Int → Int)) := x_eq (xi i % 32) 2 (fC_loadDrawn xi i x y o) (fS_3 xi i x y o)
def fS_1 (xi : Int → Int) (i : Int) (x : ModS) (y : BrS) (o : Int → Int) : Option (ModS × BrS × (Int → Int)) := x_eq (xi i % 32) 1 (fC_load xi i x y o) (fS_2 xi i x y o)
def fS_0 (xi : Int → Int) (i : Int) (x : ModS) (y : BrS) (o : Int → Int) : Option (ModS × BrS × (Int → Int)) := x_eq (xi i % 32) 0 (fC_begin xi i x y o) (fS_1 xi i x y o)
def fS (xi : Int → Int) (i : Int) (x : ModS) (y : BrS) (o : Int → Int) : Option (ModS × BrS × (Int → Int)) := if xin (xi i % 32) then fS_0 xi i x y o else none
def fLaw (xi : Int → Int) (L : Int) : Nat → Int → ModS → BrS → (Int → Int) → Option Unit
  | 0, _, _, _, _ => none
  | n + 1, i, x, y, o => x_lt (L - 4) i (some ()) ((fS xi i x y o).bind fun (x1, y1, o1) => fLaw xi L n (i + 4) x1 y1 o1)

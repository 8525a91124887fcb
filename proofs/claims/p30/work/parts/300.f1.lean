def f1_save (h : HisS) (o : BoatS) : Option (HisS) :=
  (f1_placeAt h (g1_nxt h)).bind fun v1 =>
  x_eq v1 0 (
    (f0_copy (g1_h0 h) o).bind fun b3 =>
    (x_rem (g1_nxt h + 1) 4).bind fun v4 =>
    (x_min (g1_cnt h + 1) 4).bind fun v5 =>
    some (s1_cnt (s1_nxt (s1_h0 h b3) v4) v5)) (
  x_eq v1 1 (
    (f0_copy (g1_h1 h) o).bind fun b7 =>
    (x_rem (g1_nxt h + 1) 4).bind fun v8 =>
    (x_min (g1_cnt h + 1) 4).bind fun v9 =>
    some (s1_cnt (s1_nxt (s1_h1 h b7) v8) v9)) (
  x_eq v1 2 (
    (f0_copy (g1_h2 h) o).bind fun b11 =>
    (x_rem (g1_nxt h + 1) 4).bind fun v12 =>
    (x_min (g1_cnt h + 1) 4).bind fun v13 =>
    some (s1_cnt (s1_nxt (s1_h2 h b11) v12) v13)) (
  x_eq v1 3 (
    (f0_copy (g1_h3 h) o).bind fun b15 =>
    (x_rem (g1_nxt h + 1) 4).bind fun v16 =>
    (x_min (g1_cnt h + 1) 4).bind fun v17 =>
    some (s1_cnt (s1_nxt (s1_h3 h b15) v16) v17)) (
    some h))))

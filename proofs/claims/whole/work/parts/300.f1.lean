def f1_count (h : HisS) : Option (Int) :=
  some (g1_cnt h)
def f1_save (h : HisS) (o : BoatS) : Option (HisS) :=
  (f1_placeAt h (g1_nxt h)).bind fun v1 =>
  x_eq v1 0 (
    (f0_copy (g1_h0 h) o).bind fun b3 =>
    (x_rem (g1_nxt h + 1) 4).bind fun v4 =>
    (x_min (g1_cnt h + 1) 4).bind fun v5 =>
    some (s1_cnt (s1_nxt (s1_h0 h b3) v4) v5)) (
  x_eq v1 1 (
    (f0_copy (g1_h1 h) o).bind fun b7 =>
    (x_rem (g1_nxt h + 1) 4).bind fun v8 =>
    (x_min (g1_cnt h + 1) 4).bind fun v9 =>
    some (s1_cnt (s1_nxt (s1_h1 h b7) v8) v9)) (
  x_eq v1 2 (
    (f0_copy (g1_h2 h) o).bind fun b11 =>
    (x_rem (g1_nxt h + 1) 4).bind fun v12 =>
    (x_min (g1_cnt h + 1) 4).bind fun v13 =>
    some (s1_cnt (s1_nxt (s1_h2 h b11) v12) v13)) (
  x_eq v1 3 (
    (f0_copy (g1_h3 h) o).bind fun b15 =>
    (x_rem (g1_nxt h + 1) 4).bind fun v16 =>
    (x_min (g1_cnt h + 1) 4).bind fun v17 =>
    some (s1_cnt (s1_nxt (s1_h3 h b15) v16) v17)) (
    some h))))
def f1_restore (h : HisS) (o : BoatS) : Option (HisS × BoatS) :=
  (x_rem ((g1_nxt h + 4) - 1) 4).bind fun v1 =>
  (f1_placeAt h v1).bind fun v2 =>
  x_eq v2 0 (
    (f0_copy o (g1_h0 h)).bind fun b4 =>
    some (s1_cnt (s1_nxt h v1) (g1_cnt h - 1), b4)) (
  x_eq v2 1 (
    (f0_copy o (g1_h1 h)).bind fun b6 =>
    some (s1_cnt (s1_nxt h v1) (g1_cnt h - 1), b6)) (
  x_eq v2 2 (
    (f0_copy o (g1_h2 h)).bind fun b8 =>
    some (s1_cnt (s1_nxt h v1) (g1_cnt h - 1), b8)) (
  x_eq v2 3 (
    (f0_copy o (g1_h3 h)).bind fun b10 =>
    some (s1_cnt (s1_nxt h v1) (g1_cnt h - 1), b10)) (
    some (h, o)))))

def f2_size (N : Nat) (r : RowS) : Option (Int) :=
  some r.1
def f2_clear (N : Nat) (r : RowS) : Option (RowS) :=
  some (0, r.2)
def f2_get (N : Nat) (r : RowS) (p0 : Int) : Option (Int) :=
  x_lt p0 0 (
    some (-1)) (
    x_lt p0 r.1 (
      (x_ld N r.2 p0).bind fun v3 =>
      some v3) (
      some (-1)))
def f2_set (N : Nat) (r : RowS) (p0 : Int) (p1 : Int) : Option (RowS) :=
  x_lt p0 0 (
    some r) (
    x_lt p0 r.1 (
      (x_st N r.2 p0 p1).bind fun g3 =>
      some (r.1, g3)) (
      some r))
def f2_increase (N : Nat) (r : RowS) (p0 : Int) (p1 : Int) : Option (RowS) :=
  (f2_get N r p0).bind fun v1 =>
  (f2_set N r p0 (v1 + p1)).bind fun r2 =>
  some r2
def f2_insert_L30 (N : Nat) (p0 : Int) (p1 : Int) : Nat → Int → RowS → Option (RowS)
  | 0, _, _ => none
  | n5 + 1, l3, r4 =>
      x_lt p0 l3 (
        (x_ld N r4.2 (l3 - 1)).bind fun v7 =>
        (x_st N r4.2 l3 v7).bind fun g8 =>
        f2_insert_L30 N p0 p1 n5 (l3 + (-1)) (r4.1, g8)) (
        (x_st N r4.2 p0 p1).bind fun g9 =>
        some ((r4.1 + 1), g9))
def f2_insert (N : Nat) (r : RowS) (p0 : Int) (p1 : Int) : Option (RowS) :=
  x_lt p0 0 (
    some r) (
    x_lt r.1 p0 (
      some r) (
      x_lt r.1 ((N : Nat) : Int) (
        f2_insert_L30 N p0 p1 xFU r.1 r) (
        some r)))
def f2_add (N : Nat) (r : RowS) (p0 : Int) : Option (RowS) :=
  (f2_insert N r r.1 p0).bind fun r1 =>
  some r1
def f2_remove_L15 (N : Nat) : Nat → Int → RowS → Option (RowS)
  | 0, _, _ => none
  | n4 + 1, l2, r3 =>
      x_lt l2 (r3.1 - 1) (
        (x_ld N r3.2 (l2 + 1)).bind fun v6 =>
        (x_st N r3.2 l2 v6).bind fun g7 =>
        f2_remove_L15 N n4 (l2 + 1) (r3.1, g7)) (
        some ((r3.1 - 1), r3.2))
def f2_remove (N : Nat) (r : RowS) (p0 : Int) : Option (RowS) :=
  x_lt p0 0 (
    some r) (
    x_lt p0 r.1 (
      f2_remove_L15 N xFU p0 r) (
      some r))
def f2_indexOf_L2 (N : Nat) (r : RowS) (p0 : Int) : Nat → Int → Option (Int)
  | 0, _ => none
  | n1 + 1, l2 =>
      x_lt l2 r.1 (
        (x_ld N r.2 l2).bind fun v3 =>
        x_eq v3 p0 (
          some l2) (
          f2_indexOf_L2 N r p0 n1 (l2 + 1))) (
        some (-1))
def f2_indexOf (N : Nat) (r : RowS) (p0 : Int) : Option (Int) :=
  f2_indexOf_L2 N r p0 xFU 0
def f2_copy_L18 (N : Nat) (M : Nat) (o : RowS) : Nat → Int → RowS → Option (RowS)
  | 0, _, _ => none
  | n3 + 1, l2, r2 =>
      x_lt l2 r2.1 (
        (x_ld M o.2 l2).bind fun v5 =>
        (x_st N r2.2 l2 v5).bind fun g6 =>
        f2_copy_L18 N M o n3 (l2 + 1) (r2.1, g6)) (
        some r2)
def f2_copy (N : Nat) (r : RowS) (M : Nat) (o : RowS) : Option (RowS) :=
  (x_min o.1 ((N : Nat) : Int)).bind fun v1 =>
  f2_copy_L18 N M o xFU 0 (v1, r.2)

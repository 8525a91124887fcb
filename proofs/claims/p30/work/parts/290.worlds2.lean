/-! States and cells of the outer classes. -/
def x_sh (a : Nat → Nat) (k : Nat) : Nat → Nat := fun j => a (k + j)
def x_hp (a : Nat → Nat) (i : Int) : Option Nat := if i = 0 then some (a 2) else if i = 1 then some (a 17) else if i = 2 then some (a 32) else if i = 3 then some (a 47) else none
abbrev HisS : Type := Int × Int × BoatS × BoatS × BoatS × BoatS
def g1_nxt (h : HisS) : Int := h.1
def s1_nxt (h : HisS) (v : Int) : HisS := (v, h.2)
def g1_cnt (h : HisS) : Int := h.2.1
def s1_cnt (h : HisS) (v : Int) : HisS := (h.1, v, h.2.2)
def g1_h0 (h : HisS) : BoatS := h.2.2.1
def s1_h0 (h : HisS) (v : BoatS) : HisS := (h.1, h.2.1, v, h.2.2.2)
def g1_h1 (h : HisS) : BoatS := h.2.2.2.1
def s1_h1 (h : HisS) (v : BoatS) : HisS := (h.1, h.2.1, h.2.2.1, v, h.2.2.2.2)
def g1_h2 (h : HisS) : BoatS := h.2.2.2.2.1
def s1_h2 (h : HisS) (v : BoatS) : HisS := (h.1, h.2.1, h.2.2.1, h.2.2.2.1, v, h.2.2.2.2.2)
def g1_h3 (h : HisS) : BoatS := h.2.2.2.2.2
def s1_h3 (h : HisS) (v : BoatS) : HisS := (h.1, h.2.1, h.2.2.1, h.2.2.2.1, h.2.2.2.2.1, v)
def w1C (cs : Nat → ClassId) (a : Nat → Nat) (z_nxt : Int) (z_cnt : Int) (z_h0 : BoatS) (z_h1 : BoatS) (z_h2 : BoatS) (z_h3 : BoatS) : List va_W := [[(a 0, .inr (1, [.ref (a 1), .int (iI z_nxt), .int (iI z_cnt)]))], [(a 1, .inl (cs 2, (4, .inr (.inr (.inr (.inr (fun k : Nat => x_hp a (k : Int))))))))], w0 cs (x_sh a 2) z_h0, w0 cs (x_sh a 17) z_h1, w0 cs (x_sh a 32) z_h2, w0 cs (x_sh a 47) z_h3]
def w1 (cs : Nat → ClassId) (a : Nat → Nat) (h : HisS) : List va_W := w1C cs a (g1_nxt h) (g1_cnt h) (g1_h0 h) (g1_h1 h) (g1_h2 h) (g1_h3 h)
abbrev BrS : Type := BoatS × BoatS × HisS × TextS
def g4_bo (y : BrS) : BoatS := y.1
def s4_bo (y : BrS) (v : BoatS) : BrS := (v, y.2)
def g4_tr (y : BrS) : BoatS := y.2.1
def s4_tr (y : BrS) (v : BoatS) : BrS := (y.1, v, y.2.2)
def g4_hi (y : BrS) : HisS := y.2.2.1
def s4_hi (y : BrS) (v : HisS) : BrS := (y.1, y.2.1, v, y.2.2.2)
def g4_tx (y : BrS) : TextS := y.2.2.2
def s4_tx (y : BrS) (v : TextS) : BrS := (y.1, y.2.1, y.2.2.1, v)
def w4C (cs : Nat → ClassId) (a : Nat → Nat) (z_bo : BoatS) (z_tr : BoatS) (z_hi : HisS) (z_tx : TextS) : List va_W := [[(a 0, .inr (4, [.ref (a 1), .ref (a 16), .ref (a 31), .ref (a 93)]))], w0 cs (x_sh a 1) z_bo, w0 cs (x_sh a 16) z_tr] ++ w1 cs (x_sh a 31) z_hi ++ [w3 cs (x_sh a 93) z_tx]
def w4 (cs : Nat → ClassId) (a : Nat → Nat) (y : BrS) : List va_W := w4C cs a (g4_bo y) (g4_tr y) (g4_hi y) (g4_tx y)

/-! Rows for the law's body: the script's ints, the kind of an act, two equal longs. -/
theorem x_cmp0 (x : Int64) : lg_cmp x x = iI 0 := by
  unfold lg_cmp
  simp
  rfl
def x_sc (xs : Nat → Int32) : Int → Int := fun j => (xs j.toNat).toInt
theorem x_sc_in (xs : Nat → Int32) (j : Int) : xin (x_sc xs j) := by
  unfold x_sc
  have h1 := Int32.toInt_lt (xs j.toNat)
  have h2 := Int32.le_toInt (xs j.toNat)
  constructor <;> omega
theorem x_and31 {a : Int} (h : xin a) : iI a &&& iI 31 = iI (a % 32) := by
  apply Int32.toBitVec_inj.mp
  apply BitVec.eq_of_toNat_eq
  rw [Int32.toBitVec_and, BitVec.toNat_and]
  have e1 : (iI 31).toBitVec.toNat = 2 ^ 5 - 1 := by decide
  have e2 : ∀ b : Int, (iI b).toBitVec.toNat = (b % 4294967296).toNat := fun b => by
    show (BitVec.ofInt 32 b).toNat = _
    rw [BitVec.toNat_ofInt]
    rfl
  rw [e1, Nat.and_two_pow_sub_one_eq_mod, e2, e2]
  omega
section XLAW2
variable {p : Program} {l : Launch} {e : Env} {R : Room} {s : State} {m : MethodId} {args : Array Value} {below : List Frame} {meth : Method} {c : Code} {H : Heap} {locs : List Loc} {cells slots : Nat} {Q : State → Prop}
variable {cc : ByteArray} {pc : Nat} {ls : Array Slot} {rest : List Value} {A : Nat → Prop}
theorem xk_sld (hexec : p.tables.exec = Jvm.exec) (hb : c.code = cc) {b L : Nat} {xs : Nat → Int32} (hX : va_X b L xs s s.heap) (hbl : b < s.heap.size) (hbA : ¬ A b) (hS : va_S A s.heap H locs) {i : Int} (h0 : 0 ≤ i) (h1 : i < (L : Int)) (hL : L ≤ 2048) (hdg : decode cc pc = .ok (.iaload, 1))
    (kk : W p l e R s m args below meth c H locs cells slots Q (F0 m (pc + 1) ls (.int (iI (x_sc xs i)) :: rest))) : W p l e R s m args below meth c H locs cells slots Q (F0 m pc ls (.int (iI i) :: .ref b :: rest)) := by
  refine va_sld hexec hb hX hbl hbA hS (iI_in h0 h1 (by omega)) hdg ?_
  have e9 : xs (iI i).toNatClampNeg = iI (x_sc xs i) := by
    unfold x_sc
    rw [iI_clamp h0 (by omega), iI_self]
  rw [e9]; exact kk
theorem xk_slen (hexec : p.tables.exec = Jvm.exec) (hb : c.code = cc) {b L : Nat} {xs : Nat → Int32} (hX : va_X b L xs s s.heap) (hbl : b < s.heap.size) (hbA : ¬ A b) (hS : va_S A s.heap H locs) (hdg : decode cc pc = .ok (.arraylength, 1))
    (kk : W p l e R s m args below meth c H locs cells slots Q (F0 m (pc + 1) ls (.int (iI (L : Int)) :: rest))) : W p l e R s m args below meth c H locs cells slots Q (F0 m pc ls (.ref b :: rest)) := by
  refine va_slen hexec hb hX hbl hbA hS hdg ?_
  exact kk
theorem xk_and31 (hexec : p.tables.exec = Jvm.exec) (hb : c.code = cc) {a : Int} (ha : xin a) (hdg : decode cc pc = .ok (.iand, 1))
    (kk : W p l e R s m args below meth c H locs cells slots Q (F0 m (pc + 1) ls (.int (iI (a % 32)) :: rest))) : W p l e R s m args below meth c H locs cells slots Q (F0 m pc ls (.int (iI 31) :: .int (iI a) :: rest)) := by
  refine lv_iand hexec hb hdg ?_
  rw [x_and31 ha]; exact kk
theorem xk_lcmp0 (hexec : p.tables.exec = Jvm.exec) (hb : c.code = cc) {x : Int64} (hdg : decode cc pc = .ok (.lcmp, 1))
    (kk : W p l e R s m args below meth c H locs cells slots Q (F0 m (pc + 1) ls (.int (iI 0) :: rest))) : W p l e R s m args below meth c H locs cells slots Q (F0 m pc ls (.long x :: .long x :: rest)) := by
  refine W.lcmp hexec hb hdg ?_
  rw [x_cmp0]; exact kk
end XLAW2

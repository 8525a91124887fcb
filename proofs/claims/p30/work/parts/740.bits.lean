/-! The law's bits: masks, shifts, a parcel packed into one int. -/
theorem lb_tn (b : Int) : (iI b).toBitVec.toNat = (b % 4294967296).toNat := by
  show (BitVec.ofInt 32 b).toNat = _
  rw [BitVec.toNat_ofInt]
  rfl
theorem lb_and1023 (a : Int) : x_and a 1023 = a % 1024 := by
  have h : iI a &&& iI 1023 = iI (a % 1024) := by
    apply Int32.toBitVec_inj.mp
    apply BitVec.eq_of_toNat_eq
    rw [Int32.toBitVec_and, BitVec.toNat_and]
    have e1 : (iI 1023).toBitVec.toNat = 2 ^ 10 - 1 := by decide
    rw [e1, Nat.and_two_pow_sub_one_eq_mod, lb_tn, lb_tn]
    omega
  unfold x_and
  rw [h]
  exact iI_toInt ⟨by omega, by omega⟩
theorem lb_and63 (a : Int) : x_and a 63 = a % 64 := by
  have h : iI a &&& iI 63 = iI (a % 64) := by
    apply Int32.toBitVec_inj.mp
    apply BitVec.eq_of_toNat_eq
    rw [Int32.toBitVec_and, BitVec.toNat_and]
    have e1 : (iI 63).toBitVec.toNat = 2 ^ 6 - 1 := by decide
    rw [e1, Nat.and_two_pow_sub_one_eq_mod, lb_tn, lb_tn]
    omega
  unfold x_and
  rw [h]
  exact iI_toInt ⟨by omega, by omega⟩
theorem lb_and3 (a : Int) : x_and a 3 = a % 4 := by
  have h : iI a &&& iI 3 = iI (a % 4) := by
    apply Int32.toBitVec_inj.mp
    apply BitVec.eq_of_toNat_eq
    rw [Int32.toBitVec_and, BitVec.toNat_and]
    have e1 : (iI 3).toBitVec.toNat = 2 ^ 2 - 1 := by decide
    rw [e1, Nat.and_two_pow_sub_one_eq_mod, lb_tn, lb_tn]
    omega
  unfold x_and
  rw [h]
  exact iI_toInt ⟨by omega, by omega⟩
theorem lb_andM (a : Int) : x_and a 2147483647 = a % 2147483648 := by
  have h : iI a &&& iI 2147483647 = iI (a % 2147483648) := by
    apply Int32.toBitVec_inj.mp
    apply BitVec.eq_of_toNat_eq
    rw [Int32.toBitVec_and, BitVec.toNat_and]
    have e1 : (iI 2147483647).toBitVec.toNat = 2 ^ 31 - 1 := by decide
    rw [e1, Nat.and_two_pow_sub_one_eq_mod, lb_tn, lb_tn]
    omega
  unfold x_and
  rw [h]
  exact iI_toInt ⟨by omega, by omega⟩
theorem lb_shr {a K : Int} {k : Nat} (h0 : 0 ≤ a) (h1 : a ≤ 2147483647) (hk : ((iI K &&& 31).toBitVec.smod 32).toNat = k) : x_shr a K = a / ((2 ^ k : Nat) : Int) := by
  unfold x_shr
  have e : (iI a >>> (iI K &&& 31)).toInt = ((iI a).toBitVec.sshiftRight ((iI K &&& 31).toBitVec.smod 32).toNat).toInt := rfl
  rw [e, hk, BitVec.toInt_sshiftRight]
  have e2 : (iI a).toBitVec.toInt = a := iI_toInt ⟨by omega, by omega⟩
  rw [e2, Int.shiftRight_eq_div_pow]
theorem lb_shr10 {a : Int} (h0 : 0 ≤ a) (h1 : a ≤ 2147483647) : x_shr a 10 = a / 1024 := lb_shr (k := 10) h0 h1 (by decide)
theorem lb_shr16 {a : Int} (h0 : 0 ≤ a) (h1 : a ≤ 2147483647) : x_shr a 16 = a / 65536 := lb_shr (k := 16) h0 h1 (by decide)
theorem lb_shr18 {a : Int} (h0 : 0 ≤ a) (h1 : a ≤ 2147483647) : x_shr a 18 = a / 262144 := lb_shr (k := 18) h0 h1 (by decide)
theorem lb_shl10 {a : Int} (h0 : 0 ≤ a) (h1 : a * 1024 ≤ 2147483647) : x_shl a 10 = a * 1024 := by
  have h : iI a <<< (iI 10 &&& 31) = iI (a * 1024) := by
    apply Int32.toBitVec_inj.mp
    apply BitVec.eq_of_toNat_eq
    have e : (iI a <<< (iI 10 &&& 31)).toBitVec = (iI a).toBitVec <<< ((iI 10 &&& 31).toBitVec.smod 32).toNat := rfl
    have hk : ((iI 10 &&& 31).toBitVec.smod 32).toNat = 10 := by decide
    rw [e, hk, BitVec.toNat_shiftLeft, lb_tn, lb_tn, Nat.shiftLeft_eq]
    omega
  unfold x_shl
  rw [h]
  exact iI_toInt ⟨by omega, by omega⟩
theorem lb_shl16 {a : Int} (h0 : 0 ≤ a) (h1 : a * 65536 ≤ 2147483647) : x_shl a 16 = a * 65536 := by
  have h : iI a <<< (iI 16 &&& 31) = iI (a * 65536) := by
    apply Int32.toBitVec_inj.mp
    apply BitVec.eq_of_toNat_eq
    have e : (iI a <<< (iI 16 &&& 31)).toBitVec = (iI a).toBitVec <<< ((iI 16 &&& 31).toBitVec.smod 32).toNat := rfl
    have hk : ((iI 16 &&& 31).toBitVec.smod 32).toNat = 16 := by decide
    rw [e, hk, BitVec.toNat_shiftLeft, lb_tn, lb_tn, Nat.shiftLeft_eq]
    omega
  unfold x_shl
  rw [h]
  exact iI_toInt ⟨by omega, by omega⟩
theorem lb_shl18 {a : Int} (h0 : 0 ≤ a) (h1 : a * 262144 ≤ 2147483647) : x_shl a 18 = a * 262144 := by
  have h : iI a <<< (iI 18 &&& 31) = iI (a * 262144) := by
    apply Int32.toBitVec_inj.mp
    apply BitVec.eq_of_toNat_eq
    have e : (iI a <<< (iI 18 &&& 31)).toBitVec = (iI a).toBitVec <<< ((iI 18 &&& 31).toBitVec.smod 32).toNat := rfl
    have hk : ((iI 18 &&& 31).toBitVec.smod 32).toNat = 18 := by decide
    rw [e, hk, BitVec.toNat_shiftLeft, lb_tn, lb_tn, Nat.shiftLeft_eq]
    omega
  unfold x_shl
  rw [h]
  exact iI_toInt ⟨by omega, by omega⟩
theorem lb_or10 {a c : Int} (h0 : 0 ≤ a) (h1 : a < 1024) (c0 : 0 ≤ c) (h2 : a + c * 1024 ≤ 2147483647) : x_or a (c * 1024) = a + c * 1024 := by
  have h : iI a ||| iI (c * 1024) = iI (a + c * 1024) := by
    apply Int32.toBitVec_inj.mp
    apply BitVec.eq_of_toNat_eq
    rw [Int32.toBitVec_or, BitVec.toNat_or, lb_tn, lb_tn, lb_tn]
    have e1 : (a % 4294967296).toNat = a.toNat := by omega
    have e2 : (c * 1024 % 4294967296).toNat = c.toNat <<< 10 := by rw [Nat.shiftLeft_eq]; omega
    have e3 : ((a + c * 1024) % 4294967296).toNat = c.toNat <<< 10 + a.toNat := by rw [Nat.shiftLeft_eq]; omega
    rw [e1, e2, e3, Nat.or_comm]
    exact (Nat.shiftLeft_add_eq_or_of_lt (by omega) _).symm
  unfold x_or
  rw [h]
  exact iI_toInt ⟨by omega, by omega⟩
theorem lb_or16 {a c : Int} (h0 : 0 ≤ a) (h1 : a < 65536) (c0 : 0 ≤ c) (h2 : a + c * 65536 ≤ 2147483647) : x_or a (c * 65536) = a + c * 65536 := by
  have h : iI a ||| iI (c * 65536) = iI (a + c * 65536) := by
    apply Int32.toBitVec_inj.mp
    apply BitVec.eq_of_toNat_eq
    rw [Int32.toBitVec_or, BitVec.toNat_or, lb_tn, lb_tn, lb_tn]
    have e1 : (a % 4294967296).toNat = a.toNat := by omega
    have e2 : (c * 65536 % 4294967296).toNat = c.toNat <<< 16 := by rw [Nat.shiftLeft_eq]; omega
    have e3 : ((a + c * 65536) % 4294967296).toNat = c.toNat <<< 16 + a.toNat := by rw [Nat.shiftLeft_eq]; omega
    rw [e1, e2, e3, Nat.or_comm]
    exact (Nat.shiftLeft_add_eq_or_of_lt (by omega) _).symm
  unfold x_or
  rw [h]
  exact iI_toInt ⟨by omega, by omega⟩
theorem lb_or18 {a c : Int} (h0 : 0 ≤ a) (h1 : a < 262144) (c0 : 0 ≤ c) (h2 : a + c * 262144 ≤ 2147483647) : x_or a (c * 262144) = a + c * 262144 := by
  have h : iI a ||| iI (c * 262144) = iI (a + c * 262144) := by
    apply Int32.toBitVec_inj.mp
    apply BitVec.eq_of_toNat_eq
    rw [Int32.toBitVec_or, BitVec.toNat_or, lb_tn, lb_tn, lb_tn]
    have e1 : (a % 4294967296).toNat = a.toNat := by omega
    have e2 : (c * 262144 % 4294967296).toNat = c.toNat <<< 18 := by rw [Nat.shiftLeft_eq]; omega
    have e3 : ((a + c * 262144) % 4294967296).toNat = c.toNat <<< 18 + a.toNat := by rw [Nat.shiftLeft_eq]; omega
    rw [e1, e2, e3, Nat.or_comm]
    exact (Nat.shiftLeft_add_eq_or_of_lt (by omega) _).symm
  unfold x_or
  rw [h]
  exact iI_toInt ⟨by omega, by omega⟩
/-- a number below n out of any int -/
theorem l_low (v : Int) {n : Int} (h0 : 0 < n) (h1 : n ≤ 1000) : ∃ r, fL_low v n = some r ∧ 0 ≤ r ∧ r < n := by
  unfold fL_low
  rw [lb_andM, z_bind (z_remT (by omega) (by omega) h0 (by omega))]
  exact ⟨_, rfl, Int.emod_nonneg _ (by omega), Int.emod_lt_of_pos _ h0⟩
/-- a parcel in one int -/
def lpk (k w h : Int) : Int := k + w * 1024 + zwh h * 65536 + (zof h + 1) * 262144
theorem zwh_rng (h : Int) : 0 ≤ zwh h ∧ zwh h ≤ 2 := by unfold zwh; split <;> (try split) <;> omega
theorem zof_rng {h : Int} (hh : h ≤ 4000) : -1 ≤ zof h ∧ zof h ≤ 4000 := by unfold zof; split <;> omega
theorem lb_pack {k w h : Int} (k0 : 0 ≤ k) (k1 : k ≤ 999) (w0 : 1 ≤ w) (w1 : w ≤ 50) (hh : h ≤ 4000) : fL_pack k w (zwh h) (zof h) = some (lpk k w h) := by
  have r1 := zwh_rng h
  have r2 := zof_rng hh
  unfold fL_pack lpk
  rw [lb_shl10 (by omega) (by omega), lb_or10 k0 (by omega) (by omega) (by omega), lb_shl16 r1.1 (by omega), lb_or16 (by omega) (by omega) (by omega) (by omega), lb_shl18 (by omega) (by omega), lb_or18 (by omega) (by omega) (by omega) (by omega)]

/-! The model's row of numbers: what its readers answer. -/
def zwh (h : Int) : Int := if h = -1 then 0 else if h = -2 then 2 else 1
def zof (h : Int) : Int := if h < 0 then -1 else h
def zM (now K W H : Int → Int) (n : Int) : Prop := now 1 = n ∧ ∀ p, 0 ≤ p → p < n → now (250 + 4 * p + 0) = K p ∧ now (250 + 4 * p + 1) = W p ∧ now (250 + 4 * p + 2) = zwh (H p) ∧ now (250 + 4 * p + 3) = zof (H p)
section ZMOD
variable {x : ModS} {K W H : Int → Int} {n : Int}
theorem z5_of {p w : Int} (h0 : 0 ≤ p) (h1 : p < 120) (h2 : 0 ≤ w) (h3 : w < 4) : f5_of x p w = some (g5_now x (250 + 4 * p + w)) := by
  unfold f5_of
  rw [z_bind (z_ldT (by omega) (by show _ < (730 : Int); omega))]
theorem z5_n (hM : zM (g5_now x) K W H n) : x_ld 730 (g5_now x) 1 = some n := by
  rw [z_ldT (by decide) (by decide), hM.1]
theorem z5_ofK (hM : zM (g5_now x) K W H n) (hP : zP K W H n) {p : Int} (h0 : 0 ≤ p) (h1 : p < n) : f5_of x p 0 = some (K p) := by
  have := hP.2.1
  rw [z5_of h0 (by omega) (by decide) (by decide), (hM.2 p h0 h1).1]
theorem z5_ofW (hM : zM (g5_now x) K W H n) (hP : zP K W H n) {p : Int} (h0 : 0 ≤ p) (h1 : p < n) : f5_of x p 1 = some (W p) := by
  have := hP.2.1
  rw [z5_of h0 (by omega) (by decide) (by decide), (hM.2 p h0 h1).2.1]
theorem z5_ofA (hM : zM (g5_now x) K W H n) (hP : zP K W H n) {p : Int} (h0 : 0 ≤ p) (h1 : p < n) : f5_of x p 2 = some (zwh (H p)) := by
  have := hP.2.1
  rw [z5_of h0 (by omega) (by decide) (by decide), (hM.2 p h0 h1).2.2.1]
theorem z5_ofO (hM : zM (g5_now x) K W H n) (hP : zP K W H n) {p : Int} (h0 : 0 ≤ p) (h1 : p < n) : f5_of x p 3 = some (zof (H p)) := by
  have := hP.2.1
  rw [z5_of h0 (by omega) (by decide) (by decide), (hM.2 p h0 h1).2.2.2]
theorem zwh_xin (h : Int) : xin (zwh h) := by unfold zwh; split <;> (try split) <;> exact ⟨by omega, by omega⟩
theorem zof_xin {h : Int} (hh : h ≤ 1000000000) : xin (zof h) := by unfold zof; split <;> exact ⟨by omega, by omega⟩
theorem zwh_0 {h : Int} : zwh h = 0 ↔ h = -1 := by unfold zwh; split <;> (try split) <;> omega
theorem zwh_2 {h : Int} : zwh h = 2 ↔ h = -2 := by unfold zwh; split <;> (try split) <;> omega
theorem zwh_1 {h : Int} (hh : -2 ≤ h) : zwh h = 1 ↔ 0 ≤ h := by unfold zwh; split <;> (try split) <;> omega
theorem zof_0 {h : Int} (hh : 0 ≤ h) : zof h = h := by unfold zof; rw [if_neg (by omega)]
theorem zwo_inj {h g : Int} (hh : -2 ≤ h) (hg : -2 ≤ g) : (zwh h = zwh g ∧ zof h = zof g) ↔ h = g := by
  constructor
  · intro q
    unfold zwh zof at q
    repeat' split at q
    all_goals omega
  · intro q; subst q; exact ⟨rfl, rfl⟩
theorem z5_isLess (hM : zM (g5_now x) K W H n) (hP : zP K W H n) {p q : Int} (hp0 : 0 ≤ p) (hp1 : p < n) (hq0 : 0 ≤ q) (hq1 : q < n) : f5_isLess x p q = some (if zl K p q then 1 else 0) := by
  have h120 := hP.2.1
  have hp := hP.2.2 p hp0 hp1
  have hq := hP.2.2 q hq0 hq1
  unfold f5_isLess
  rw [z_bind (z5_ofK hM hP hp0 hp1), z_bind (z5_ofK hM hP hq0 hq1)]
  by_cases a : K p < K q
  · rw [z_ltT ⟨by omega, by omega⟩ ⟨by omega, by omega⟩ a, if_pos (Or.inl a)]
  · rw [z_ltF ⟨by omega, by omega⟩ ⟨by omega, by omega⟩ a, z_bind (z5_ofK hM hP hp0 hp1), z_bind (z5_ofK hM hP hq0 hq1)]
    by_cases c : K p = K q
    · rw [z_eqT ⟨by omega, by omega⟩ c]
      by_cases d : p < q
      · rw [z_ltT ⟨by omega, by omega⟩ ⟨by omega, by omega⟩ d, if_pos (Or.inr ⟨c, d⟩)]
      · rw [z_ltF ⟨by omega, by omega⟩ ⟨by omega, by omega⟩ d, if_neg (by omega)]
    · rw [z_eqF ⟨by omega, by omega⟩ ⟨by omega, by omega⟩ c, if_neg (by omega)]
theorem z5_isOf (hM : zM (g5_now x) K W H n) (hP : zP K W H n) {p r : Int} (hp0 : 0 ≤ p) (hp1 : p < n) (hr : 0 ≤ r) (hx : xin r) : f5_isOf x p r = some (if H p = r then 1 else 0) := by
  have hp := hP.2.2 p hp0 hp1
  unfold f5_isOf
  rw [z_bind (z5_ofA hM hP hp0 hp1)]
  by_cases a : 0 ≤ H p
  · rw [z_eqT (zwh_xin _) ((zwh_1 hp.2.2.2.2.1).mpr a), z_bind (z5_ofO hM hP hp0 hp1), zof_0 a]
    by_cases c : H p = r
    · rw [z_eqT ⟨by omega, by omega⟩ c, if_pos c]
    · rw [z_eqF ⟨by omega, by omega⟩ hx c, if_neg c]
  · rw [z_eqF (zwh_xin _) (by decide) (fun q => a ((zwh_1 hp.2.2.2.2.1).mp q)), if_neg (by omega)]
theorem z5_tog (hM : zM (g5_now x) K W H n) (hP : zP K W H n) {p q : Int} (hp0 : 0 ≤ p) (hp1 : p < n) (hq0 : 0 ≤ q) (hq1 : q < n) : f5_areTogether x p q = some (if H q = H p then 1 else 0) := by
  have hp := hP.2.2 p hp0 hp1
  have hq := hP.2.2 q hq0 hq1
  unfold f5_areTogether
  rw [z_bind (z5_ofA hM hP hp0 hp1), z_bind (z5_ofA hM hP hq0 hq1)]
  have key := zwo_inj hp.2.2.2.2.1 hq.2.2.2.2.1
  by_cases a : zwh (H p) = zwh (H q)
  · rw [z_eqT (zwh_xin _) a, z_bind (z5_ofO hM hP hp0 hp1), z_bind (z5_ofO hM hP hq0 hq1)]
    by_cases c : zof (H p) = zof (H q)
    · rw [z_eqT (zof_xin hp.2.2.2.2.2) c, if_pos (key.mp ⟨a, c⟩).symm]
    · rw [z_eqF (zof_xin hp.2.2.2.2.2) (zof_xin hq.2.2.2.2.2) c, if_neg (fun z => c (key.mpr z.symm).2)]
  · rw [z_eqF (zwh_xin _) (zwh_xin _) a, if_neg (fun z => a (key.mpr z.symm).1)]

theorem z5_manyL (hM : zM (g5_now x) K W H n) (hP : zP K W H n) {c : Int} (hc : xin c) : ∀ (m fu : Nat) (acc i : Int), 0 ≤ i → i + (m : Int) = n → m < fu → f5_many_L4 x c fu acc i = some (acc + xS (fun p => if zwh (H p) = c then 1 else 0) i m)
  | 0, 0, _, _, _, _, q => by omega
  | m + 1, 0, _, _, _, _, q => by omega
  | 0, fu + 1, acc, i, h0, h1, _ => by
    have hn := hP.2.1
    unfold f5_many_L4
    rw [z_bind (z5_n hM), z_ltF ⟨by omega, by omega⟩ ⟨by omega, by omega⟩ (by omega)]
    show some acc = some (acc + 0)
    rw [Int.add_zero]
  | m + 1, fu + 1, acc, i, h0, h1, q => by
    have hn := hP.2.1
    unfold f5_many_L4
    rw [z_bind (z5_n hM), z_ltT ⟨by omega, by omega⟩ ⟨by omega, by omega⟩ (by omega), z_bind (z5_ofA hM hP h0 (by omega))]
    by_cases e : zwh (H i) = c
    · rw [z_eqT (zwh_xin _) e, z5_manyL hM hP hc m fu _ _ (by omega) (by omega) (by omega)]
      show _ = some (acc + ((if zwh (H i) = c then 1 else 0) + xS (fun p => if zwh (H p) = c then 1 else 0) (i + 1) m))
      rw [if_pos e]
      exact congrArg some (by omega)
    · rw [z_eqF (zwh_xin _) hc e, z5_manyL hM hP hc m fu _ _ (by omega) (by omega) (by omega)]
      show _ = some (acc + ((if zwh (H i) = c then 1 else 0) + xS (fun p => if zwh (H p) = c then 1 else 0) (i + 1) m))
      rw [if_neg e]
      exact congrArg some (by omega)
theorem z5_many (hM : zM (g5_now x) K W H n) (hP : zP K W H n) {c : Int} (hc : xin c) : f5_many x c = some (xS (fun p => if zwh (H p) = c then 1 else 0) 0 n.toNat) := by
  have h0 := hP.1
  have h1 := hP.2.1
  unfold f5_many
  rw [z5_manyL hM hP hc n.toNat xFU 0 0 (by omega) (by omega) (by unfold xFU; omega), Int.zero_add]
theorem z5_many0 (hM : zM (g5_now x) K W H n) (hP : zP K W H n) : f5_many x 0 = some (zC H (-1) n) := by
  rw [z5_many hM hP (by decide)]
  refine congrArg some (xS_congr _ _ (fun p _ _ => ?_))
  by_cases e : H p = -1
  · rw [if_pos (zwh_0.mpr e), if_pos e]
  · rw [if_neg (fun z => e (zwh_0.mp z)), if_neg e]
theorem z5_many2 (hM : zM (g5_now x) K W H n) (hP : zP K W H n) : f5_many x 2 = some (zC H (-2) n) := by
  rw [z5_many hM hP (by decide)]
  refine congrArg some (xS_congr _ _ (fun p _ _ => ?_))
  by_cases e : H p = -2
  · rw [if_pos (zwh_2.mpr e), if_pos e]
  · rw [if_neg (fun z => e (zwh_2.mp z)), if_neg e]
theorem z5_manyOfL (hM : zM (g5_now x) K W H n) (hP : zP K W H n) {r : Int} (hr : 0 ≤ r) (hx : xin r) : ∀ (m fu : Nat) (acc i : Int), 0 ≤ i → i + (m : Int) = n → m < fu → f5_manyOf_L4 x r fu acc i = some (acc + xS (fun p => if H p = r then 1 else 0) i m)
  | 0, 0, _, _, _, _, q => by omega
  | m + 1, 0, _, _, _, _, q => by omega
  | 0, fu + 1, acc, i, h0, h1, _ => by
    have hn := hP.2.1
    unfold f5_manyOf_L4
    rw [z_bind (z5_n hM), z_ltF ⟨by omega, by omega⟩ ⟨by omega, by omega⟩ (by omega)]
    show some acc = some (acc + 0)
    rw [Int.add_zero]
  | m + 1, fu + 1, acc, i, h0, h1, q => by
    have hn := hP.2.1
    unfold f5_manyOf_L4
    rw [z_bind (z5_n hM), z_ltT ⟨by omega, by omega⟩ ⟨by omega, by omega⟩ (by omega), z_bind (z5_isOf hM hP h0 (by omega) hr hx)]
    by_cases e : H i = r
    · rw [if_pos e, z_eqF (by decide) (by decide) (by decide), z5_manyOfL hM hP hr hx m fu _ _ (by omega) (by omega) (by omega)]
      show _ = some (acc + ((if H i = r then 1 else 0) + xS (fun p => if H p = r then 1 else 0) (i + 1) m))
      rw [if_pos e]
      exact congrArg some (by omega)
    · rw [if_neg e, z_eqT (by decide) rfl, z5_manyOfL hM hP hr hx m fu _ _ (by omega) (by omega) (by omega)]
      show _ = some (acc + ((if H i = r then 1 else 0) + xS (fun p => if H p = r then 1 else 0) (i + 1) m))
      rw [if_neg e]
      exact congrArg some (by omega)
theorem z5_manyOf (hM : zM (g5_now x) K W H n) (hP : zP K W H n) {r : Int} (hr : 0 ≤ r) (hx : xin r) : f5_manyOf x r = some (xS (fun p => if H p = r then 1 else 0) 0 n.toNat) := by
  have h0 := hP.1
  have h1 := hP.2.1
  unfold f5_manyOf
  rw [z5_manyOfL hM hP hr hx n.toNat xFU 0 0 (by omega) (by omega) (by unfold xFU; omega), Int.zero_add]
theorem z5_weightOfL (hM : zM (g5_now x) K W H n) (hP : zP K W H n) {r : Int} (hr : 0 ≤ r) (hx : xin r) : ∀ (m fu : Nat) (acc i : Int), 0 ≤ i → i + (m : Int) = n → m < fu → f5_weightOf_L4 x r fu acc i = some (acc + xS (fun p => if H p = r then W p else 0) i m)
  | 0, 0, _, _, _, _, q => by omega
  | m + 1, 0, _, _, _, _, q => by omega
  | 0, fu + 1, acc, i, h0, h1, _ => by
    have hn := hP.2.1
    unfold f5_weightOf_L4
    rw [z_bind (z5_n hM), z_ltF ⟨by omega, by omega⟩ ⟨by omega, by omega⟩ (by omega)]
    show some acc = some (acc + 0)
    rw [Int.add_zero]
  | m + 1, fu + 1, acc, i, h0, h1, q => by
    have hn := hP.2.1
    unfold f5_weightOf_L4
    rw [z_bind (z5_n hM), z_ltT ⟨by omega, by omega⟩ ⟨by omega, by omega⟩ (by omega), z_bind (z5_isOf hM hP h0 (by omega) hr hx)]
    by_cases e : H i = r
    · rw [if_pos e, z_eqF (by decide) (by decide) (by decide), z_bind (z5_ofW hM hP h0 (by omega)), z5_weightOfL hM hP hr hx m fu _ _ (by omega) (by omega) (by omega)]
      show _ = some (acc + ((if H i = r then W i else 0) + xS (fun p => if H p = r then W p else 0) (i + 1) m))
      rw [if_pos e]
      exact congrArg some (by omega)
    · rw [if_neg e, z_eqT (by decide) rfl, z5_weightOfL hM hP hr hx m fu _ _ (by omega) (by omega) (by omega)]
      show _ = some (acc + ((if H i = r then W i else 0) + xS (fun p => if H p = r then W p else 0) (i + 1) m))
      rw [if_neg e]
      exact congrArg some (by omega)
theorem z5_weightOf (hM : zM (g5_now x) K W H n) (hP : zP K W H n) {r : Int} (hr : 0 ≤ r) (hx : xin r) : f5_weightOf x r = some (xS (fun p => if H p = r then W p else 0) 0 n.toNat) := by
  have h0 := hP.1
  have h1 := hP.2.1
  unfold f5_weightOf
  rw [z5_weightOfL hM hP hr hx n.toNat xFU 0 0 (by omega) (by omega) (by unfold xFU; omega), Int.zero_add]
theorem z5_placeInL (hM : zM (g5_now x) K W H n) (hP : zP K W H n) {r : Int} (hr0 : 0 ≤ r) (hr1 : r < n) : ∀ (m fu : Nat) (acc i : Int), 0 ≤ i → i + (m : Int) = n → m < fu → f5_placeIn_L4 x r fu acc i = some (acc + xS (fun q => if H q = H r ∧ zl K q r then 1 else 0) i m)
  | 0, 0, _, _, _, _, q => by omega
  | m + 1, 0, _, _, _, _, q => by omega
  | 0, fu + 1, acc, i, h0, h1, _ => by
    have hn := hP.2.1
    unfold f5_placeIn_L4
    rw [z_bind (z5_n hM), z_ltF ⟨by omega, by omega⟩ ⟨by omega, by omega⟩ (by omega)]
    show some acc = some (acc + 0)
    rw [Int.add_zero]
  | m + 1, fu + 1, acc, i, h0, h1, q => by
    have hn := hP.2.1
    unfold f5_placeIn_L4
    rw [z_bind (z5_n hM), z_ltT ⟨by omega, by omega⟩ ⟨by omega, by omega⟩ (by omega), z_bind (z5_tog hM hP hr0 hr1 h0 (by omega))]
    have goal : ∀ (v w : Int), w = v + (if H i = H r ∧ zl K i r then 1 else 0) - 0 → some (w + xS (fun q => if H q = H r ∧ zl K q r then 1 else 0) (i + 1) m) = some (v + ((if H i = H r ∧ zl K i r then 1 else 0) + xS (fun q => if H q = H r ∧ zl K q r then 1 else 0) (i + 1) m)) := fun v w e => congrArg some (by omega)
    by_cases e : H i = H r
    · rw [if_pos e, z_eqF (by decide) (by decide) (by decide), z_bind (z5_isLess hM hP h0 (by omega) hr0 hr1)]
      by_cases d : zl K i r
      · rw [if_pos d, z_eqF (by decide) (by decide) (by decide), z5_placeInL hM hP hr0 hr1 m fu _ _ (by omega) (by omega) (by omega)]
        exact goal acc _ (by rw [if_pos ⟨e, d⟩]; omega)
      · rw [if_neg d, z_eqT (by decide) rfl, z5_placeInL hM hP hr0 hr1 m fu _ _ (by omega) (by omega) (by omega)]
        exact goal acc _ (by rw [if_neg (fun z => d z.2)]; omega)
    · rw [if_neg e, z_eqT (by decide) rfl, z5_placeInL hM hP hr0 hr1 m fu _ _ (by omega) (by omega) (by omega)]
      exact goal acc _ (by rw [if_neg (fun z => e z.1)]; omega)
theorem z5_placeIn (hM : zM (g5_now x) K W H n) (hP : zP K W H n) {r : Int} (hr0 : 0 ≤ r) (hr1 : r < n) : f5_placeIn x r = some (xS (fun q => if H q = H r ∧ zl K q r then 1 else 0) 0 n.toNat) := by
  have h0 := hP.1
  have h1 := hP.2.1
  unfold f5_placeIn
  rw [z5_placeInL hM hP hr0 hr1 n.toNat xFU 0 0 (by omega) (by omega) (by unfold xFU; omega), Int.zero_add]
theorem z5_firstOfL (hM : zM (g5_now x) K W H n) (hP : zP K W H n) {r : Int} (hr : 0 ≤ r) (hx : xin r) : ∀ (m fu : Nat) (b i : Int), 0 ≤ i → i + (m : Int) = n → m < fu → zMin (fun p => H p = r) (zl K) i b → ∃ t, f5_firstOf_L4 x r fu b i = some t ∧ zMin (fun p => H p = r) (zl K) n t
  | 0, 0, _, _, _, _, q, _ => by omega
  | m + 1, 0, _, _, _, _, q, _ => by omega
  | 0, fu + 1, b, i, h0, h1, _, hz => by
    have hn := hP.2.1
    unfold f5_firstOf_L4
    rw [z_bind (z5_n hM), z_ltF ⟨by omega, by omega⟩ ⟨by omega, by omega⟩ (by omega)]
    have e : i = n := by omega
    rw [e] at hz
    exact ⟨b, rfl, hz⟩
  | m + 1, fu + 1, b, i, h0, h1, q, hz => by
    have hn := hP.2.1
    have hbr := zMin_ge hz
    unfold f5_firstOf_L4
    rw [z_bind (z5_n hM), z_ltT ⟨by omega, by omega⟩ ⟨by omega, by omega⟩ (by omega), z_bind (z5_isOf hM hP h0 (by omega) hr hx)]
    by_cases e : H i = r
    · rw [if_pos e, z_eqF (by decide) (by decide) (by decide)]
      by_cases d : b = -1
      · rw [z_eqT ⟨by omega, by omega⟩ d]
        rw [d] at hz
        exact z5_firstOfL hM hP hr hx m fu i (i + 1) (by omega) (by omega) (by omega) (zMin_new h0 hz e)
      · rw [z_eqF ⟨by omega, by omega⟩ (by decide) d, z_bind (z5_isLess hM hP h0 (by omega) (by omega) (by omega))]
        by_cases g : zl K i b
        · rw [if_pos g, z_eqF (by decide) (by decide) (by decide)]
          exact z5_firstOfL hM hP hr hx m fu i (i + 1) (by omega) (by omega) (by omega) (zMin_take (fun _ _ _ => zl_trans) h0 hz d e g)
        · rw [if_neg g, z_eqT (by decide) rfl]
          exact z5_firstOfL hM hP hr hx m fu b (i + 1) (by omega) (by omega) (by omega) (zMin_keep hz d (zl_tri g (by omega)))
    · rw [if_neg e, z_eqT (by decide) rfl]
      exact z5_firstOfL hM hP hr hx m fu b (i + 1) (by omega) (by omega) (by omega) (zMin_no hz e)
theorem z5_firstOf (hM : zM (g5_now x) K W H n) (hP : zP K W H n) {r : Int} (hr : 0 ≤ r) (hx : xin r) : ∃ t, f5_firstOf x r = some t ∧ zMin (fun p => H p = r) (zl K) n t := by
  have h0 := hP.1
  have h1 := hP.2.1
  exact z5_firstOfL hM hP hr hx n.toNat xFU (-1) 0 (by omega) (by omega) (by unfold xFU; omega) zMin_0
theorem z5_lastOfL (hM : zM (g5_now x) K W H n) (hP : zP K W H n) {r : Int} (hr : 0 ≤ r) (hx : xin r) : ∀ (m fu : Nat) (b i : Int), 0 ≤ i → i + (m : Int) = n → m < fu → zMin (fun p => H p = r) (fun a c => zl K c a) i b → ∃ t, f5_lastOf_L4 x r fu b i = some t ∧ zMin (fun p => H p = r) (fun a c => zl K c a) n t
  | 0, 0, _, _, _, _, q, _ => by omega
  | m + 1, 0, _, _, _, _, q, _ => by omega
  | 0, fu + 1, b, i, h0, h1, _, hz => by
    have hn := hP.2.1
    unfold f5_lastOf_L4
    rw [z_bind (z5_n hM), z_ltF ⟨by omega, by omega⟩ ⟨by omega, by omega⟩ (by omega)]
    have e : i = n := by omega
    rw [e] at hz
    exact ⟨b, rfl, hz⟩
  | m + 1, fu + 1, b, i, h0, h1, q, hz => by
    have hn := hP.2.1
    have hbr := zMin_ge hz
    unfold f5_lastOf_L4
    rw [z_bind (z5_n hM), z_ltT ⟨by omega, by omega⟩ ⟨by omega, by omega⟩ (by omega), z_bind (z5_isOf hM hP h0 (by omega) hr hx)]
    by_cases e : H i = r
    · rw [if_pos e, z_eqF (by decide) (by decide) (by decide)]
      by_cases d : b = -1
      · rw [z_eqT ⟨by omega, by omega⟩ d]
        rw [d] at hz
        exact z5_lastOfL hM hP hr hx m fu i (i + 1) (by omega) (by omega) (by omega) (zMin_new h0 hz e)
      · rw [z_eqF ⟨by omega, by omega⟩ (by decide) d, z_bind (z5_isLess hM hP (by omega) (by omega) h0 (by omega))]
        by_cases g : zl K b i
        · rw [if_pos g, z_eqF (by decide) (by decide) (by decide)]
          exact z5_lastOfL hM hP hr hx m fu i (i + 1) (by omega) (by omega) (by omega) (zMin_take (fun _ _ _ g h => zl_trans h g) h0 hz d e g)
        · rw [if_neg g, z_eqT (by decide) rfl]
          exact z5_lastOfL hM hP hr hx m fu b (i + 1) (by omega) (by omega) (by omega) (zMin_keep hz d (zl_tri g (by omega)))
    · rw [if_neg e, z_eqT (by decide) rfl]
      exact z5_lastOfL hM hP hr hx m fu b (i + 1) (by omega) (by omega) (by omega) (zMin_no hz e)
theorem z5_lastOf (hM : zM (g5_now x) K W H n) (hP : zP K W H n) {r : Int} (hr : 0 ≤ r) (hx : xin r) : ∃ t, f5_lastOf x r = some t ∧ zMin (fun p => H p = r) (fun a c => zl K c a) n t := by
  have h0 := hP.1
  have h1 := hP.2.1
  exact z5_lastOfL hM hP hr hx n.toNat xFU (-1) 0 (by omega) (by omega) (by unfold xFU; omega) zMin_0
theorem z5_lastAshoreL (hM : zM (g5_now x) K W H n) (hP : zP K W H n) : ∀ (m fu : Nat) (b i : Int), 0 ≤ i → i + (m : Int) = n → m < fu → zMin (fun p => H p = -2) (fun a c => zl K c a) i b → ∃ t, f5_lastAshore_L4 x fu b i = some t ∧ zMin (fun p => H p = -2) (fun a c => zl K c a) n t
  | 0, 0, _, _, _, _, q, _ => by omega
  | m + 1, 0, _, _, _, _, q, _ => by omega
  | 0, fu + 1, b, i, h0, h1, _, hz => by
    have hn := hP.2.1
    unfold f5_lastAshore_L4
    rw [z_bind (z5_n hM), z_ltF ⟨by omega, by omega⟩ ⟨by omega, by omega⟩ (by omega)]
    have e : i = n := by omega
    rw [e] at hz
    exact ⟨b, rfl, hz⟩
  | m + 1, fu + 1, b, i, h0, h1, q, hz => by
    have hn := hP.2.1
    have hbr := zMin_ge hz
    unfold f5_lastAshore_L4
    rw [z_bind (z5_n hM), z_ltT ⟨by omega, by omega⟩ ⟨by omega, by omega⟩ (by omega), z_bind (z5_ofA hM hP h0 (by omega))]
    by_cases e : H i = -2
    · rw [z_eqT (zwh_xin _) (zwh_2.mpr e)]
      by_cases d : b = -1
      · rw [z_eqT ⟨by omega, by omega⟩ d]
        rw [d] at hz
        exact z5_lastAshoreL hM hP m fu i (i + 1) (by omega) (by omega) (by omega) (zMin_new h0 hz e)
      · rw [z_eqF ⟨by omega, by omega⟩ (by decide) d, z_bind (z5_isLess hM hP (by omega) (by omega) h0 (by omega))]
        by_cases g : zl K b i
        · rw [if_pos g, z_eqF (by decide) (by decide) (by decide)]
          exact z5_lastAshoreL hM hP m fu i (i + 1) (by omega) (by omega) (by omega) (zMin_take (fun _ _ _ g h => zl_trans h g) h0 hz d e g)
        · rw [if_neg g, z_eqT (by decide) rfl]
          exact z5_lastAshoreL hM hP m fu b (i + 1) (by omega) (by omega) (by omega) (zMin_keep hz d (zl_tri g (by omega)))
    · rw [z_eqF (zwh_xin _) (by decide) (fun z => e (zwh_2.mp z))]
      exact z5_lastAshoreL hM hP m fu b (i + 1) (by omega) (by omega) (by omega) (zMin_no hz e)
theorem z5_lastAshore (hM : zM (g5_now x) K W H n) (hP : zP K W H n) : ∃ t, f5_lastAshore x = some t ∧ zMin (fun p => H p = -2) (fun a c => zl K c a) n t := by
  have h0 := hP.1
  have h1 := hP.2.1
  exact z5_lastAshoreL hM hP n.toNat xFU (-1) 0 (by omega) (by omega) (by unfold xFU; omega) zMin_0
theorem z5_leastL (hM : zM (g5_now x) K W H n) (hP : zP K W H n) {k : Int} (hk : k = -1 ∨ (0 ≤ k ∧ k < n)) : ∀ (m fu : Nat) (b i : Int), 0 ≤ i → i + (m : Int) = n → m < fu → zMin (fun p => H p = -1 ∧ (k = -1 ∨ zl K k p)) (zl K) i b → ∃ t, f5_leastInBoat_L4 x k fu b i = some t ∧ zMin (fun p => H p = -1 ∧ (k = -1 ∨ zl K k p)) (zl K) n t
  | 0, 0, _, _, _, _, q, _ => by omega
  | m + 1, 0, _, _, _, _, q, _ => by omega
  | 0, fu + 1, b, i, h0, h1, _, hz => by
    have hn := hP.2.1
    unfold f5_leastInBoat_L4
    rw [z_bind (z5_n hM), z_ltF ⟨by omega, by omega⟩ ⟨by omega, by omega⟩ (by omega)]
    have e : i = n := by omega
    rw [e] at hz
    exact ⟨b, rfl, hz⟩
  | m + 1, fu + 1, b, i, h0, h1, q, hz => by
    have hn := hP.2.1
    have hbr := zMin_ge hz
    unfold f5_leastInBoat_L4
    rw [z_bind (z5_n hM), z_ltT ⟨by omega, by omega⟩ ⟨by omega, by omega⟩ (by omega), z_bind (z5_ofA hM hP h0 (by omega))]
    by_cases e : H i = -1
    · rw [z_eqT (zwh_xin _) (zwh_0.mpr e)]
      by_cases c : k = -1
      · rw [z_eqT ⟨by omega, by omega⟩ c]
        by_cases d : b = -1
        · rw [z_eqT ⟨by omega, by omega⟩ d]
          rw [d] at hz
          exact z5_leastL hM hP hk m fu i (i + 1) (by omega) (by omega) (by omega) (zMin_new h0 hz ⟨e, Or.inl c⟩)
        · rw [z_eqF ⟨by omega, by omega⟩ (by decide) d, z_bind (z5_isLess hM hP h0 (by omega) (by omega) (by omega))]
          by_cases g : zl K i b
          · rw [if_pos g, z_eqF (by decide) (by decide) (by decide)]
            exact z5_leastL hM hP hk m fu i (i + 1) (by omega) (by omega) (by omega) (zMin_take (fun _ _ _ => zl_trans) h0 hz d ⟨e, Or.inl c⟩ g)
          · rw [if_neg g, z_eqT (by decide) rfl]
            exact z5_leastL hM hP hk m fu b (i + 1) (by omega) (by omega) (by omega) (zMin_keep hz d (zl_tri g (by omega)))
      · rw [z_eqF ⟨by omega, by omega⟩ (by decide) c, z_bind (z5_isLess hM hP (by omega) (by omega) h0 (by omega))]
        by_cases f : zl K k i
        · rw [if_pos f, z_eqF (by decide) (by decide) (by decide)]
          by_cases d : b = -1
          · rw [z_eqT ⟨by omega, by omega⟩ d]
            rw [d] at hz
            exact z5_leastL hM hP hk m fu i (i + 1) (by omega) (by omega) (by omega) (zMin_new h0 hz ⟨e, Or.inr f⟩)
          · rw [z_eqF ⟨by omega, by omega⟩ (by decide) d, z_bind (z5_isLess hM hP h0 (by omega) (by omega) (by omega))]
            by_cases g : zl K i b
            · rw [if_pos g, z_eqF (by decide) (by decide) (by decide)]
              exact z5_leastL hM hP hk m fu i (i + 1) (by omega) (by omega) (by omega) (zMin_take (fun _ _ _ => zl_trans) h0 hz d ⟨e, Or.inr f⟩ g)
            · rw [if_neg g, z_eqT (by decide) rfl]
              exact z5_leastL hM hP hk m fu b (i + 1) (by omega) (by omega) (by omega) (zMin_keep hz d (zl_tri g (by omega)))
        · rw [if_neg f, z_eqT (by decide) rfl]
          exact z5_leastL hM hP hk m fu b (i + 1) (by omega) (by omega) (by omega) (zMin_no hz (fun z => z.2.elim c f))
    · rw [z_eqF (zwh_xin _) (by decide) (fun z => e (zwh_0.mp z))]
      exact z5_leastL hM hP hk m fu b (i + 1) (by omega) (by omega) (by omega) (zMin_no hz (fun z => e z.1))
theorem z5_least (hM : zM (g5_now x) K W H n) (hP : zP K W H n) {k : Int} (hk : k = -1 ∨ (0 ≤ k ∧ k < n)) : ∃ t, f5_leastInBoat x k = some t ∧ zMin (fun p => H p = -1 ∧ (k = -1 ∨ zl K k p)) (zl K) n t := by
  have h0 := hP.1
  have h1 := hP.2.1
  exact z5_leastL hM hP hk n.toNat xFU (-1) 0 (by omega) (by omega) (by unfold xFU; omega) zMin_0
end ZMOD

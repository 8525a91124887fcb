/-! Numbers: an int of the machine as an Int, its low 32 bits; likewise for longs. -/
def iI (a : Int) : Int32 := Int32.ofInt a
def iL (a : Int) : Int64 := Int64.ofInt a
abbrev xin (a : Int) : Prop := -2147483648 ≤ a ∧ a ≤ 2147483647
theorem iI_toInt {a : Int} (h : xin a) : (iI a).toInt = a := Int32.toInt_ofInt_of_le (by omega) (by omega)
theorem iI_self (x : Int32) : iI x.toInt = x := Int32.ofInt_toInt x
theorem iI_xin (x : Int32) : xin x.toInt := by
  have h1 := Int32.le_toInt x
  have h2 := Int32.toInt_lt x
  exact ⟨by omega, by omega⟩
theorem iI_lt {a b : Int} (ha : xin a) (hb : xin b) : iI a < iI b ↔ a < b := by
  rw [Int32.lt_iff_toInt_lt, iI_toInt ha, iI_toInt hb]
theorem iI_le {a b : Int} (ha : xin a) (hb : xin b) : iI a ≤ iI b ↔ a ≤ b := by
  rw [Int32.le_iff_toInt_le, iI_toInt ha, iI_toInt hb]
theorem iI_eq {a b : Int} (ha : xin a) (hb : xin b) : iI a = iI b ↔ a = b := by
  rw [← Int32.toInt_inj, iI_toInt ha, iI_toInt hb]
theorem iI_add (a b : Int) : iI a + iI b = iI (a + b) := (Int32.ofInt_add a b).symm
theorem iI_sub (a b : Int) : iI a - iI b = iI (a - b) := (Int32.ofInt_sub a b).symm
theorem iI_mul (a b : Int) : iI a * iI b = iI (a * b) := (Int32.ofInt_mul a b).symm
theorem iI_neg (a : Int) : - iI a = iI (-a) := (Int32.ofInt_neg a).symm
theorem iI_0 : iI 0 = 0 := by decide
theorem iI_nat (n : Nat) : Int32.ofNat n = iI (n : Int) := Int32.ofInt_eq_ofNat.symm
theorem iI_clamp {a : Int} (h0 : 0 ≤ a) (h : a ≤ 2147483647) : (iI a).toNatClampNeg = a.toNat := by
  show (iI a).toInt.toNat = a.toNat
  rw [iI_toInt ⟨by omega, h⟩]
theorem iI_in {a : Int} {N : Nat} (h0 : 0 ≤ a) (h : a < N) (hN : N ≤ 2147483647) : vp_in (iI a) N := by
  intro q
  rcases q with q | q
  · rw [← iI_0, iI_lt ⟨by omega, by omega⟩ ⟨by omega, by omega⟩] at q
    omega
  · rw [iI_clamp h0 (by omega)] at q
    omega
theorem iL_toInt {a : Int} (h : -9223372036854775808 ≤ a ∧ a ≤ 9223372036854775807) : (iL a).toInt = a := Int64.toInt_ofInt_of_le (by omega) (by omega)
theorem iL_add (a b : Int) : iL a + iL b = iL (a + b) := (Int64.ofInt_add a b).symm
theorem iL_mul (a b : Int) : iL a * iL b = iL (a * b) := (Int64.ofInt_mul a b).symm
theorem iL_sub (a b : Int) : iL a - iL b = iL (a - b) := (Int64.ofInt_sub a b).symm
theorem iL_i2l {a : Int} (h : xin a) : (iI a).toInt64 = iL a := Int32.toInt64_ofInt (by rw [Int32.toInt_minValue]; omega) (by rw [Int32.toInt_maxValue]; omega)
theorem iL_l2i (a : Int) : (iL a).toInt32 = iI a := Int64.toInt32_ofInt
theorem iL_div {a b : Int} (h0 : 0 ≤ a) (h1 : a ≤ 9223372036854775807) (h2 : 0 < b) (h3 : b ≤ 9223372036854775807) : iL a / iL b = iL (a / b) := by
  apply Int64.toInt_inj.mp
  have hd : 0 ≤ a / b := Int.ediv_nonneg h0 (by omega)
  have hd2 : a / b ≤ a := Int.ediv_le_self b h0
  rw [Int64.toInt_div_of_ne_right _ _ (fun q => by
    have := congrArg Int64.toInt q
    rw [iL_toInt ⟨by omega, by omega⟩] at this
    have h9 : (-1 : Int64).toInt = -1 := by decide
    omega), iL_toInt ⟨by omega, h1⟩, iL_toInt ⟨by omega, h3⟩, iL_toInt ⟨by omega, by omega⟩]
  exact Int.tdiv_eq_ediv_of_nonneg h0
theorem iI_div {a b : Int} (h0 : 0 ≤ a) (h1 : a ≤ 2147483647) (h2 : 0 < b) (h3 : b ≤ 2147483647) : iI a / iI b = iI (a / b) := by
  apply Int32.toInt_inj.mp
  have hd : 0 ≤ a / b := Int.ediv_nonneg h0 (by omega)
  have hd2 : a / b ≤ a := Int.ediv_le_self b h0
  rw [Int32.toInt_div_of_ne_right _ _ (fun q => by
    have := congrArg Int32.toInt q
    rw [iI_toInt ⟨by omega, by omega⟩] at this
    have h9 : (-1 : Int32).toInt = -1 := by decide
    omega), iI_toInt ⟨by omega, h1⟩, iI_toInt ⟨by omega, h3⟩, iI_toInt ⟨by omega, by omega⟩]
  exact Int.tdiv_eq_ediv_of_nonneg h0
theorem iI_ne0 {b : Int} (h2 : 0 < b) (h3 : b ≤ 2147483647) : ¬ iI b = 0 := by
  rw [← iI_0, iI_eq ⟨by omega, by omega⟩ ⟨by omega, by omega⟩]; omega
theorem iL_0 : iL 0 = 0 := by decide
theorem iL_ne0 {b : Int} (h2 : 0 < b) (h3 : b ≤ 9223372036854775807) : ¬ iL b = 0 := by
  intro q
  have := congrArg Int64.toInt q
  rw [iL_toInt ⟨by omega, h3⟩] at this
  have h9 : (0 : Int64).toInt = 0 := by decide
  omega
theorem iI_rem {a b : Int} (h0 : 0 ≤ a) (h1 : a ≤ 2147483647) (h2 : 0 < b) (h3 : b ≤ 2147483647) : iI a - iI a / iI b * iI b = iI (a % b) := by
  rw [iI_div h0 h1 h2 h3, iI_mul, iI_sub]
  congr 1
  have := Int.emod_add_mul_ediv a b
  rw [Int.mul_comm] at this
  omega
theorem iL_rem {a b : Int} (h0 : 0 ≤ a) (h1 : a ≤ 9223372036854775807) (h2 : 0 < b) (h3 : b ≤ 9223372036854775807) : iL a - iL a / iL b * iL b = iL (a % b) := by
  rw [iL_div h0 h1 h2 h3, iL_mul, iL_sub]
  congr 1
  have := Int.emod_add_mul_ediv a b
  rw [Int.mul_comm] at this
  omega
/-! The words of the pure functions. -/
def x_lt {α : Type} (a b : Int) (T E : Option α) : Option α := if xin a ∧ xin b then (if a < b then T else E) else none
def x_eq {α : Type} (a b : Int) (T E : Option α) : Option α := if xin a ∧ xin b then (if a = b then T else E) else none
def x_ck {α : Type} (a : Int) (T : Option α) : Option α := if xin a then T else none
def x_ld (N : Nat) (f : Int → Int) (i : Int) : Option Int := if 0 ≤ i ∧ i < (N : Int) then some (f i) else none
def x_up {α : Type} (f : Int → α) (i : Int) (v : α) : Int → α := fun j => if j = i then v else f j
def x_st (N : Nat) (f : Int → Int) (i v : Int) : Option (Int → Int) := if 0 ≤ i ∧ i < (N : Int) then some (x_up f i v) else none
def x_stZ (N : Nat) (f : Int → Int) (i v : Int) : Option (Int → Int) := if 0 ≤ i ∧ i < (N : Int) ∧ (v = 0 ∨ v = 1) then some (x_up f i v) else none
def x_div (a b : Int) : Option Int := if 0 ≤ a ∧ a ≤ 2147483647 ∧ 0 < b ∧ b ≤ 2147483647 then some (a / b) else none
def x_rem (a b : Int) : Option Int := if 0 ≤ a ∧ a ≤ 2147483647 ∧ 0 < b ∧ b ≤ 2147483647 then some (a % b) else none
def x_ldiv (a b : Int) : Option Int := if 0 ≤ a ∧ a ≤ 9223372036854775807 ∧ 0 < b ∧ b ≤ 9223372036854775807 then some (a / b) else none
def x_lrem (a b : Int) : Option Int := if 0 ≤ a ∧ a ≤ 9223372036854775807 ∧ 0 < b ∧ b ≤ 9223372036854775807 then some (a % b) else none
def x_boo (v : Int) : Option Int := if v = 0 ∨ v = 1 then some v else none
def xFU : Nat := 100000
theorem x_bind {α β : Type} {o : Option α} {f : α → Option β} {r : β} (h : o.bind f = some r) : ∃ v, o = some v ∧ f v = some r := by
  cases o with
  | none => cases h
  | some v => exact ⟨v, rfl, h⟩
theorem x_ltE {α : Type} {a b : Int} {T E : Option α} {r : α} (h : x_lt a b T E = some r) : xin a ∧ xin b ∧ (a < b → T = some r) ∧ (¬ a < b → E = some r) := by
  unfold x_lt at h
  by_cases hc : xin a ∧ xin b
  · rw [if_pos hc] at h
    exact ⟨hc.1, hc.2, fun q => by rw [if_pos q] at h; exact h, fun q => by rw [if_neg q] at h; exact h⟩
  · rw [if_neg hc] at h; cases h
theorem x_eqE {α : Type} {a b : Int} {T E : Option α} {r : α} (h : x_eq a b T E = some r) : xin a ∧ xin b ∧ (a = b → T = some r) ∧ (¬ a = b → E = some r) := by
  unfold x_eq at h
  by_cases hc : xin a ∧ xin b
  · rw [if_pos hc] at h
    exact ⟨hc.1, hc.2, fun q => by rw [if_pos q] at h; exact h, fun q => by rw [if_neg q] at h; exact h⟩
  · rw [if_neg hc] at h; cases h
theorem x_ckE {α : Type} {a : Int} {T : Option α} {r : α} (h : x_ck a T = some r) : xin a ∧ T = some r := by
  unfold x_ck at h
  by_cases hc : xin a
  · rw [if_pos hc] at h; exact ⟨hc, h⟩
  · rw [if_neg hc] at h; cases h
theorem x_ldE {N : Nat} {f : Int → Int} {i v : Int} (h : x_ld N f i = some v) : 0 ≤ i ∧ i < (N : Int) ∧ f i = v := by
  unfold x_ld at h
  by_cases hc : 0 ≤ i ∧ i < (N : Int)
  · rw [if_pos hc] at h; exact ⟨hc.1, hc.2, Option.some.inj h⟩
  · rw [if_neg hc] at h; cases h
theorem x_stE {N : Nat} {f g : Int → Int} {i v : Int} (h : x_st N f i v = some g) : 0 ≤ i ∧ i < (N : Int) ∧ x_up f i v = g := by
  unfold x_st at h
  by_cases hc : 0 ≤ i ∧ i < (N : Int)
  · rw [if_pos hc] at h; exact ⟨hc.1, hc.2, Option.some.inj h⟩
  · rw [if_neg hc] at h; cases h
theorem x_stZE {N : Nat} {f g : Int → Int} {i v : Int} (h : x_stZ N f i v = some g) : 0 ≤ i ∧ i < (N : Int) ∧ (v = 0 ∨ v = 1) ∧ x_up f i v = g := by
  unfold x_stZ at h
  by_cases hc : 0 ≤ i ∧ i < (N : Int) ∧ (v = 0 ∨ v = 1)
  · rw [if_pos hc] at h; exact ⟨hc.1, hc.2.1, hc.2.2, Option.some.inj h⟩
  · rw [if_neg hc] at h; cases h
theorem x_divE {a b v : Int} (h : x_div a b = some v) : 0 ≤ a ∧ a ≤ 2147483647 ∧ 0 < b ∧ b ≤ 2147483647 ∧ a / b = v := by
  unfold x_div at h
  by_cases hc : 0 ≤ a ∧ a ≤ 2147483647 ∧ 0 < b ∧ b ≤ 2147483647
  · rw [if_pos hc] at h; exact ⟨hc.1, hc.2.1, hc.2.2.1, hc.2.2.2, Option.some.inj h⟩
  · rw [if_neg hc] at h; cases h
theorem x_remE {a b v : Int} (h : x_rem a b = some v) : 0 ≤ a ∧ a ≤ 2147483647 ∧ 0 < b ∧ b ≤ 2147483647 ∧ a % b = v := by
  unfold x_rem at h
  by_cases hc : 0 ≤ a ∧ a ≤ 2147483647 ∧ 0 < b ∧ b ≤ 2147483647
  · rw [if_pos hc] at h; exact ⟨hc.1, hc.2.1, hc.2.2.1, hc.2.2.2, Option.some.inj h⟩
  · rw [if_neg hc] at h; cases h
theorem x_ldivE {a b v : Int} (h : x_ldiv a b = some v) : 0 ≤ a ∧ a ≤ 9223372036854775807 ∧ 0 < b ∧ b ≤ 9223372036854775807 ∧ a / b = v := by
  unfold x_ldiv at h
  by_cases hc : 0 ≤ a ∧ a ≤ 9223372036854775807 ∧ 0 < b ∧ b ≤ 9223372036854775807
  · rw [if_pos hc] at h; exact ⟨hc.1, hc.2.1, hc.2.2.1, hc.2.2.2, Option.some.inj h⟩
  · rw [if_neg hc] at h; cases h
theorem x_lremE {a b v : Int} (h : x_lrem a b = some v) : 0 ≤ a ∧ a ≤ 9223372036854775807 ∧ 0 < b ∧ b ≤ 9223372036854775807 ∧ a % b = v := by
  unfold x_lrem at h
  by_cases hc : 0 ≤ a ∧ a ≤ 9223372036854775807 ∧ 0 < b ∧ b ≤ 9223372036854775807
  · rw [if_pos hc] at h; exact ⟨hc.1, hc.2.1, hc.2.2.1, hc.2.2.2, Option.some.inj h⟩
  · rw [if_neg hc] at h; cases h
theorem x_booE {v r : Int} (h : x_boo v = some r) : (v = 0 ∨ v = 1) ∧ v = r := by
  unfold x_boo at h
  by_cases hc : v = 0 ∨ v = 1
  · rw [if_pos hc] at h; exact ⟨hc, Option.some.inj h⟩
  · rw [if_neg hc] at h; cases h
/-! Arrays of ints: what the cells hold. -/
def xA (f : Int → Int) : Nat → Int32 := fun k => iI (f (k : Int))
theorem xA_at (f : Int → Int) {i : Int} (h0 : 0 ≤ i) (h : i ≤ 2147483647) : xA f (iI i).toNatClampNeg = iI (f i) := by
  unfold xA
  rw [iI_clamp h0 h, Int.toNat_of_nonneg h0]
theorem xA_up (f : Int → Int) {i : Int} (v : Int) (h0 : 0 ≤ i) (h : i ≤ 2147483647) : upd (xA f) (iI i).toNatClampNeg (iI v) = xA (x_up f i v) := by
  funext k
  unfold upd xA x_up
  rw [iI_clamp h0 h]
  by_cases hk : k = i.toNat
  · rw [if_pos hk, if_pos (by omega)]
  · rw [if_neg hk, if_neg (by omega)]
/-! Worlds: cells replaced in place behind a call. -/
def x_set : va_W → List Nat → va_W → va_W
  | ws, i :: is, x :: xs => x_set (ws.set i x) is xs
  | ws, _, _ => ws
theorem x_set_len : ∀ (is : List Nat) (xs ws : va_W), (x_set ws is xs).length = ws.length
  | [], xs, ws => by cases xs <;> rfl
  | i :: is, [], ws => rfl
  | i :: is, x :: xs, ws => by show (x_set (ws.set i x) is xs).length = _; rw [x_set_len is xs, List.length_set]
theorem x_set_off : ∀ (is : List Nat) (xs ws : va_W) (k : Nat), k ∉ is → (x_set ws is xs)[k]? = ws[k]?
  | [], xs, ws, k, _ => by cases xs <;> rfl
  | i :: is, [], ws, k, _ => rfl
  | i :: is, x :: xs, ws, k, h => by
    show (x_set (ws.set i x) is xs)[k]? = _
    rw [x_set_off is xs _ k (fun q => h (List.mem_cons_of_mem _ q)), List.getElem?_set_ne (fun q => h (by rw [q]; exact List.mem_cons_self))]
theorem x_set_on : ∀ (is : List Nat) (xs ws : va_W) (j k : Nat), va_nd is = true → is[j]? = some k → k < ws.length → is.length = xs.length → (x_set ws is xs)[k]? = xs[j]?
  | [], xs, ws, j, k, _, h, _, _ => by simp at h
  | i :: is, [], ws, j, k, _, _, _, hl => by simp at hl
  | i :: is, x :: xs, ws, j, k, hn, h, hk, hl => by
    show (x_set (ws.set i x) is xs)[k]? = _
    have hn1 : i ∉ is ∧ va_nd is = true := by
      have := hn
      simp only [va_nd, Bool.and_eq_true, Bool.not_eq_true', List.contains_eq_mem, decide_eq_false_iff_not] at this
      exact ⟨by simpa using this.1, this.2⟩
    cases j with
    | zero =>
      have : i = k := by simpa using h
      subst this
      rw [x_set_off is xs _ i hn1.1]
      simp [hk]
    | succ j =>
      have h' : is[j]? = some k := by simpa using h
      rw [x_set_on is xs (ws.set i x) j k hn1.2 h' (by rw [List.length_set]; exact hk) (by simpa using hl)]
      simp
theorem x_addr {ws ws' : va_W} {A : Nat → Prop} (h : va_D A ws) (he : ws'.map Prod.fst = ws.map Prod.fst) : va_D A ws' := by
  have key : ∀ (i : Nat) (q : Nat × va_E), ws'[i]? = some q → ∃ q', ws[i]? = some q' ∧ q'.1 = q.1 := by
    intro i q hq
    have h1 : (ws'.map Prod.fst)[i]? = some q.1 := by rw [List.getElem?_map, hq]; rfl
    rw [he, List.getElem?_map] at h1
    cases hw : ws[i]? with
    | none => rw [hw] at h1; cases h1
    | some q' => rw [hw] at h1; exact ⟨q', rfl, Option.some.inj h1⟩
  refine ⟨fun i j p q hi hj hpq => ?_, fun k q hk => ?_⟩
  · obtain ⟨p', h1, h2⟩ := key i p hi
    obtain ⟨q', h3, h4⟩ := key j q hj
    exact h.1 i j p' q' h1 h3 (by rw [h2, h4]; exact hpq)
  · obtain ⟨q', h1, h2⟩ := key k q hk
    rw [← h2]
    exact h.2 k q' h1
theorem x_join {A0 : Nat → Prop} {D : va_G} {cl : List vw_C} {ws wc w1 : va_W} {H H1 : Heap} (hP : va_P D cl ws H) (hD : va_D A0 ws) (isC : List Nat) (hC : isC.map (fun i => ws[i]?) = wc.map some) (hn : va_nd isC = true) (hl : w1.length = isC.length)
    (hk : ∀ q : Nat, q < H.size → ¬ va_A wc H.size q → H1[q]? = H[q]?) (hP1 : va_P D cl w1 H1) : va_P D cl (x_set ws isC w1) H1 := by
  have hlen : isC.length = wc.length := by have := congrArg List.length hC; simpa using this
  have at' : ∀ (k i : Nat), isC[k]? = some i → ws[i]? = wc[k]? := by
    intro k i hi
    have h1 : (isC.map (fun i => ws[i]?))[k]? = (wc.map some)[k]? := by rw [hC]
    rw [List.getElem?_map, List.getElem?_map, hi] at h1
    cases hw : wc[k]? with
    | none => rw [hw] at h1; simp at h1
    | some q => rw [hw] at h1; simpa using h1
  intro k q hq
  by_cases hkC : k ∈ isC
  · obtain ⟨j, hj⟩ := List.getElem?_of_mem hkC
    have hkl : k < ws.length := by
      have h2 := (List.getElem?_eq_some_iff.mp hq).1
      rw [x_set_len] at h2
      exact h2
    rw [x_set_on isC w1 ws j k hn hj hkl hl.symm] at hq
    exact hP1 j q hq
  · rw [x_set_off isC w1 ws k hkC] at hq
    refine (hP k q hq).kept (hk q.1 ((hP k q hq).lt) ?_)
    rintro (⟨k2, e, h⟩ | h)
    · have hk2 : k2 < isC.length := by rw [hlen]; exact (List.getElem?_eq_some_iff.mp h).1
      have h5 := at' k2 isC[k2] (List.getElem?_eq_getElem hk2)
      rw [h] at h5
      have hij := hD.1 k isC[k2] q (q.1, e) hq h5 rfl
      exact hkC (by rw [hij]; exact List.getElem_mem hk2)
    · exact absurd ((hP k q hq).lt) (by omega)
theorem x_setaddr {ws w1 wc : va_W} {A : Nat → Prop} (hD : va_D A ws) (isC : List Nat) (he : (x_set ws isC w1).map Prod.fst = ws.map Prod.fst) : va_D A (x_set ws isC w1) := x_addr hD he

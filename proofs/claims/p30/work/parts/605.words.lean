/-! Where a parcel is, and of which run, out of its home; division. (From whole's parts 630 and 666.) -/
def zwh (h : Int) : Int := if h = -1 then 0 else if h = -2 then 2 else 1
def zof (h : Int) : Int := if h < 0 then -1 else h
theorem zwh_xin (h : Int) : xin (zwh h) := by unfold zwh; split <;> (try split) <;> exact ⟨by omega, by omega⟩
theorem zof_xin {h : Int} (hh : h ≤ 1000000000) : xin (zof h) := by unfold zof; split <;> exact ⟨by omega, by omega⟩
theorem zwh_0 {h : Int} : zwh h = 0 ↔ h = -1 := by unfold zwh; split <;> (try split) <;> omega
theorem zwh_2 {h : Int} : zwh h = 2 ↔ h = -2 := by unfold zwh; split <;> (try split) <;> omega
theorem zwh_1 {h : Int} (hh : -2 ≤ h) : zwh h = 1 ↔ 0 ≤ h := by unfold zwh; split <;> (try split) <;> omega
theorem zof_0 {h : Int} (hh : 0 ≤ h) : zof h = h := by unfold zof; rw [if_neg (by omega)]
theorem zwo_inj {h g : Int} (hh : -2 ≤ h) (hg : -2 ≤ g) : (zwh h = zwh g ∧ zof h = zof g) ↔ h = g := by
  constructor
  · intro q
    unfold zwh zof at q
    repeat' split at q
    all_goals omega
  · intro q; subst q; exact ⟨rfl, rfl⟩
theorem z_divT {a b : Int} (h0 : 0 ≤ a) (h1 : a ≤ 2147483647) (h2 : 0 < b) (h3 : b ≤ 2147483647) : x_div a b = some (a / b) := by
  unfold x_div; rw [if_pos ⟨h0, h1, h2, h3⟩]
theorem z_remT {a b : Int} (h0 : 0 ≤ a) (h1 : a ≤ 2147483647) (h2 : 0 < b) (h3 : b ≤ 2147483647) : x_rem a b = some (a % b) := by
  unfold x_rem; rw [if_pos ⟨h0, h1, h2, h3⟩]

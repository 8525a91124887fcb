/-! One is thrown: the model's side, and both. -/
/-- the counters stay within c -/
def zT (b : BoatS) (c : Int) : Prop := g0_flo b ≤ c ∧ (0 ≤ g0_cst b ∧ g0_cst b ≤ c) ∧ (0 ≤ g0_mrg b ∧ g0_mrg b ≤ c) ∧ (0 ≤ g0_stm b ∧ g0_stm b ≤ c) ∧ (0 ≤ g0_brk b ∧ g0_brk b ≤ c)
theorem zT_le {b : BoatS} {c d : Int} (h : zT b c) (hd : c ≤ d) : zT b d := by
  obtain ⟨h1, h2, h3, h4, h5⟩ := h
  exact ⟨by omega, by omega, by omega, by omega, by omega⟩
/-- what throwing leaves -/
def zKp (b b' : BoatS) : Prop := zn b' = zn b ∧ zK b' = zK b ∧ zW b' = zW b ∧ zO b' = zO b ∧ g0_room b' = g0_room b
theorem zKp_refl (b : BoatS) : zKp b b := ⟨rfl, rfl, rfl, rfl, rfl⟩
theorem zKp_trans {a b c : BoatS} (h : zKp a b) (g : zKp b c) : zKp a c := ⟨g.1.trans h.1, g.2.1.trans h.2.1, g.2.2.1.trans h.2.2.1, g.2.2.2.1.trans h.2.2.2.1, g.2.2.2.2.trans h.2.2.2.2⟩

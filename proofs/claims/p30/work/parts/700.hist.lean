/-! The saved states: a ring of boats, a stack of rows. -/
def zPl (h : HisS) (i : Int) : BoatS := if i = 0 then g1_h0 h else if i = 1 then g1_h1 h else if i = 2 then g1_h2 h else g1_h3 h
theorem z1_placeAt {h : HisS} {i : Int} (i0 : 0 ≤ i) (i1 : i ≤ 3) : f1_placeAt h i = some i := by
  unfold f1_placeAt
  rw [z_ltF ⟨by omega, by omega⟩ (by decide) (by omega), z_ltT ⟨by omega, by omega⟩ (by decide) (by omega)]
theorem z1_save {h : HisS} {o : BoatS} (hB : zB o) (n0 : 0 ≤ g1_nxt h) (n1 : g1_nxt h ≤ 3) (c0 : 0 ≤ g1_cnt h) (c1 : g1_cnt h ≤ 4) : ∃ h' b', f1_save h o = some h' ∧ zEq b' o ∧ g1_nxt h' = (g1_nxt h + 1) % 4 ∧ g1_cnt h' = (if g1_cnt h = 4 then 4 else g1_cnt h + 1) ∧ ∀ i, 0 ≤ i → i ≤ 3 → zPl h' i = if i = g1_nxt h then b' else zPl h i := by
  have em : x_min (g1_cnt h + 1) 4 = some (if g1_cnt h = 4 then 4 else g1_cnt h + 1) := by
    rw [z_min ⟨by omega, by omega⟩ (by decide)]
    by_cases g : g1_cnt h = 4
    · rw [if_pos g, if_pos (by omega)]
    · rw [if_neg g, if_neg (by omega)]
  have er : x_rem (g1_nxt h + 1) 4 = some ((g1_nxt h + 1) % 4) := z_remT (by omega) (by omega) (by decide) (by decide)
  unfold f1_save
  rw [z_bind (z1_placeAt n0 n1)]
  have hn : g1_nxt h = 0 ∨ g1_nxt h = 1 ∨ g1_nxt h = 2 ∨ g1_nxt h = 3 := by omega
  have fin : ∀ i : Int, 0 ≤ i → i ≤ 3 → i = 0 ∨ i = 1 ∨ i = 2 ∨ i = 3 := fun i a b => by omega
  rcases hn with e | e | e | e
  · obtain ⟨b', e1, e2⟩ := z0_copy (g1_h0 h) hB
    rw [z_eqT ⟨by omega, by omega⟩ e, z_bind e1, z_bind er, z_bind em]
    refine ⟨_, b', rfl, e2, rfl, rfl, fun i a b => ?_⟩
    rw [e]
    rcases fin i a b with g | g | g | g <;> subst g <;> rfl
  · obtain ⟨b', e1, e2⟩ := z0_copy (g1_h1 h) hB
    rw [z_eqF ⟨by omega, by omega⟩ (by decide) (by omega), z_eqT ⟨by omega, by omega⟩ e, z_bind e1, z_bind er, z_bind em]
    refine ⟨_, b', rfl, e2, rfl, rfl, fun i a b => ?_⟩
    rw [e]
    rcases fin i a b with g | g | g | g <;> subst g <;> rfl
  · obtain ⟨b', e1, e2⟩ := z0_copy (g1_h2 h) hB
    rw [z_eqF ⟨by omega, by omega⟩ (by decide) (by omega), z_eqF ⟨by omega, by omega⟩ (by decide) (by omega), z_eqT ⟨by omega, by omega⟩ e, z_bind e1, z_bind er, z_bind em]
    refine ⟨_, b', rfl, e2, rfl, rfl, fun i a b => ?_⟩
    rw [e]
    rcases fin i a b with g | g | g | g <;> subst g <;> rfl
  · obtain ⟨b', e1, e2⟩ := z0_copy (g1_h3 h) hB
    rw [z_eqF ⟨by omega, by omega⟩ (by decide) (by omega), z_eqF ⟨by omega, by omega⟩ (by decide) (by omega), z_eqF ⟨by omega, by omega⟩ (by decide) (by omega), z_eqT ⟨by omega, by omega⟩ e, z_bind e1, z_bind er, z_bind em]
    refine ⟨_, b', rfl, e2, rfl, rfl, fun i a b => ?_⟩
    rw [e]
    rcases fin i a b with g | g | g | g <;> subst g <;> rfl

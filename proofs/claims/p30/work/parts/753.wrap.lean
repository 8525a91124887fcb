/-! What a helper of the law answers, by how the call ended. Printed by wip/gen30/wrap.py. -/
theorem lh_load_0 {vo : Int → Int} {y y1 : BrS} {v : Int} {p1 p2 : Int} (h : f4_load y p1 p2 = some (0, v, y1)) : fL_load vo y p1 p2 = some (0, x_up vo 0 v, y1) := by
  unfold fL_load
  rw [z_bind2 h]
  dsimp only
  rw [z_eqT (by decide) rfl]
theorem lh_load_1 {vo : Int → Int} {y y1 : BrS} {v : Int} {p1 p2 : Int} (h : f4_load y p1 p2 = some (1, v, y1)) : fL_load vo y p1 p2 = some (1, vo, y) := by
  unfold fL_load
  rw [z_bind2 h]
  dsimp only
  rw [z_eqF (by decide) (by decide) (by decide), z_eqT (by decide) rfl]
theorem lh_load_2 {vo : Int → Int} {y y1 : BrS} {v : Int} {p1 p2 : Int} (h : f4_load y p1 p2 = some (2, v, y1)) : fL_load vo y p1 p2 = some (2, vo, y) := by
  unfold fL_load
  rw [z_bind2 h]
  dsimp only
  rw [z_eqF (by decide) (by decide) (by decide), z_eqF (by decide) (by decide) (by decide), z_eqT (by decide) rfl]
theorem lh_merge_0 {vo : Int → Int} {y y1 : BrS} {v : Int} {p1 p2 : Int} (h : f4_merge y p1 p2 = some (0, v, y1)) : fL_merge vo y p1 p2 = some (0, x_up vo 0 v, y1) := by
  unfold fL_merge
  rw [z_bind2 h]
  dsimp only
  rw [z_eqT (by decide) rfl]
theorem lh_merge_1 {vo : Int → Int} {y y1 : BrS} {v : Int} {p1 p2 : Int} (h : f4_merge y p1 p2 = some (3, v, y1)) : fL_merge vo y p1 p2 = some (1, vo, y) := by
  unfold fL_merge
  rw [z_bind2 h]
  dsimp only
  rw [z_eqF (by decide) (by decide) (by decide), z_eqT (by decide) rfl]
theorem lh_merge_2 {vo : Int → Int} {y y1 : BrS} {v : Int} {p1 p2 : Int} (h : f4_merge y p1 p2 = some (1, v, y1)) : fL_merge vo y p1 p2 = some (2, vo, y) := by
  unfold fL_merge
  rw [z_bind2 h]
  dsimp only
  rw [z_eqF (by decide) (by decide) (by decide), z_eqF (by decide) (by decide) (by decide), z_eqT (by decide) rfl]
theorem lh_mergeLightest_0 {vo : Int → Int} {y y1 : BrS} {v : Int} (h : f4_mergeLightest y = some (0, v, y1)) : fL_mergeLightest vo y = some (0, x_up vo 0 v, y1) := by
  unfold fL_mergeLightest
  rw [z_bind2 h]
  dsimp only
  rw [z_eqT (by decide) rfl]
theorem lh_mergeLightest_1 {vo : Int → Int} {y y1 : BrS} {v : Int} (h : f4_mergeLightest y = some (2, v, y1)) : fL_mergeLightest vo y = some (1, vo, y) := by
  unfold fL_mergeLightest
  rw [z_bind2 h]
  dsimp only
  rw [z_eqF (by decide) (by decide) (by decide), z_eqT (by decide) rfl]
theorem lh_storm_0 {vo : Int → Int} {y y1 : BrS} {v : Int} {p1 : Int} (h : f4_storm y p1 = some (0, v, y1)) : fL_storm vo y p1 = some (0, x_up vo 0 v, y1) := by
  unfold fL_storm
  rw [z_bind2 h]
  dsimp only
  rw [z_eqT (by decide) rfl]
theorem lh_storm_1 {vo : Int → Int} {y y1 : BrS} {v : Int} {p1 : Int} (h : f4_storm y p1 = some (1, v, y1)) : fL_storm vo y p1 = some (1, vo, y) := by
  unfold fL_storm
  rw [z_bind2 h]
  dsimp only
  rw [z_eqF (by decide) (by decide) (by decide), z_eqT (by decide) rfl]
theorem lh_tighten_0 {vo : Int → Int} {y y1 : BrS} {v : Int} {p1 : Int} (h : f4_tighten y p1 = some (0, v, y1)) : fL_tighten vo y p1 = some (0, x_up vo 0 v, y1) := by
  unfold fL_tighten
  rw [z_bind2 h]
  dsimp only
  rw [z_eqT (by decide) rfl]
theorem lh_tighten_1 {vo : Int → Int} {y y1 : BrS} {v : Int} {p1 : Int} (h : f4_tighten y p1 = some (3, v, y1)) : fL_tighten vo y p1 = some (1, vo, y) := by
  unfold fL_tighten
  rw [z_bind2 h]
  dsimp only
  rw [z_eqF (by decide) (by decide) (by decide), z_eqT (by decide) rfl]
theorem lh_land_0 {vo : Int → Int} {y y1 : BrS} {v : Int} {p1 : Int} (h : f4_land y p1 = some (0, v, y1)) : fL_land vo y p1 = some (0, x_up vo 0 v, y1) := by
  unfold fL_land
  rw [z_bind2 h]
  dsimp only
  rw [z_eqT (by decide) rfl]
theorem lh_land_1 {vo : Int → Int} {y y1 : BrS} {v : Int} {p1 : Int} (h : f4_land y p1 = some (3, v, y1)) : fL_land vo y p1 = some (1, vo, y) := by
  unfold fL_land
  rw [z_bind2 h]
  dsimp only
  rw [z_eqF (by decide) (by decide) (by decide), z_eqT (by decide) rfl]
theorem lh_land_2 {vo : Int → Int} {y y1 : BrS} {v : Int} {p1 : Int} (h : f4_land y p1 = some (2, v, y1)) : fL_land vo y p1 = some (2, vo, y) := by
  unfold fL_land
  rw [z_bind2 h]
  dsimp only
  rw [z_eqF (by decide) (by decide) (by decide), z_eqF (by decide) (by decide) (by decide), z_eqT (by decide) rfl]
theorem lh_inRun_0 {vo : Int → Int} {y y1 : BrS} {v : Int} {p1 p2 : Int} (h : f4_inRun y p1 p2 = some (0, v, y1)) : fL_inRun vo y p1 p2 = some (0, x_up vo 0 v, y1) := by
  unfold fL_inRun
  rw [z_bind2 h]
  dsimp only
  rw [z_eqT (by decide) rfl]
theorem lh_inRun_1 {vo : Int → Int} {y y1 : BrS} {v : Int} {p1 p2 : Int} (h : f4_inRun y p1 p2 = some (3, v, y1)) : fL_inRun vo y p1 p2 = some (1, vo, y) := by
  unfold fL_inRun
  rw [z_bind2 h]
  dsimp only
  rw [z_eqF (by decide) (by decide) (by decide), z_eqT (by decide) rfl]
theorem lh_inRun_2 {vo : Int → Int} {y y1 : BrS} {v : Int} {p1 p2 : Int} (h : f4_inRun y p1 p2 = some (4, v, y1)) : fL_inRun vo y p1 p2 = some (2, vo, y) := by
  unfold fL_inRun
  rw [z_bind2 h]
  dsimp only
  rw [z_eqF (by decide) (by decide) (by decide), z_eqF (by decide) (by decide) (by decide), z_eqT (by decide) rfl]
theorem lh_ashore_0 {vo : Int → Int} {y y1 : BrS} {v : Int} {p1 : Int} (h : f4_ashore y p1 = some (0, v, y1)) : fL_ashore vo y p1 = some (0, x_up vo 0 v, y1) := by
  unfold fL_ashore
  rw [z_bind2 h]
  dsimp only
  rw [z_eqT (by decide) rfl]
theorem lh_ashore_1 {vo : Int → Int} {y y1 : BrS} {v : Int} {p1 : Int} (h : f4_ashore y p1 = some (4, v, y1)) : fL_ashore vo y p1 = some (1, vo, y) := by
  unfold fL_ashore
  rw [z_bind2 h]
  dsimp only
  rw [z_eqF (by decide) (by decide) (by decide), z_eqT (by decide) rfl]
theorem lh_runAt_0 {vo : Int → Int} {y y1 : BrS} {v : Int} {p1 : Int} (h : f4_runAt y p1 = some (0, v, y1)) : fL_runAt vo y p1 = some (0, x_up vo 0 v, y1) := by
  unfold fL_runAt
  rw [z_bind2 h]
  dsimp only
  rw [z_eqT (by decide) rfl]
theorem lh_runAt_1 {vo : Int → Int} {y y1 : BrS} {v : Int} {p1 : Int} (h : f4_runAt y p1 = some (4, v, y1)) : fL_runAt vo y p1 = some (1, vo, y) := by
  unfold fL_runAt
  rw [z_bind2 h]
  dsimp only
  rw [z_eqF (by decide) (by decide) (by decide), z_eqT (by decide) rfl]
theorem lh_parcel_0 {vo : Int → Int} {y y1 : BrS} {v : Int} {p1 p2 : Int} (h : f4_parcel y p1 p2 = some (0, v, y1)) : fL_parcel vo y p1 p2 = some (0, x_up vo 0 v, y1) := by
  unfold fL_parcel
  rw [z_bind2 h]
  dsimp only
  rw [z_eqT (by decide) rfl]
theorem lh_parcel_1 {vo : Int → Int} {y y1 : BrS} {v : Int} {p1 p2 : Int} (h : f4_parcel y p1 p2 = some (4, v, y1)) : fL_parcel vo y p1 p2 = some (1, vo, y) := by
  unfold fL_parcel
  rw [z_bind2 h]
  dsimp only
  rw [z_eqF (by decide) (by decide) (by decide), z_eqT (by decide) rfl]
theorem lh_parcel_2 {vo : Int → Int} {y y1 : BrS} {v : Int} {p1 p2 : Int} (h : f4_parcel y p1 p2 = some (1, v, y1)) : fL_parcel vo y p1 p2 = some (2, vo, y) := by
  unfold fL_parcel
  rw [z_bind2 h]
  dsimp only
  rw [z_eqF (by decide) (by decide) (by decide), z_eqF (by decide) (by decide) (by decide), z_eqT (by decide) rfl]

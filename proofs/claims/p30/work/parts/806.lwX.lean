/-! The law's words are in the tables: each by its place. Printed by wip/gen/words.py. -/
theorem inX0 : ∀ w ∈ wsX00, w ∈ lw_tbl := by
  show ∀ w ∈ [u_lay RX0 TX0 0, u_lay RX0 TX0 1, u_lay RX0 TX0 2, u_lay RX0 TX0 3, u_lay RX0 TX0 4, u_lay RX0 TX0 5, u_lay RX0 TX0 6, u_lay RX0 TX0 7, u_lay RX0 TX0 8, u_lay RX0 TX0 9, u_lay RX0 TX0 10, u_lay RX0 TX0 11, u_lay RX0 TX0 12, u_lay RX0 TX0 13], w ∈ lw_tbl
  exact List.forall_mem_cons.mpr ⟨lwR (i := 59) (by decide +kernel), List.forall_mem_cons.mpr ⟨lwR (i := 61) (by decide +kernel), List.forall_mem_cons.mpr ⟨lwR (i := 63) (by decide +kernel), List.forall_mem_cons.mpr ⟨lwR (i := 65) (by decide +kernel), List.forall_mem_cons.mpr ⟨lwR (i := 67) (by decide +kernel), List.forall_mem_cons.mpr ⟨lwR (i := 69) (by decide +kernel), List.forall_mem_cons.mpr ⟨lwR (i := 71) (by decide +kernel), List.forall_mem_cons.mpr ⟨lwR (i := 73) (by decide +kernel), List.forall_mem_cons.mpr ⟨lwR (i := 75) (by decide +kernel), List.forall_mem_cons.mpr ⟨lwR (i := 77) (by decide +kernel), List.forall_mem_cons.mpr ⟨lwR (i := 79) (by decide +kernel), List.forall_mem_cons.mpr ⟨lwR (i := 81) (by decide +kernel), List.forall_mem_cons.mpr ⟨lwR (i := 83) (by decide +kernel), List.forall_mem_cons.mpr ⟨lwR (i := 85) (by decide +kernel), fun _ h => absurd h List.not_mem_nil⟩⟩⟩⟩⟩⟩⟩⟩⟩⟩⟩⟩⟩⟩
theorem inX1 : ∀ w ∈ wsX10, w ∈ lw_tbl := by
  show ∀ w ∈ [u_lay RX1 TX1 0, u_lay RX1 TX1 1, u_lay RX1 TX1 2], w ∈ lw_tbl
  exact List.forall_mem_cons.mpr ⟨lwR (i := 100) (by decide +kernel), List.forall_mem_cons.mpr ⟨lwR (i := 102) (by decide +kernel), List.forall_mem_cons.mpr ⟨lwR (i := 104) (by decide +kernel), fun _ h => absurd h List.not_mem_nil⟩⟩⟩
theorem inX2 : ∀ w ∈ wsX20, w ∈ lw_tbl := by
  show ∀ w ∈ [u_lay RX2 TX2 0, u_lay RX2 TX2 1], w ∈ lw_tbl
  exact List.forall_mem_cons.mpr ⟨lwR (i := 39) (by decide +kernel), List.forall_mem_cons.mpr ⟨lwR (i := 41) (by decide +kernel), fun _ h => absurd h List.not_mem_nil⟩⟩
theorem inX3 : ∀ w ∈ wsX30, w ∈ lw_tbl := by
  show ∀ w ∈ [u_lay RX3 TX3 0, u_lay RX3 TX3 1, u_lay RX3 TX3 2, u_lay RX3 TX3 3, u_lay RX3 TX3 4, u_lay RX3 TX3 5], w ∈ lw_tbl
  exact List.forall_mem_cons.mpr ⟨lwR (i := 120) (by decide +kernel), List.forall_mem_cons.mpr ⟨lwR (i := 122) (by decide +kernel), List.forall_mem_cons.mpr ⟨lwR (i := 124) (by decide +kernel), List.forall_mem_cons.mpr ⟨lwR (i := 126) (by decide +kernel), List.forall_mem_cons.mpr ⟨lwR (i := 128) (by decide +kernel), List.forall_mem_cons.mpr ⟨lwR (i := 130) (by decide +kernel), fun _ h => absurd h List.not_mem_nil⟩⟩⟩⟩⟩⟩
theorem inX4 : ∀ w ∈ wsX40, w ∈ lw_tbl := by
  show ∀ w ∈ [u_lay RX4 TX4 0, u_lay RX4 TX4 1, u_lay RX4 TX4 2, u_lay RX4 TX4 3], w ∈ lw_tbl
  exact List.forall_mem_cons.mpr ⟨lwR (i := 137) (by decide +kernel), List.forall_mem_cons.mpr ⟨lwR (i := 139) (by decide +kernel), List.forall_mem_cons.mpr ⟨lwR (i := 141) (by decide +kernel), List.forall_mem_cons.mpr ⟨lwR (i := 143) (by decide +kernel), fun _ h => absurd h List.not_mem_nil⟩⟩⟩⟩

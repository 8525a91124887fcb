/-! The law from its entry. -/
set_option maxRecDepth 100000
theorem wl_g {args : Array Value} {s : State} (h : (Jvm.Cond.and given_1 narrow_1).before args s = true) {w : Cond} (i : Nat) (hw : (flatC (Jvm.Cond.and given_1 narrow_1))[i]? = some w) : w.before args s = true := flat_of_before _ h _ (List.mem_of_getElem? hw)
theorem wl_str {args : Array Value} {s : State} {k : Nat} {tx : String} (h1 : (Cond.stringRef RX4 k tx).before args s = true) (h2 : (Cond.exactly (Term.string RX4 k) "java/lang/String").before args s = true) : ∃ sa : Nat, vk_R RX4 k tx sa s := by
  obtain ⟨a, c, cell, k', e, -⟩ := Cond.exactly_spec (show (Cond.exactly (Term.string RX4 k) "java/lang/String").holds args s none s [] = true from h2)
  exact ⟨a, vk_R.of h1 e⟩
theorem wl_cw {args : Array Value} {s : State} (hts : ∀ w ∈ lw_tbl, w.before args s = true) : ∀ w ∈ x_cw, va_Nw w s := by
  unfold x_cw
  exact List.forall_mem_cons.mpr ⟨va_Nw.of rfl (hts _ (lwR (i := 152) (by decide +kernel))), List.forall_mem_cons.mpr ⟨va_Nw.of rfl (hts _ (lwR (i := 339) (by decide +kernel))), List.forall_mem_cons.mpr ⟨va_Nw.of rfl (hts _ (lwR (i := 468) (by decide +kernel))), List.forall_mem_cons.mpr ⟨va_Nw.of rfl (hts _ (lwR (i := 393) (by decide +kernel))), List.forall_mem_cons.mpr ⟨va_Nw.of rfl (hts _ (lwR (i := 154) (by decide +kernel))), List.forall_mem_cons.mpr ⟨va_Nw.of rfl (hts _ (lwR (i := 156) (by decide +kernel))), List.forall_mem_cons.mpr ⟨va_Nw.of rfl (hts _ (lwR (i := 158) (by decide +kernel))), fun _ h => absurd h List.not_mem_nil⟩⟩⟩⟩⟩⟩⟩
theorem wl_st {args : Array Value} {s : State} (hts : ∀ w ∈ lw_tbl, w.before args s = true) (h : (Jvm.Cond.and given_1 narrow_1).before args s = true) : ∀ q ∈ x_strs, ∃ sa : Nat, vk_R RX4 q.1 q.2 sa s := by
  unfold x_strs
  exact List.forall_mem_cons.mpr ⟨wl_str (hts _ (lwR (i := 192) (by decide +kernel))) (wl_g h 38 (by decide +kernel)),
    List.forall_mem_cons.mpr ⟨wl_str (hts _ (lwR (i := 544) (by decide +kernel))) (wl_g h 305 (by decide +kernel)),
    List.forall_mem_cons.mpr ⟨wl_str (hts _ (lwR (i := 549) (by decide +kernel))) (wl_g h 346 (by decide +kernel)),
    List.forall_mem_cons.mpr ⟨wl_str (hts _ (lwR (i := 475) (by decide +kernel))) (wl_g h 188 (by decide +kernel)),
    List.forall_mem_cons.mpr ⟨wl_str (hts _ (lwR (i := 603) (by decide +kernel))) (wl_g h 423 (by decide +kernel)),
    List.forall_mem_cons.mpr ⟨wl_str (hts _ (lwR (i := 346) (by decide +kernel))) (wl_g h 62 (by decide +kernel)),
    List.forall_mem_cons.mpr ⟨wl_str (hts _ (lwR (i := 581) (by decide +kernel))) (wl_g h 388 (by decide +kernel)),
    List.forall_mem_cons.mpr ⟨wl_str (hts _ (lwR (i := 625) (by decide +kernel))) (wl_g h 460 (by decide +kernel)),
    List.forall_mem_cons.mpr ⟨wl_str (hts _ (lwR (i := 400) (by decide +kernel))) (wl_g h 96 (by decide +kernel)),
    List.forall_mem_cons.mpr ⟨wl_str (hts _ (lwR (i := 407) (by decide +kernel))) (wl_g h 127 (by decide +kernel)),
    List.forall_mem_cons.mpr ⟨wl_str (hts _ (lwR (i := 505) (by decide +kernel))) (wl_g h 217 (by decide +kernel)),
    List.forall_mem_cons.mpr ⟨wl_str (hts _ (lwR (i := 517) (by decide +kernel))) (wl_g h 258 (by decide +kernel)),
    List.forall_mem_cons.mpr ⟨wl_str (hts _ (lwR (i := 453) (by decide +kernel))) (wl_g h 154 (by decide +kernel)),
    fun _ h => absurd h List.not_mem_nil⟩⟩⟩⟩⟩⟩⟩⟩⟩⟩⟩⟩⟩
theorem wl_nc {args : Array Value} {s : State} (h : (Jvm.Cond.and given_1 narrow_1).before args s = true) : ∀ q ∈ x_ncs, va_Nc q.1 q.2 s := by
  unfold x_ncs
  exact List.forall_mem_cons.mpr ⟨va_Nc.of (wl_g h 28 (by decide +kernel)), List.forall_mem_cons.mpr ⟨va_Nc.of (wl_g h 35 (by decide +kernel)), List.forall_mem_cons.mpr ⟨va_Nc.of (wl_g h 37 (by decide +kernel)), List.forall_mem_cons.mpr ⟨va_Nc.of (wl_g h 19 (by decide +kernel)), List.forall_mem_cons.mpr ⟨va_Nc.of (wl_g h 36 (by decide +kernel)), fun _ h => absurd h List.not_mem_nil⟩⟩⟩⟩⟩
theorem wl_th {args : Array Value} {s : State} (hts : ∀ w ∈ lw_tbl, w.before args s = true) (h : (Jvm.Cond.and given_1 narrow_1).before args s = true) : xTh (fun z9 : Nat => s.heap.size ≤ z9) s :=
  ⟨wl_cw hts, vx_Zqof (hts _ (lwR (i := 177) (by decide +kernel))) (hts _ (lwR (i := 7) (by decide +kernel))) (wl_g h 4 (by decide +kernel)) (fun _ h => Nat.not_le.mpr h), vx_Zqof (hts _ (lwR (i := 179) (by decide +kernel))) (hts _ (lwR (i := 7) (by decide +kernel))) (wl_g h 5 (by decide +kernel)) (fun _ h => Nat.not_le.mpr h), wl_st hts h⟩
theorem wl_K {args : Array Value} {s : State} (hts : ∀ w ∈ lw_tbl, w.before args s = true) : ∃ (dC : Nat → ClassId) (dI : Nat → Nat → Nat) (cs : Nat → ClassId), va_K (dC, dI) vwCl (xT cs) s := by
  obtain ⟨c0, i0, hK0⟩ := u_known (C := RX0) (T := TX0) (N := 14) (n := 14) hts inX0 (hts _ (lwR (i := 23) (by decide +kernel)))
  obtain ⟨c1, i1, hK1⟩ := u_known (C := RX1) (T := TX1) (N := 3) (n := 3) hts inX1 (hts _ (lwR (i := 89) (by decide +kernel)))
  obtain ⟨c2, i2, hK2⟩ := u_known (C := RX2) (T := TX2) (N := 2) (n := 2) hts inX2 (hts _ (lwR (i := 29) (by decide +kernel)))
  obtain ⟨c3, i3, hK3⟩ := u_known (C := RX3) (T := TX3) (N := 6) (n := 6) hts inX3 (hts _ (lwR (i := 108) (by decide +kernel)))
  obtain ⟨c4, i4, hK4⟩ := u_known (C := RX4) (T := TX4) (N := 4) (n := 4) hts inX4 (hts _ (lwR (i := 15) (by decide +kernel)))
  obtain ⟨a0, k0, p0, f0, g0, j0⟩ := Cond.arrayClass_spec (show (Cond.arrayClass .int).holds args s none s [] = true from hts _ (lwR (i := 44) (by decide +kernel)))
  obtain ⟨p3, a3, k3, h1, h2, h3, h4, h5⟩ := Cond.arrayOver_spec (show (Cond.arrayOver (.object "BoatRuns$Boat")).holds args s none s [] = true from hts _ (lwR (i := 95) (by decide +kernel)))
  refine ⟨fun k => if k = 0 then c0 else if k = 1 then c1 else if k = 2 then c2 else if k = 3 then c3 else c4, fun k => if k = 0 then i0 else if k = 1 then i1 else if k = 2 then i2 else if k = 3 then i3 else i4, fun k => if k = 2 then a3 else a0, ?_, ?_⟩
  · intro k q hq
    match k, hq with
    | 0, hq => cases hq; exact hK0
    | 1, hq => cases hq; exact hK1
    | 2, hq => cases hq; exact hK2
    | 3, hq => cases hq; exact hK3
    | 4, hq => cases hq; exact hK4
    | k + 5, hq => simp [vwCl] at hq
  · intro k q hq
    match k, hq with
    | 0, hq => cases hq; exact ⟨fun n z => ⟨(fun k h => by cases h), k0, g0, p0, j0⟩, f0⟩
    | 1, hq => cases hq; exact ⟨fun n z => ⟨(fun k h => by cases h), k0, g0, p0, j0⟩, f0⟩
    | 2, hq => cases hq; exact ⟨fun n z => ⟨(fun k h => by cases h), k3, h3, p3, h4⟩, ⟨k3, p3, h3, h4, h1, h5⟩⟩
    | 3, hq => cases hq; exact ⟨fun n z => ⟨(fun k h => by cases h), k0, g0, p0, j0⟩, f0⟩
    | k + 4, hq => simp [xT] at hq

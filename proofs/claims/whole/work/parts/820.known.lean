/-! The law from its entry. -/
set_option maxRecDepth 100000
theorem wl_g {args : Array Value} {s : State} (h : (Jvm.Cond.and given_1 narrow_1).before args s = true) {w : Cond} (i : Nat) (hw : (flatC (Jvm.Cond.and given_1 narrow_1))[i]? = some w) : w.before args s = true := flat_of_before _ h _ (List.mem_of_getElem? hw)
theorem wl_str {args : Array Value} {s : State} {k : Nat} {tx : String} (h1 : (Cond.stringRef RX4 k tx).before args s = true) (h2 : (Cond.exactly (Term.string RX4 k) "java/lang/String").before args s = true) : ∃ sa : Nat, vk_R RX4 k tx sa s := by
  obtain ⟨a, c, cell, k', e, -⟩ := Cond.exactly_spec (show (Cond.exactly (Term.string RX4 k) "java/lang/String").holds args s none s [] = true from h2)
  exact ⟨a, vk_R.of h1 e⟩
theorem wl_cw {args : Array Value} {s : State} (hts : ∀ w ∈ lw_tbl, w.before args s = true) : ∀ w ∈ x_cw, va_Nw w s := by
  unfold x_cw
  exact List.forall_mem_cons.mpr ⟨va_Nw.of rfl (hts _ (lwR (i := 454) (by decide +kernel))), List.forall_mem_cons.mpr ⟨va_Nw.of rfl (hts _ (lwR (i := 537) (by decide +kernel))), List.forall_mem_cons.mpr ⟨va_Nw.of rfl (hts _ (lwR (i := 582) (by decide +kernel))), List.forall_mem_cons.mpr ⟨va_Nw.of rfl (hts _ (lwR (i := 650) (by decide +kernel))), List.forall_mem_cons.mpr ⟨va_Nw.of rfl (hts _ (lwR (i := 456) (by decide +kernel))), List.forall_mem_cons.mpr ⟨va_Nw.of rfl (hts _ (lwR (i := 458) (by decide +kernel))), List.forall_mem_cons.mpr ⟨va_Nw.of rfl (hts _ (lwR (i := 460) (by decide +kernel))), fun _ h => absurd h List.not_mem_nil⟩⟩⟩⟩⟩⟩⟩
theorem wl_st {args : Array Value} {s : State} (hts : ∀ w ∈ lw_tbl, w.before args s = true) (h : (Jvm.Cond.and given_1 narrow_1).before args s = true) : ∀ q ∈ x_strs, ∃ sa : Nat, vk_R RX4 q.1 q.2 sa s := by
  unfold x_strs
  exact List.forall_mem_cons.mpr ⟨wl_str (hts _ (lwR (i := 494) (by decide +kernel))) (wl_g h 42 (by decide +kernel)),
    List.forall_mem_cons.mpr ⟨wl_str (hts _ (lwR (i := 534) (by decide +kernel))) (wl_g h 66 (by decide +kernel)),
    List.forall_mem_cons.mpr ⟨wl_str (hts _ (lwR (i := 544) (by decide +kernel))) (wl_g h 100 (by decide +kernel)),
    List.forall_mem_cons.mpr ⟨wl_str (hts _ (lwR (i := 559) (by decide +kernel))) (wl_g h 135 (by decide +kernel)),
    List.forall_mem_cons.mpr ⟨wl_str (hts _ (lwR (i := 589) (by decide +kernel))) (wl_g h 169 (by decide +kernel)),
    List.forall_mem_cons.mpr ⟨wl_str (hts _ (lwR (i := 596) (by decide +kernel))) (wl_g h 197 (by decide +kernel)),
    List.forall_mem_cons.mpr ⟨wl_str (hts _ (lwR (i := 604) (by decide +kernel))) (wl_g h 228 (by decide +kernel)),
    List.forall_mem_cons.mpr ⟨wl_str (hts _ (lwR (i := 612) (by decide +kernel))) (wl_g h 267 (by decide +kernel)),
    List.forall_mem_cons.mpr ⟨wl_str (hts _ (lwR (i := 635) (by decide +kernel))) (wl_g h 299 (by decide +kernel)),
    List.forall_mem_cons.mpr ⟨wl_str (hts _ (lwR (i := 657) (by decide +kernel))) (wl_g h 343 (by decide +kernel)),
    List.forall_mem_cons.mpr ⟨wl_str (hts _ (lwR (i := 664) (by decide +kernel))) (wl_g h 381 (by decide +kernel)),
    List.forall_mem_cons.mpr ⟨wl_str (hts _ (lwR (i := 680) (by decide +kernel))) (wl_g h 415 (by decide +kernel)),
    List.forall_mem_cons.mpr ⟨wl_str (hts _ (lwR (i := 689) (by decide +kernel))) (wl_g h 461 (by decide +kernel)),
    List.forall_mem_cons.mpr ⟨wl_str (hts _ (lwR (i := 697) (by decide +kernel))) (wl_g h 513 (by decide +kernel)),
    List.forall_mem_cons.mpr ⟨wl_str (hts _ (lwR (i := 727) (by decide +kernel))) (wl_g h 556 (by decide +kernel)),
    List.forall_mem_cons.mpr ⟨wl_str (hts _ (lwR (i := 728) (by decide +kernel))) (wl_g h 595 (by decide +kernel)),
    List.forall_mem_cons.mpr ⟨wl_str (hts _ (lwR (i := 740) (by decide +kernel))) (wl_g h 630 (by decide +kernel)),
    fun _ h => absurd h List.not_mem_nil⟩⟩⟩⟩⟩⟩⟩⟩⟩⟩⟩⟩⟩⟩⟩⟩⟩
theorem wl_nc {args : Array Value} {s : State} (h : (Jvm.Cond.and given_1 narrow_1).before args s = true) : ∀ q ∈ x_ncs, va_Nc q.1 q.2 s := by
  unfold x_ncs
  exact List.forall_mem_cons.mpr ⟨va_Nc.of (wl_g h 12 (by decide +kernel)), List.forall_mem_cons.mpr ⟨va_Nc.of (wl_g h 30 (by decide +kernel)), List.forall_mem_cons.mpr ⟨va_Nc.of (wl_g h 31 (by decide +kernel)), List.forall_mem_cons.mpr ⟨va_Nc.of (wl_g h 39 (by decide +kernel)), List.forall_mem_cons.mpr ⟨va_Nc.of (wl_g h 32 (by decide +kernel)), fun _ h => absurd h List.not_mem_nil⟩⟩⟩⟩⟩
theorem wl_th {args : Array Value} {s : State} (hts : ∀ w ∈ lw_tbl, w.before args s = true) (h : (Jvm.Cond.and given_1 narrow_1).before args s = true) : xTh (fun z9 : Nat => s.heap.size ≤ z9) s :=
  ⟨wl_cw hts, vx_Zqof (hts _ (lwR (i := 479) (by decide +kernel))) (hts _ (lwR (i := 8) (by decide +kernel))) (wl_g h 4 (by decide +kernel)) (fun _ h => Nat.not_le.mpr h), vx_Zqof (hts _ (lwR (i := 481) (by decide +kernel))) (hts _ (lwR (i := 8) (by decide +kernel))) (wl_g h 5 (by decide +kernel)) (fun _ h => Nat.not_le.mpr h), wl_st hts h⟩
theorem wl_K {args : Array Value} {s : State} (hts : ∀ w ∈ lw_tbl, w.before args s = true) : ∃ (dC : Nat → ClassId) (dI : Nat → Nat → Nat) (cs : Nat → ClassId), va_K (dC, dI) vwCl (xT cs) s := by
  obtain ⟨c0, i0, hK0⟩ := u_known (C := RX0) (T := TX0) (N := 14) (n := 14) hts inX0 (hts _ (lwR (i := 24) (by decide +kernel)))
  obtain ⟨c1, i1, hK1⟩ := u_known (C := RX1) (T := TX1) (N := 3) (n := 3) hts inX1 (hts _ (lwR (i := 90) (by decide +kernel)))
  obtain ⟨c2, i2, hK2⟩ := u_known (C := RX2) (T := TX2) (N := 2) (n := 2) hts inX2 (hts _ (lwR (i := 30) (by decide +kernel)))
  obtain ⟨c3, i3, hK3⟩ := u_known (C := RX3) (T := TX3) (N := 6) (n := 6) hts inX3 (hts _ (lwR (i := 109) (by decide +kernel)))
  obtain ⟨c4, i4, hK4⟩ := u_known (C := RX4) (T := TX4) (N := 4) (n := 4) hts inX4 (hts _ (lwR (i := 16) (by decide +kernel)))
  obtain ⟨c5, i5, hK5⟩ := u_known (C := RX5) (T := TX5) (N := 13) (n := 13) hts inX5 (hts _ (lwR (i := 750) (by decide +kernel)))
  obtain ⟨a0, k0, p0, f0, g0, j0⟩ := Cond.arrayClass_spec (show (Cond.arrayClass .int).holds args s none s [] = true from hts _ (lwR (i := 45) (by decide +kernel)))
  obtain ⟨a1, k1, p1, f1, g1, j1⟩ := Cond.arrayClass_spec (show (Cond.arrayClass .boolean).holds args s none s [] = true from hts _ (lwR (i := 799) (by decide +kernel)))
  obtain ⟨a2, k2, p2, f2, g2, j2⟩ := Cond.arrayClass_spec (show (Cond.arrayClass .long).holds args s none s [] = true from hts _ (lwR (i := 1092) (by decide +kernel)))
  obtain ⟨p3, a3, k3, h1, h2, h3, h4, h5⟩ := Cond.arrayOver_spec (show (Cond.arrayOver (.object "BoatRuns$Boat")).holds args s none s [] = true from hts _ (lwR (i := 96) (by decide +kernel)))
  refine ⟨fun k => if k = 0 then c0 else if k = 1 then c1 else if k = 2 then c2 else if k = 3 then c3 else if k = 4 then c4 else c5, fun k => if k = 0 then i0 else if k = 1 then i1 else if k = 2 then i2 else if k = 3 then i3 else if k = 4 then i4 else i5, fun k => if k = 0 then a0 else if k = 1 then a1 else if k = 2 then a3 else a2, ?_, ?_⟩
  · intro k q hq
    match k, hq with
    | 0, hq => cases hq; exact hK0
    | 1, hq => cases hq; exact hK1
    | 2, hq => cases hq; exact hK2
    | 3, hq => cases hq; exact hK3
    | 4, hq => cases hq; exact hK4
    | 5, hq => cases hq; exact hK5
    | k + 6, hq => simp [vwCl] at hq
  · intro k q hq
    match k, hq with
    | 0, hq => cases hq; exact ⟨fun n z => ⟨(fun k h => by cases h), k0, g0, p0, j0⟩, f0⟩
    | 1, hq => cases hq; exact ⟨fun n z => ⟨(fun k h => by cases h), k1, g1, p1, j1⟩, f1⟩
    | 2, hq => cases hq; exact ⟨fun n z => ⟨(fun k h => by cases h), k3, h3, p3, h4⟩, ⟨k3, p3, h3, h4, h1, h5⟩⟩
    | 3, hq => cases hq; exact ⟨fun n z => ⟨(fun k h => by cases h), k2, g2, p2, j2⟩, f2⟩
    | k + 4, hq => simp [xT] at hq
theorem x_zeroL (cA : ClassId) (N : Nat) : vp_cell cA (N, .inr (.inl (xAL (fun _ => 0)))) = arrV cA N (fun _ => defaultValue .long) := by
  rfl

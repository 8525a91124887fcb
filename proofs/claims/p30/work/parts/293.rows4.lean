/-! Worlds in chunks: a list of lists of cells; a callee takes some chunks, the others stay. -/
def x_setC : List va_W → List Nat → List va_W → List va_W
  | ws, i :: is, x :: xs => x_setC (ws.set i x) is xs
  | ws, _, _ => ws
theorem x_setC_len : ∀ (is : List Nat) (xs ws : List va_W), (x_setC ws is xs).length = ws.length
  | [], xs, ws => by cases xs <;> rfl
  | i :: is, [], ws => rfl
  | i :: is, x :: xs, ws => by show (x_setC (ws.set i x) is xs).length = _; rw [x_setC_len is xs, List.length_set]
theorem x_setC_off : ∀ (is : List Nat) (xs ws : List va_W) (k : Nat), k ∉ is → (x_setC ws is xs)[k]? = ws[k]?
  | [], xs, ws, k, _ => by cases xs <;> rfl
  | i :: is, [], ws, k, _ => rfl
  | i :: is, x :: xs, ws, k, h => by
    show (x_setC (ws.set i x) is xs)[k]? = _
    rw [x_setC_off is xs _ k (fun q => h (List.mem_cons_of_mem _ q)), List.getElem?_set_ne (fun q => h (by rw [q]; exact List.mem_cons_self))]
theorem x_setC_on : ∀ (is : List Nat) (xs ws : List va_W) (j k : Nat), va_nd is = true → is[j]? = some k → k < ws.length → is.length = xs.length → (x_setC ws is xs)[k]? = xs[j]?
  | [], xs, ws, j, k, _, h, _, _ => by simp at h
  | i :: is, [], ws, j, k, _, _, _, hl => by simp at hl
  | i :: is, x :: xs, ws, j, k, hn, h, hk, hl => by
    show (x_setC (ws.set i x) is xs)[k]? = _
    have hn1 : i ∉ is ∧ va_nd is = true := by
      have := hn
      simp only [va_nd, Bool.and_eq_true, Bool.not_eq_true', List.contains_eq_mem, decide_eq_false_iff_not] at this
      exact ⟨by simpa using this.1, this.2⟩
    cases j with
    | zero =>
      have : i = k := by simpa using h
      subst this
      rw [x_setC_off is xs _ i hn1.1]
      simp [hk]
    | succ j =>
      have h' : is[j]? = some k := by simpa using h
      rw [x_setC_on is xs (ws.set i x) j k hn1.2 h' (by rw [List.length_set]; exact hk) (by simpa using hl)]
      simp
theorem xP_mem {D : va_G} {cl : List vw_C} {ws : va_W} {H : Heap} (h : va_P D cl ws H) {q : Nat × va_E} (hq : q ∈ ws) : va_at D cl q H := by
  obtain ⟨k, hk⟩ := List.getElem?_of_mem hq
  exact h k q hk
theorem xP_of {D : va_G} {cl : List vw_C} {ws : va_W} {H : Heap} (h : ∀ q ∈ ws, va_at D cl q H) : va_P D cl ws H := fun k q hk => h q (List.mem_of_getElem? hk)
theorem xD_pair {A : Nat → Prop} {ws : va_W} (h : va_D A ws) : ws.Pairwise (fun p q => p.1 ≠ q.1) := by
  rw [List.pairwise_iff_getElem]
  intro i j hi hj hij he
  have := h.1 i j ws[i] ws[j] (List.getElem?_eq_getElem hi) (List.getElem?_eq_getElem hj) he
  omega
theorem xD_of {A : Nat → Prop} {ws : va_W} (h : ws.Pairwise (fun p q => p.1 ≠ q.1)) (hA : ∀ q ∈ ws, A q.1) : va_D A ws := by
  refine ⟨fun i j p q hi hj he => ?_, fun k q hk => hA q (List.mem_of_getElem? hk)⟩
  rw [List.pairwise_iff_getElem] at h
  obtain ⟨hi1, hi2⟩ := List.getElem?_eq_some_iff.mp hi
  obtain ⟨hj1, hj2⟩ := List.getElem?_eq_some_iff.mp hj
  rcases Nat.lt_trichotomy i j with q1 | q1 | q1
  · exact absurd (by rw [hi2, hj2]; exact he) (h i j hi1 hj1 q1)
  · exact q1
  · exact absurd (by rw [hi2, hj2]; exact he.symm) (h j i hj1 hi1 q1)
theorem xD_mem {A : Nat → Prop} {ws : va_W} (h : va_D A ws) {q : Nat × va_E} (hq : q ∈ ws) : A q.1 := by
  obtain ⟨k, hk⟩ := List.getElem?_of_mem hq
  exact h.2 k q hk
theorem x_subC {chs wcs : List va_W} {isC : List Nat} (hC : isC.map (fun i => chs[i]?) = wcs.map some) : ∀ w ∈ wcs, w ∈ chs := by
  intro w hw
  obtain ⟨k, hk⟩ := List.getElem?_of_mem hw
  have h1 : (wcs.map some)[k]? = some (some w) := by rw [List.getElem?_map, hk]; rfl
  rw [← hC, List.getElem?_map] at h1
  cases hi : isC[k]? with
  | none => rw [hi] at h1; cases h1
  | some i => rw [hi] at h1; exact List.mem_of_getElem? (Option.some.inj h1)
theorem x_memC {chs wcs : List va_W} {isC : List Nat} (hC : isC.map (fun i => chs[i]?) = wcs.map some) {q : Nat × va_E} (hq : q ∈ wcs.flatten) : q ∈ chs.flatten := by
  obtain ⟨w, hw, h⟩ := List.mem_flatten.mp hq
  exact List.mem_flatten.mpr ⟨w, x_subC hC w hw, h⟩
theorem x_joinF {A0 : Nat → Prop} {D : va_G} {cl : List vw_C} {chs wcs w1s : List va_W} {H H1 : Heap} (hP : va_P D cl chs.flatten H) (hD : va_D A0 chs.flatten) (isC : List Nat) (hC : isC.map (fun i => chs[i]?) = wcs.map some) (hn : va_nd isC = true) (hl : w1s.length = isC.length)
    (hk : ∀ q : Nat, q < H.size → ¬ va_A wcs.flatten H.size q → H1[q]? = H[q]?) (hP1 : va_P D cl w1s.flatten H1) : va_P D cl (x_setC chs isC w1s).flatten H1 := by
  have hlen : isC.length = wcs.length := by have := congrArg List.length hC; simpa using this
  refine xP_of fun q hq => ?_
  obtain ⟨w, hw, hqw⟩ := List.mem_flatten.mp hq
  obtain ⟨k, hk0⟩ := List.getElem?_of_mem hw
  by_cases hkC : k ∈ isC
  · obtain ⟨j, hj⟩ := List.getElem?_of_mem hkC
    have hkl : k < chs.length := by
      have h2 := (List.getElem?_eq_some_iff.mp hk0).1
      rw [x_setC_len] at h2
      exact h2
    rw [x_setC_on isC w1s chs j k hn hj hkl hl.symm] at hk0
    exact xP_mem hP1 (List.mem_flatten.mpr ⟨w, List.mem_of_getElem? hk0, hqw⟩)
  · rw [x_setC_off isC w1s chs k hkC] at hk0
    have hqm : q ∈ chs.flatten := List.mem_flatten.mpr ⟨w, List.mem_of_getElem? hk0, hqw⟩
    have hat := xP_mem hP hqm
    refine hat.kept (hk q.1 hat.lt ?_)
    rintro (⟨k2, e, h⟩ | h)
    · have hm2 : (q.1, e) ∈ wcs.flatten := List.mem_of_getElem? h
      obtain ⟨w2, hw2, hq2⟩ := List.mem_flatten.mp hm2
      obtain ⟨j2, hj2⟩ := List.getElem?_of_mem hw2
      have h1 : (wcs.map some)[j2]? = some (some w2) := by rw [List.getElem?_map, hj2]; rfl
      rw [← hC, List.getElem?_map] at h1
      cases hi : isC[j2]? with
      | none => rw [hi] at h1; cases h1
      | some i =>
        rw [hi] at h1
        have hi2 : chs[i]? = some w2 := Option.some.inj h1
        have hik : i ≠ k := fun z => hkC (by rw [← z]; exact List.mem_of_getElem? hi)
        have hpw := (List.pairwise_flatten.mp (xD_pair hD)).2
        rw [List.pairwise_iff_getElem] at hpw
        obtain ⟨a1, a2⟩ := List.getElem?_eq_some_iff.mp hi2
        obtain ⟨b1, b2⟩ := List.getElem?_eq_some_iff.mp hk0
        rcases Nat.lt_or_gt_of_ne hik with z | z
        · exact hpw i k a1 b1 z (q.1, e) (by rw [a2]; exact hq2) q (by rw [b2]; exact hqw) rfl
        · exact hpw k i b1 a1 z q (by rw [b2]; exact hqw) (q.1, e) (by rw [a2]; exact hq2) rfl
    · exact absurd hat.lt (by omega)
theorem x_freeF {A0 : Nat → Prop} {chs wcs : List va_W} {H0 H : Heap} {locs : List Loc} {isC : List Nat} (hD : va_D A0 chs.flatten) (hS : va_S A0 H0 H locs) (hA : ∀ q, H0.size ≤ q → A0 q) (hC : isC.map (fun i => chs[i]?) = wcs.map some) : ∀ q, va_A wcs.flatten H.size q → A0 q := by
  rintro q (⟨k, e, h⟩ | h)
  · exact xD_mem hD (q := (q, e)) (x_memC hC (List.mem_of_getElem? h))
  · exact hA q (Nat.le_trans hS.1 h)
theorem x_nodup : ∀ {l : List Nat}, va_nd l = true → l.Nodup
  | [], _ => List.nodup_nil
  | i :: is, h => by
    simp only [va_nd, Bool.and_eq_true, Bool.not_eq_true', List.contains_eq_mem, decide_eq_false_iff_not] at h
    exact List.nodup_cons.mpr ⟨by simpa using h.1, x_nodup h.2⟩
theorem x_subD {A0 : Nat → Prop} {chs wcs : List va_W} {isC : List Nat} (hD : va_D A0 chs.flatten) (hn : va_nd isC = true) (hC : isC.map (fun i => chs[i]?) = wcs.map some) : va_D A0 wcs.flatten := by
  refine xD_of (List.pairwise_flatten.mpr ⟨fun w hw => (List.pairwise_flatten.mp (xD_pair hD)).1 w (x_subC hC w hw), ?_⟩) (fun q hq => xD_mem hD (x_memC hC hq))
  have hpw := (List.pairwise_flatten.mp (xD_pair hD)).2
  rw [List.pairwise_iff_getElem] at hpw ⊢
  have hlen : isC.length = wcs.length := by have := congrArg List.length hC; simpa using this
  have key : ∀ (j : Nat) (hj : j < wcs.length), ∃ i, isC[j]? = some i ∧ ∃ h : i < chs.length, chs[i] = wcs[j] := by
    intro j hj
    have h1 : (wcs.map some)[j]? = some (some wcs[j]) := by rw [List.getElem?_map, List.getElem?_eq_getElem hj]; rfl
    rw [← hC, List.getElem?_map] at h1
    cases hi : isC[j]? with
    | none => rw [hi] at h1; cases h1
    | some i =>
      rw [hi] at h1
      obtain ⟨a1, a2⟩ := List.getElem?_eq_some_iff.mp (Option.some.inj h1)
      exact ⟨i, rfl, a1, a2⟩
  intro j1 j2 h1 h2 hlt
  obtain ⟨i1, e1, g1, f1⟩ := key j1 h1
  obtain ⟨i2, e2, g2, f2⟩ := key j2 h2
  have hne : i1 ≠ i2 := by
    intro z
    have := va_nd_inj isC hn j1 j2 i1 e1 (by rw [z]; exact e2)
    omega
  rw [← f1, ← f2]
  intro x hx y hy
  rcases Nat.lt_or_gt_of_ne hne with z | z
  · exact hpw i1 i2 g1 g2 z x hx y hy
  · exact fun w => hpw i2 i1 g2 g1 z y hy x hx w.symm
section XROWS4
variable {p : Program} {l : Launch} {e : Env} {R : Room} {s : State} {m : MethodId} {args : Array Value} {below : List Frame} {meth : Method} {c : Code} {H : Heap} {locs : List Loc} {cells slots : Nat} {Q : State → Prop}
variable {cc : ByteArray} {pc : Nat} {ls : Array Slot} {rest : List Value} {D : va_G} {cl : List vw_C} {tys : List (ClassId × FieldType)} {chs wcs w1s : List va_W} {H0 : Heap}
variable {y : MethodName} {bytes : ByteArray} {maxL nL n index ci N mc ms : Nat} {ret : Option FieldType} {wsy : List Cond} {rm : Room} {Ts : List Cond} {own C : String} {T : u_T} {b : Addr} {As : List Value} {wc w1 : va_W} {fs : List Value} {v : Int} {st : List Value} {A0 : Nat → Prop}
theorem xf_ri (S : CallFix p m c cc nL s args Ts own) (hM : Met l y wsy rm (va_Pc (.ref b :: As) (xPR D cl wc tys)) (vp_Si (fun r => r = iI v)) 0 0 (fun _ => False)) (cw : CallW R s args own C index y bytes maxL ret wsy rm 0 0 n)
    (hK : va_K D cl tys s) (hP : va_P D cl chs.flatten H) (isC : List Nat) (hwc : wc = wcs.flatten) (hC : isC.map (fun i => chs[i]?) = wcs.map some) (he : wc[0]? = some (b, .inr (ci, fs))) (hc : cl[ci]? = some (C, T, N))
    (hn : As.length = n) (hsize : ls.size = nL) (hst : st = As.reverse ++ .ref b :: rest) (hW : (rest.map fun v => v.category).sum ≤ 8) (hdg : decode cc pc = .ok (.invokevirtual index, 3)) (hcR : cells ≤ R.cells ∧ slots ≤ R.slots)
    (kk : W p l e R s m args below meth c H locs cells slots Q (F0 m (pc + 3) ls (.int (iI v) :: rest))) : W p l e R s m args below meth c H locs cells slots Q (F0 m pc ls st) := by
  have hPc : va_P D cl wc H := xP_of fun q hq => xP_mem hP (x_memC hC (by rw [← hwc]; exact hq))
  exact vp_callSi (W.runV S hM cw ⟨xPR_blind, va_recv hK hPc hc he, fun U hU hW => ⟨rfl, by rw [hU]; exact hPc, va_K.moved hW.alike hK⟩⟩ rfl hn hsize hst (lv_room hW) hdg hcR) (fun r hr => by subst hr; exact kk)
theorem xf_wi (S : CallFix p m c cc nL s args Ts own) (hM : Met l y wsy rm (va_Pc (.ref b :: As) (xPW D cl wc tys H.size)) (xQi D cl wc w1 H.size v) 0 0 (va_A wc H.size)) (cw : CallW R s args own C index y bytes maxL ret wsy rm 0 0 n)
    (hK : va_K D cl tys s) (hP : va_P D cl chs.flatten H) (hD : va_D A0 chs.flatten) (hS : va_S A0 H0 H locs) (hA : ∀ q, H0.size ≤ q → A0 q) (isC : List Nat) (hwc : wc = wcs.flatten) (hw1 : w1 = w1s.flatten) (hC : isC.map (fun i => chs[i]?) = wcs.map some) (hnd : va_nd isC = true) (hl : w1s.length = isC.length) (he : wc[0]? = some (b, .inr (ci, fs))) (hc : cl[ci]? = some (C, T, N))
    (hn : As.length = n) (hsize : ls.size = nL) (hst : st = As.reverse ++ .ref b :: rest) (hW : (rest.map fun v => v.category).sum ≤ 8) (hdg : decode cc pc = .ok (.invokevirtual index, 3)) (hcR : cells ≤ R.cells ∧ slots ≤ R.slots)
    (kk : ∀ (H1 : Heap) (locs1 : List Loc), va_P D cl (x_setC chs isC w1s).flatten H1 → va_S A0 H0 H1 locs1 → W p l e R s m args below meth c H1 locs1 cells slots Q (F0 m (pc + 3) ls (.int (iI v) :: rest))) : W p l e R s m args below meth c H locs cells slots Q (F0 m pc ls st) := by
  subst hwc; subst hw1
  have hPc : va_P D cl wcs.flatten H := xP_of fun q hq => xP_mem hP (x_memC hC hq)
  have hF := x_freeF hD hS hA hC
  have hDc := x_subD hD hnd hC
  refine va_calli (va_runV S hM cw ⟨xPW_blind, va_recv hK hPc hc he, fun U hU hW => ⟨rfl, by rw [hU], by rw [hU]; exact hPc, va_K.moved hW.alike hK, hDc.weaken (fun _ _ _ _ => trivial)⟩⟩ rfl hn hsize hst (lv_room hW) hdg hcR) hS (fun q _ h => hF q h) hF (fun r u t H1 locs1 ht hvm hr hB hz hk hS1 => ?_)
  subst hr
  rw [ht] at hB
  exact kk H1 locs1 (x_joinF hP hD isC hC hnd hl hk hB) hS1
theorem xf_wl (S : CallFix p m c cc nL s args Ts own) (hM : Met l y wsy rm (va_Pc (.ref b :: As) (xPW D cl wc tys H.size)) (xQl D cl wc w1 H.size v) 0 0 (va_A wc H.size)) (cw : CallW R s args own C index y bytes maxL ret wsy rm 0 0 n)
    (hK : va_K D cl tys s) (hP : va_P D cl chs.flatten H) (hD : va_D A0 chs.flatten) (hS : va_S A0 H0 H locs) (hA : ∀ q, H0.size ≤ q → A0 q) (isC : List Nat) (hwc : wc = wcs.flatten) (hw1 : w1 = w1s.flatten) (hC : isC.map (fun i => chs[i]?) = wcs.map some) (hnd : va_nd isC = true) (hl : w1s.length = isC.length) (he : wc[0]? = some (b, .inr (ci, fs))) (hc : cl[ci]? = some (C, T, N))
    (hn : As.length = n) (hsize : ls.size = nL) (hst : st = As.reverse ++ .ref b :: rest) (hW : (rest.map fun v => v.category).sum ≤ 8) (hdg : decode cc pc = .ok (.invokevirtual index, 3)) (hcR : cells ≤ R.cells ∧ slots ≤ R.slots)
    (kk : ∀ (H1 : Heap) (locs1 : List Loc), va_P D cl (x_setC chs isC w1s).flatten H1 → va_S A0 H0 H1 locs1 → W p l e R s m args below meth c H1 locs1 cells slots Q (F0 m (pc + 3) ls (.long (iL v) :: rest))) : W p l e R s m args below meth c H locs cells slots Q (F0 m pc ls st) := by
  subst hwc; subst hw1
  have hPc : va_P D cl wcs.flatten H := xP_of fun q hq => xP_mem hP (x_memC hC hq)
  have hF := x_freeF hD hS hA hC
  have hDc := x_subD hD hnd hC
  refine va_calll (va_runV S hM cw ⟨xPW_blind, va_recv hK hPc hc he, fun U hU hW => ⟨rfl, by rw [hU], by rw [hU]; exact hPc, va_K.moved hW.alike hK, hDc.weaken (fun _ _ _ _ => trivial)⟩⟩ rfl hn hsize hst (lv_room hW) hdg hcR) hS (fun q _ h => hF q h) hF (fun r u t H1 locs1 ht hvm hr hB hz hk hS1 => ?_)
  subst hr
  rw [ht] at hB
  exact kk H1 locs1 (x_joinF hP hD isC hC hnd hl hk hB) hS1
theorem xf_wv (S : CallFix p m c cc nL s args Ts own) (hM : Met l y wsy rm (va_Pc (.ref b :: As) (xPW D cl wc tys H.size)) (xQv D cl wc w1 H.size) 0 0 (va_A wc H.size)) (cw : CallW R s args own C index y bytes maxL ret wsy rm 0 0 n)
    (hK : va_K D cl tys s) (hP : va_P D cl chs.flatten H) (hD : va_D A0 chs.flatten) (hS : va_S A0 H0 H locs) (hA : ∀ q, H0.size ≤ q → A0 q) (isC : List Nat) (hwc : wc = wcs.flatten) (hw1 : w1 = w1s.flatten) (hC : isC.map (fun i => chs[i]?) = wcs.map some) (hnd : va_nd isC = true) (hl : w1s.length = isC.length) (he : wc[0]? = some (b, .inr (ci, fs))) (hc : cl[ci]? = some (C, T, N))
    (hn : As.length = n) (hsize : ls.size = nL) (hst : st = As.reverse ++ .ref b :: rest) (hW : (rest.map fun v => v.category).sum ≤ 8) (hdg : decode cc pc = .ok (.invokevirtual index, 3)) (hcR : cells ≤ R.cells ∧ slots ≤ R.slots)
    (kk : ∀ (H1 : Heap) (locs1 : List Loc), va_P D cl (x_setC chs isC w1s).flatten H1 → va_S A0 H0 H1 locs1 → W p l e R s m args below meth c H1 locs1 cells slots Q (F0 m (pc + 3) ls rest)) : W p l e R s m args below meth c H locs cells slots Q (F0 m pc ls st) := by
  subst hwc; subst hw1
  have hPc : va_P D cl wcs.flatten H := xP_of fun q hq => xP_mem hP (x_memC hC hq)
  have hF := x_freeF hD hS hA hC
  have hDc := x_subD hD hnd hC
  refine va_callv (va_runV S hM cw ⟨xPW_blind, va_recv hK hPc hc he, fun U hU hW => ⟨rfl, by rw [hU], by rw [hU]; exact hPc, va_K.moved hW.alike hK, hDc.weaken (fun _ _ _ _ => trivial)⟩⟩ rfl hn hsize hst (lv_room hW) hdg hcR) hS (fun q _ h => hF q h) hF (fun u t H1 locs1 ht hvm hr hB hz hk hS1 => ?_)
  rw [ht] at hB
  exact kk H1 locs1 (x_joinF hP hD isC hC hnd hl hk hB) hS1
/-- the same addresses, chunk by chunk -/
theorem x_addrF {A : Nat → Prop} {chs chs' : List va_W} (h : va_D A chs.flatten) (he : chs'.map (fun w => w.map Prod.fst) = chs.map (fun w => w.map Prod.fst)) : va_D A chs'.flatten := by
  refine x_addr h ?_
  rw [List.map_flatten, List.map_flatten, he]
end XROWS4
theorem x_pre6 {D : va_G} {cl : List vw_C} {chs wcs : List va_W} {H : Heap} (hP : va_P D cl chs.flatten H) (hC : [0, 1, 2, 3, 4, 5].map (fun i => chs[i]?) = wcs.map some) : va_P D cl wcs.flatten H := xP_of fun q hq => xP_mem hP (x_memC hC hq)

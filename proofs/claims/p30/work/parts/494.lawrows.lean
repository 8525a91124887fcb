/-! Rows for the law: its helpers (methods with handlers), its methods over arrays, calls of them. (Begun from whole's part 500.) -/
theorem x_ofWH {l : Launch} {y : MethodName} {ws ws' : List Cond} {rm : Room} {Pc : Array Value → State → Prop} {Qc : Array Value → State → Outcome → State → Prop} {mc ms : Nat} {free : Addr → Prop} {cc : ByteArray} {maxL : Nat} {ret : Option FieldType} {hh : List (Nat × Nat × Nat × Nat)}
    (hy : plainName y.cls = true) (hw : ws = Cond.codeWith y cc maxL ret hh :: ws')
    (body : ∀ p e s m args below meth c s₁, BodyLoose p l y (headSpec ws rm) cc maxL ret e s m args below meth c s₁ → c.maxLocals = maxL → c.exceptionTable.toList = tableOf hh → Pc args s →
      W p l e (headSpec ws rm).room s m args below meth c s.heap [] 0 0 (MQ below Qc args s mc ms free) (entryFrame m args maxL)) : Met l y ws rm Pc Qc mc ms free := by
  refine MetFree.of_bodyS (code := cc) (maxLocals := maxL) (ret := ret) hy ?_ ?_
  · intro args s m h hn
    obtain ⟨m9, meth, c, hn9, h1, h2, h3, h4, -, h5, h6, -⟩ := Cond.codeWith_spec (atoms_spec (ws := ws) h _ (by rw [hw]; exact List.mem_cons_self))
    cases hn.symm.trans hn9
    exact ⟨meth, c, h1, h2, h3, h4, h5, h6⟩
  · intro p e s m args below meth c s₁ B hml hP _
    have hh0 : s₁.heap = s.heap := by rw [B.state]; rfl
    have htab := vx_table (x := y) B (atoms_spec (ws := ws) B.pre _ (by rw [hw]; exact List.mem_cons_self))
    obtain ⟨t, a1, o, b1, b2, b3⟩ := body p e s m args below meth c s₁ B hml htab hP s₁ hh0 (Stand.of_body B)
    exact ⟨t, o, a1, b1, b2, ⟨b3.1, b3.2⟩⟩
def qcC (cs : Nat → ClassId) (a N : Nat) (f : Int → Int) : Nat × va_E := (a, .inl (cs 0, (N, .inl (xA f))))
def x_ncs : List (String × String) := [("java/lang/IllegalStateException", "java/lang/IllegalArgumentException"), ("java/lang/IllegalArgumentException", "java/util/NoSuchElementException"), ("java/lang/IllegalStateException", "java/util/NoSuchElementException"), ("java/lang/IllegalArgumentException", "java/lang/IndexOutOfBoundsException"), ("java/lang/IndexOutOfBoundsException", "java/util/NoSuchElementException")]
def xPL (D : va_G) (cl : List vw_C) (ws : va_W) (tys : List (ClassId × FieldType)) (sz : Nat) : State → Prop := fun U => xPX D cl ws tys sz U ∧ ∀ q ∈ x_ncs, va_Nc q.1 q.2 U
theorem va_Nc_same {C T : String} {u U : State} (h : u.vm = U.vm) (hn : va_Nc C T u) : va_Nc C T U := by
  obtain ⟨c, t, h1, h2, h3⟩ := hn
  exact ⟨c, t, by rw [← h]; exact h1, by rw [← h]; exact h2, by rw [← h]; exact h3⟩
theorem va_Nc_warm {C T : String} {s U : State} (hW : s.WarmedH U.vm) (hn : va_Nc C T s) : va_Nc C T U := by
  obtain ⟨c, t, h1, h2, h3⟩ := hn
  exact ⟨c, t, by rw [hW.alike.findClass]; exact h1, by rw [hW.alike.findClass]; exact h2, by rw [hW.alike.assignable]; exact h3⟩
theorem xPL_blind {D : va_G} {cl : List vw_C} {ws : va_W} {tys : List (ClassId × FieldType)} {vs : List Value} {sz : Nat} : FrameBlind (va_Pc vs (xPL D cl ws tys sz)) := fun a U g mk h => ⟨h.1, (xPX_blind (vs := vs) a U g mk ⟨h.1, h.2.1⟩).2, fun q hq => va_Nc_same (u := U) rfl (h.2.2 q hq)⟩
theorem xTh_warm {A B : Nat → Prop} {s U : State} {H : Heap} {locs : List Loc} (hT : xTh A s) (hS : va_S A s.heap H locs) (hU : U.heap = H) (hW : s.WarmedH U.vm) (hAB : ∀ q, B q → A q) : xTh B U := by
  refine ⟨fun w hw => ?_, ?_, ?_, fun q hq => ?_⟩
  · have h1 : va_Nw w s := hT.1 w hw
    have hf : w.faceAtom = true := by
      simp only [x_cw, List.mem_cons, List.not_mem_nil, or_false] at hw
      rcases hw with rfl | rfl | rfl | rfl | rfl | rfl | rfl <;> rfl
    have ho : w.onTables = true := by
      simp only [x_cw, List.mem_cons, List.not_mem_nil, or_false] at hw
      rcases hw with rfl | rfl | rfl | rfl | rfl | rfl | rfl <;> rfl
    exact va_Nw.same ho (u := s.setVm U.vm) rfl (Cond.faceAtom_setVm (args := #[]) hW.alike w hf h1)
  · have := (hT.2.1.kept hS.2.1)
    rw [hU]
    exact (vx_Zq.moved hW.alike this).narrow hAB
  · have := (hT.2.2.1.kept hS.2.1)
    rw [hU]
    exact (vx_Zq.moved hW.alike this).narrow hAB
  · obtain ⟨sa, h⟩ := hT.2.2.2 q hq
    exact ⟨sa, vk_R.warm hW h⟩
theorem x_keepF {A0 : Nat → Prop} {D : va_G} {cl : List vw_C} {chs wcs : List va_W} {H H1 : Heap} (hP : va_P D cl chs.flatten H) (hD : va_D A0 chs.flatten) {isC : List Nat} (hC : isC.map (fun i => chs[i]?) = wcs.map some)
    (hk : ∀ q : Nat, q < H.size → ¬ va_A wcs.flatten H.size q → H1[q]? = H[q]?) (hP1 : va_P D cl wcs.flatten H1) : va_P D cl chs.flatten H1 := by
  refine xP_of fun q hq => ?_
  have hat := xP_mem hP hq
  by_cases h9 : va_A wcs.flatten H.size q.1
  · rcases h9 with ⟨k, e, h⟩ | h
    · have hm := x_memC hC (List.mem_of_getElem? h)
      obtain ⟨i, hi⟩ := List.getElem?_of_mem hq
      obtain ⟨j, hj⟩ := List.getElem?_of_mem hm
      have hij := hD.1 i j q (q.1, e) hi hj rfl
      subst hij
      have : q = (q.1, e) := Option.some.inj (hi.symm.trans hj)
      rw [this]
      exact hP1 k _ h
    · exact absurd hat.lt (by omega)
  · exact hat.kept (hk q.1 hat.lt h9)
section XLAW
variable {p : Program} {l : Launch} {e : Env} {R : Room} {s : State} {m : MethodId} {args : Array Value} {below : List Frame} {meth : Method} {c : Code} {H : Heap} {locs : List Loc} {cells slots : Nat} {Q : State → Prop}
variable {cc : ByteArray} {pc : Nat} {ls : Array Slot} {rest : List Value} {D : va_G} {cl : List vw_C} {tys : List (ClassId × FieldType)} {chs wcs w1s : List va_W} {H0 : Heap} {ws : va_W} {A : Nat → Prop} {a : Nat}
variable {y : MethodName} {bytes : ByteArray} {maxL nL n index ci N mc ms : Nat} {ret : Option FieldType} {wsy : List Cond} {rm : Room} {Ts : List Cond} {own C : String} {T : u_T} {b : Addr} {As : List Value} {wc w1 : va_W} {fs : List Value} {k v : Int} {st : List Value} {A0 : Nat → Prop}
theorem xf_xi (S : CallFix p m c cc nL s args Ts own) (hM : vx_Met l y wsy rm (va_Pc (.ref b :: As) (xPX D cl wc tys H.size)) (xQx D cl wc w1 H.size k v) (xXx D cl wc H.size k) mc ms (va_A wc H.size)) (cw : CallW R s args own C index y bytes maxL ret wsy rm mc ms n)
    (hK : va_K D cl tys s) (hP : va_P D cl chs.flatten H) (hD : va_D A0 chs.flatten) (hS : va_S A0 s.heap H locs) (hA : ∀ q, s.heap.size ≤ q → A0 q) (hT : xTh A0 s) (isC : List Nat) (hwc : wc = wcs.flatten) (hw1 : w1 = w1s.flatten) (hC : isC.map (fun i => chs[i]?) = wcs.map some) (hnd : va_nd isC = true) (hl : w1s.length = isC.length) (he : wc[0]? = some (b, .inr (ci, fs))) (hc : cl[ci]? = some (C, T, N))
    (hn : As.length = n) (hsize : ls.size = nL) (hst : st = As.reverse ++ .ref b :: rest) (hW : (rest.map fun v => v.category).sum ≤ 8) (hdg : decode cc pc = .ok (.invokevirtual index, 3)) (hcR : cells + mc ≤ R.cells ∧ slots + ms ≤ R.slots)
    (kk : k = 0 → ∀ (H1 : Heap) (locs1 : List Loc), va_P D cl (x_setC chs isC w1s).flatten H1 → va_S A0 s.heap H1 locs1 → W p l e R s m args below meth c H1 locs1 (cells + mc) (slots + ms) Q (F0 m (pc + 3) ls (.int (iI v) :: rest)))
    (kx : ¬ k = 0 → ∀ (H1 : Heap) (locs1 : List Loc) (q9 : Addr) (ce : Cell), va_P D cl chs.flatten H1 → va_S A0 s.heap H1 locs1 → H1[q9]? = some ce → ce.vm = .none → s.vm.findClass (x_cl k) = some ce.cls → vx_W p l e R s m args below meth c H1 locs1 (cells + mc) (slots + ms) Q (F0 m pc ls rest) q9) : W p l e R s m args below meth c H locs cells slots Q (F0 m pc ls st) := by
  subst hwc; subst hw1
  have hPc : va_P D cl wcs.flatten H := xP_of fun q hq => xP_mem hP (x_memC hC hq)
  have hF := x_freeF hD hS hA hC
  have hDc := x_subD hD hnd hC
  refine vx_calli (vx_runV S hM cw ⟨xPX_blind, va_recv hK hPc hc he, fun U hU hW => ⟨rfl, ⟨by rw [hU], by rw [hU]; exact hPc, va_K.moved hW.alike hK, hDc.weaken (fun _ _ _ _ => trivial)⟩, xTh_warm hT hS hU hW hF⟩⟩ rfl hn hsize hst (lv_room hW) hdg hcR) hS (fun q _ h => hF q h) hF (fun q _ h => hF q h) (fun E ce q9 u t H1 locs1 ht hvm hu hB hz hk hS1 hce hcv hcl => ?_) (fun r u t H1 locs1 ht hvm hr hB hz hk hS1 => ?_)
  · obtain ⟨rfl, hB⟩ := hB
    rw [ht] at hB
    exact kx hu H1 locs1 q9 ce (x_keepF hP hD hC hk hB) hS1 hce hcv hcl
  · obtain ⟨hk0, rfl⟩ := hr
    rw [ht] at hB
    exact kk hk0 H1 locs1 (x_joinF hP hD isC hC hnd hl hk hB) hS1
theorem xf_sw {hh : List (Nat × Nat × Nat × Nat)} (S : CallFix p m c cc nL s args Ts own) (hM : Met l y wsy rm (va_Pc As (xPL D cl wc tys H.size)) (xQi D cl wc w1 H.size v) mc ms (va_A wc H.size)) (cw : vx_CSW R s args own index y bytes maxL ret hh wsy rm mc ms n)
    (hK : va_K D cl tys s) (hP : va_P D cl chs.flatten H) (hD : va_D A0 chs.flatten) (hS : va_S A0 s.heap H locs) (hA : ∀ q, s.heap.size ≤ q → A0 q) (hT : xTh A0 s) (hN : ∀ q ∈ x_ncs, va_Nc q.1 q.2 s) (isC : List Nat) (hwc : wc = wcs.flatten) (hw1 : w1 = w1s.flatten) (hC : isC.map (fun i => chs[i]?) = wcs.map some) (hnd : va_nd isC = true) (hl : w1s.length = isC.length)
    (hn : As.length = n) (hsize : ls.size = nL) (hst : st = As.reverse ++ rest) (hW : (rest.map fun v => v.category).sum ≤ 8) (hdg : decode cc pc = .ok (.invokestatic index, 3)) (hcR : cells + mc ≤ R.cells ∧ slots + ms ≤ R.slots)
    (kk : ∀ (H1 : Heap) (locs1 : List Loc), va_P D cl (x_setC chs isC w1s).flatten H1 → va_S A0 s.heap H1 locs1 → W p l e R s m args below meth c H1 locs1 (cells + mc) (slots + ms) Q (F0 m (pc + 3) ls (.int (iI v) :: rest))) : W p l e R s m args below meth c H locs cells slots Q (F0 m pc ls st) := by
  subst hwc; subst hw1
  have hPc : va_P D cl wcs.flatten H := xP_of fun q hq => xP_mem hP (x_memC hC hq)
  have hF := x_freeF hD hS hA hC
  have hDc := x_subD hD hnd hC
  refine va_calli (vx_runSW S hM cw ⟨xPL_blind, fun U hU hW => ⟨rfl, ⟨⟨by rw [hU], by rw [hU]; exact hPc, va_K.moved hW.alike hK, hDc.weaken (fun _ _ _ _ => trivial)⟩, xTh_warm hT hS hU hW hF⟩, fun q hq => va_Nc_warm hW (hN q hq)⟩⟩ rfl hn hsize hst (lv_room hW) hdg hcR) hS (fun q _ h => hF q h) hF (fun r u t H1 locs1 ht hvm hr hB hz hk hS1 => ?_)
  subst hr
  rw [ht] at hB
  exact kk H1 locs1 (x_joinF hP hD isC hC hnd hl hk hB) hS1
theorem xf_sp (S : CallFix p m c cc nL s args Ts own) (hM : Met l y wsy rm (va_Pc As (xPL D cl wc tys H.size)) (xQi D cl wc w1 H.size v) mc ms (va_A wc H.size)) (cw : CallB R s args own index y bytes maxL ret wsy rm mc ms n ∧ (Cond.static y).before args s = true)
    (hK : va_K D cl tys s) (hP : va_P D cl chs.flatten H) (hD : va_D A0 chs.flatten) (hS : va_S A0 s.heap H locs) (hA : ∀ q, s.heap.size ≤ q → A0 q) (hT : xTh A0 s) (hN : ∀ q ∈ x_ncs, va_Nc q.1 q.2 s) (isC : List Nat) (hwc : wc = wcs.flatten) (hw1 : w1 = w1s.flatten) (hC : isC.map (fun i => chs[i]?) = wcs.map some) (hnd : va_nd isC = true) (hl : w1s.length = isC.length)
    (hn : As.length = n) (hsize : ls.size = nL) (hst : st = As.reverse ++ rest) (hW : (rest.map fun v => v.category).sum ≤ 8) (hdg : decode cc pc = .ok (.invokestatic index, 3)) (hcR : cells + mc ≤ R.cells ∧ slots + ms ≤ R.slots)
    (kk : ∀ (H1 : Heap) (locs1 : List Loc), va_P D cl (x_setC chs isC w1s).flatten H1 → va_S A0 s.heap H1 locs1 → W p l e R s m args below meth c H1 locs1 (cells + mc) (slots + ms) Q (F0 m (pc + 3) ls (.int (iI v) :: rest))) : W p l e R s m args below meth c H locs cells slots Q (F0 m pc ls st) := by
  subst hwc; subst hw1
  have hPc : va_P D cl wcs.flatten H := xP_of fun q hq => xP_mem hP (x_memC hC hq)
  have hF := x_freeF hD hS hA hC
  have hDc := x_subD hD hnd hC
  refine va_calli (va_runS S hM cw ⟨xPL_blind, fun U hU hW => ⟨rfl, ⟨⟨by rw [hU], by rw [hU]; exact hPc, va_K.moved hW.alike hK, hDc.weaken (fun _ _ _ _ => trivial)⟩, xTh_warm hT hS hU hW hF⟩, fun q hq => va_Nc_warm hW (hN q hq)⟩⟩ rfl hn hsize hst (lv_room hW) hdg hcR) hS (fun q _ h => hF q h) hF (fun r u t H1 locs1 ht hvm hr hB hz hk hS1 => ?_)
  subst hr
  rw [ht] at hB
  exact kk H1 locs1 (x_joinF hP hD isC hC hnd hl hk hB) hS1
theorem xf_sri (S : CallFix p m c cc nL s args Ts own) (hM : Met l y wsy rm (va_Pc As (xPR D cl wc tys)) (vp_Si (fun r => r = iI v)) 0 0 (fun _ => False)) (cw : CallB R s args own index y bytes maxL ret wsy rm 0 0 n ∧ (Cond.static y).before args s = true)
    (hK : va_K D cl tys s) (hP : va_P D cl chs.flatten H) (isC : List Nat) (hwc : wc = wcs.flatten) (hC : isC.map (fun i => chs[i]?) = wcs.map some)
    (hn : As.length = n) (hsize : ls.size = nL) (hst : st = As.reverse ++ rest) (hW : (rest.map fun v => v.category).sum ≤ 8) (hdg : decode cc pc = .ok (.invokestatic index, 3)) (hcR : cells ≤ R.cells ∧ slots ≤ R.slots)
    (kk : W p l e R s m args below meth c H locs cells slots Q (F0 m (pc + 3) ls (.int (iI v) :: rest))) : W p l e R s m args below meth c H locs cells slots Q (F0 m pc ls st) := by
  have hPc : va_P D cl wc H := xP_of fun q hq => xP_mem hP (x_memC hC (by rw [← hwc]; exact hq))
  exact vp_callSi (W.runS S hM cw ⟨xPR_blind, fun U hU hW => ⟨rfl, by rw [hU]; exact hPc, va_K.moved hW.alike hK⟩⟩ rfl hn hsize hst (lv_room hW) hdg hcR) (fun r hr => by subst hr; exact kk)
theorem xf_swi (S : CallFix p m c cc nL s args Ts own) (hM : Met l y wsy rm (va_Pc As (xPW D cl wc tys H.size)) (xQi D cl wc w1 H.size v) 0 0 (va_A wc H.size)) (cw : CallB R s args own index y bytes maxL ret wsy rm 0 0 n ∧ (Cond.static y).before args s = true)
    (hK : va_K D cl tys s) (hP : va_P D cl chs.flatten H) (hD : va_D A0 chs.flatten) (hS : va_S A0 H0 H locs) (hA : ∀ q, H0.size ≤ q → A0 q) (isC : List Nat) (hwc : wc = wcs.flatten) (hw1 : w1 = w1s.flatten) (hC : isC.map (fun i => chs[i]?) = wcs.map some) (hnd : va_nd isC = true) (hl : w1s.length = isC.length)
    (hn : As.length = n) (hsize : ls.size = nL) (hst : st = As.reverse ++ rest) (hW : (rest.map fun v => v.category).sum ≤ 8) (hdg : decode cc pc = .ok (.invokestatic index, 3)) (hcR : cells ≤ R.cells ∧ slots ≤ R.slots)
    (kk : ∀ (H1 : Heap) (locs1 : List Loc), va_P D cl (x_setC chs isC w1s).flatten H1 → va_S A0 H0 H1 locs1 → W p l e R s m args below meth c H1 locs1 cells slots Q (F0 m (pc + 3) ls (.int (iI v) :: rest))) : W p l e R s m args below meth c H locs cells slots Q (F0 m pc ls st) := by
  subst hwc; subst hw1
  have hPc : va_P D cl wcs.flatten H := xP_of fun q hq => xP_mem hP (x_memC hC hq)
  have hF := x_freeF hD hS hA hC
  have hDc := x_subD hD hnd hC
  refine va_calli (va_runS S hM cw ⟨xPW_blind, fun U hU hW => ⟨rfl, by rw [hU], by rw [hU]; exact hPc, va_K.moved hW.alike hK, hDc.weaken (fun _ _ _ _ => trivial)⟩⟩ rfl hn hsize hst (lv_room hW) hdg hcR) hS (fun q _ h => hF q h) hF (fun r u t H1 locs1 ht hvm hr hB hz hk hS1 => ?_)
  subst hr
  rw [ht] at hB
  exact kk H1 locs1 (x_joinF hP hD isC hC hnd hl hk hB) hS1
theorem xf_swv (S : CallFix p m c cc nL s args Ts own) (hM : Met l y wsy rm (va_Pc As (xPW D cl wc tys H.size)) (xQv D cl wc w1 H.size) 0 0 (va_A wc H.size)) (cw : CallB R s args own index y bytes maxL ret wsy rm 0 0 n ∧ (Cond.static y).before args s = true)
    (hK : va_K D cl tys s) (hP : va_P D cl chs.flatten H) (hD : va_D A0 chs.flatten) (hS : va_S A0 H0 H locs) (hA : ∀ q, H0.size ≤ q → A0 q) (isC : List Nat) (hwc : wc = wcs.flatten) (hw1 : w1 = w1s.flatten) (hC : isC.map (fun i => chs[i]?) = wcs.map some) (hnd : va_nd isC = true) (hl : w1s.length = isC.length)
    (hn : As.length = n) (hsize : ls.size = nL) (hst : st = As.reverse ++ rest) (hW : (rest.map fun v => v.category).sum ≤ 8) (hdg : decode cc pc = .ok (.invokestatic index, 3)) (hcR : cells ≤ R.cells ∧ slots ≤ R.slots)
    (kk : ∀ (H1 : Heap) (locs1 : List Loc), va_P D cl (x_setC chs isC w1s).flatten H1 → va_S A0 H0 H1 locs1 → W p l e R s m args below meth c H1 locs1 cells slots Q (F0 m (pc + 3) ls rest)) : W p l e R s m args below meth c H locs cells slots Q (F0 m pc ls st) := by
  subst hwc; subst hw1
  have hPc : va_P D cl wcs.flatten H := xP_of fun q hq => xP_mem hP (x_memC hC hq)
  have hF := x_freeF hD hS hA hC
  have hDc := x_subD hD hnd hC
  refine va_callv (va_runS S hM cw ⟨xPW_blind, fun U hU hW => ⟨rfl, by rw [hU], by rw [hU]; exact hPc, va_K.moved hW.alike hK, hDc.weaken (fun _ _ _ _ => trivial)⟩⟩ rfl hn hsize hst (lv_room hW) hdg hcR) hS (fun q _ h => hF q h) hF (fun u t H1 locs1 ht hvm hr hB hz hk hS1 => ?_)
  rw [ht] at hB
  exact kk H1 locs1 (x_joinF hP hD isC hC hnd hl hk hB) hS1
end XLAW
/-! bits -/
def x_and (a b : Int) : Int := (iI a &&& iI b).toInt
def x_or (a b : Int) : Int := (iI a ||| iI b).toInt
def x_xor (a b : Int) : Int := (iI a ^^^ iI b).toInt
def x_shl (a b : Int) : Int := (iI a <<< (iI b &&& 31)).toInt
def x_shr (a b : Int) : Int := (iI a >>> (iI b &&& 31)).toInt
def x_zr {α : Type} (c : Int) (T : Option α) : Option α := if c = 0 then T else none
theorem x_zrE {α : Type} {c : Int} {T : Option α} {r : α} (h : x_zr c T = some r) : c = 0 ∧ T = some r := by
  unfold x_zr at h
  by_cases hc : c = 0
  · rw [if_pos hc] at h; exact ⟨hc, h⟩
  · rw [if_neg hc] at h; cases h
theorem z_stT0 {N : Nat} {f : Int → Int} {i v : Int} (h0 : 0 ≤ i) (h1 : i < (N : Int)) : x_st N f i v = some (x_up f i v) := by
  unfold x_st; rw [if_pos ⟨h0, h1⟩]
section XBITS
variable {p : Program} {l : Launch} {e : Env} {R : Room} {s : State} {m : MethodId} {args : Array Value} {below : List Frame} {meth : Method} {c : Code} {H : Heap} {locs : List Loc} {cells slots : Nat} {Q : State → Prop}
variable {cc : ByteArray} {pc : Nat} {ls : Array Slot} {rest : List Value}
theorem xk_iand (hexec : p.tables.exec = Jvm.exec) (hb : c.code = cc) {x y : Int} (hdg : decode cc pc = .ok (.iand, 1))
    (k : W p l e R s m args below meth c H locs cells slots Q (F0 m (pc + 1) ls (.int (iI (x_and x y)) :: rest))) : W p l e R s m args below meth c H locs cells slots Q (F0 m pc ls (.int (iI y) :: .int (iI x) :: rest)) := by
  refine lv_iand hexec hb hdg ?_
  have e : iI (x_and x y) = _ := iI_self _
  rw [e] at k
  exact k
theorem xk_ior (hexec : p.tables.exec = Jvm.exec) (hb : c.code = cc) {x y : Int} (hdg : decode cc pc = .ok (.ior, 1))
    (k : W p l e R s m args below meth c H locs cells slots Q (F0 m (pc + 1) ls (.int (iI (x_or x y)) :: rest))) : W p l e R s m args below meth c H locs cells slots Q (F0 m pc ls (.int (iI y) :: .int (iI x) :: rest)) := by
  refine lv_ior hexec hb hdg ?_
  have e : iI (x_or x y) = _ := iI_self _
  rw [e] at k
  exact k
theorem xk_ixor (hexec : p.tables.exec = Jvm.exec) (hb : c.code = cc) {x y : Int} (hdg : decode cc pc = .ok (.ixor, 1))
    (k : W p l e R s m args below meth c H locs cells slots Q (F0 m (pc + 1) ls (.int (iI (x_xor x y)) :: rest))) : W p l e R s m args below meth c H locs cells slots Q (F0 m pc ls (.int (iI y) :: .int (iI x) :: rest)) := by
  refine lv_ixor hexec hb hdg ?_
  have e : iI (x_xor x y) = _ := iI_self _
  rw [e] at k
  exact k
theorem xk_ishl (hexec : p.tables.exec = Jvm.exec) (hb : c.code = cc) {x y : Int} (hdg : decode cc pc = .ok (.ishl, 1))
    (k : W p l e R s m args below meth c H locs cells slots Q (F0 m (pc + 1) ls (.int (iI (x_shl x y)) :: rest))) : W p l e R s m args below meth c H locs cells slots Q (F0 m pc ls (.int (iI y) :: .int (iI x) :: rest)) := by
  refine lv_ishl hexec hb hdg ?_
  have e : iI (x_shl x y) = _ := iI_self _
  rw [e] at k
  exact k
theorem xk_ishr (hexec : p.tables.exec = Jvm.exec) (hb : c.code = cc) {x y : Int} (hdg : decode cc pc = .ok (.ishr, 1))
    (k : W p l e R s m args below meth c H locs cells slots Q (F0 m (pc + 1) ls (.int (iI (x_shr x y)) :: rest))) : W p l e R s m args below meth c H locs cells slots Q (F0 m pc ls (.int (iI y) :: .int (iI x) :: rest)) := by
  refine lv_ishr hexec hb hdg ?_
  have e : iI (x_shr x y) = _ := iI_self _
  rw [e] at k
  exact k
end XBITS

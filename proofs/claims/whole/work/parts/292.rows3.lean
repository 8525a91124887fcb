/-! Methods that throw: what they ask of the start, how they end. -/
def x_exn : List String := ["java/lang/RuntimeException", "java/lang/Exception"]
def x_strs : List (Nat × String) := [(35, "room is out of range"), (52, "key or weight is out of range"), (60, "no more parcels can be loaded"), (68, "an argument is out of range"), (83, "there is no such run"), (86, "both runs are the same"), (94, "there are fewer than two runs"), (99, "force is out of range"), (111, "the run cannot be brought ashore"), (118, "no such parcel was loaded"), (121, "what is out of range"), (132, "the run has not so many parcels"), (137, "there are not so many parcels ashore"), (139, "there are not so many runs"), (173, "value is out of range"), (178, "the text is full"), (208, "there is no saved state")]
def x_cl (k : Int) : String := if k = 1 then "java/lang/IllegalArgumentException" else if k = 2 then "java/lang/IllegalStateException" else if k = 3 then "java/util/NoSuchElementException" else "java/lang/IndexOutOfBoundsException"
def xTh (A : Nat → Prop) (U : State) : Prop := vx_Zq Bundle.tN "UNASSIGNED_STACK" Bundle.steD A U U.heap ∧ vx_Zq Bundle.tN "SUPPRESSED_SENTINEL" Bundle.listD A U U.heap ∧ ∀ q ∈ x_strs, ∃ sa : Nat, vk_R RX4 q.1 q.2 sa U
theorem xn_1 : ∀ w ∈ (vx_atS RX4 37 "java/lang/IllegalArgumentException" x_exn).filter (fun w => !goodWord w), w ∈ ([] : List Cond) := by decide +kernel
theorem xn_2 : ∀ w ∈ (vx_atS RX4 62 "java/lang/IllegalStateException" x_exn).filter (fun w => !goodWord w), w ∈ ([] : List Cond) := by decide +kernel
theorem xn_3 : ∀ w ∈ (vx_atS RX4 85 "java/util/NoSuchElementException" x_exn).filter (fun w => !goodWord w), w ∈ ([] : List Cond) := by decide +kernel
theorem xn_4 : ∀ w ∈ (vx_atS RX4 120 "java/lang/IndexOutOfBoundsException" x_exn).filter (fun w => !goodWord w), w ∈ ([] : List Cond) := by decide +kernel
theorem xg_1 : ∀ w ∈ Cond.classLink RX4 33 "java/lang/IllegalArgumentException" :: Cond.initialized "java/lang/IllegalArgumentException" :: vx_atS RX4 37 "java/lang/IllegalArgumentException" x_exn, vx_ot w = true := by decide +kernel
theorem xg_2 : ∀ w ∈ Cond.classLink RX4 58 "java/lang/IllegalStateException" :: Cond.initialized "java/lang/IllegalStateException" :: vx_atS RX4 62 "java/lang/IllegalStateException" x_exn, vx_ot w = true := by decide +kernel
theorem xg_3 : ∀ w ∈ Cond.classLink RX4 81 "java/util/NoSuchElementException" :: Cond.initialized "java/util/NoSuchElementException" :: vx_atS RX4 85 "java/util/NoSuchElementException" x_exn, vx_ot w = true := by decide +kernel
theorem xg_4 : ∀ w ∈ Cond.classLink RX4 116 "java/lang/IndexOutOfBoundsException" :: Cond.initialized "java/lang/IndexOutOfBoundsException" :: vx_atS RX4 120 "java/lang/IndexOutOfBoundsException" x_exn, vx_ot w = true := by decide +kernel
def xPX (D : va_G) (cl : List vw_C) (ws : va_W) (tys : List (ClassId × FieldType)) (sz : Nat) : State → Prop := fun U => xPW D cl ws tys sz U ∧ xTh (va_A ws sz) U
abbrev xQx (D : va_G) (cl : List vw_C) (w w1 : va_W) (sz : Nat) (k v : Int) : Array Value → State → Outcome → State → Prop := va_Qi (fun r (_ : Unit) => k = 0 ∧ r = iI v) (fun _ t => va_P D cl w1 t.heap) (va_A w sz)
abbrev xXx (D : va_G) (cl : List vw_C) (w : va_W) (sz : Nat) (k : Int) : String → State → State → Prop := vx_X (fun _ : Unit => ¬ k = 0) (fun E _ t => E = x_cl k ∧ va_P D cl w t.heap) (va_A w sz)
theorem xPX_blind {D : va_G} {cl : List vw_C} {ws : va_W} {tys : List (ClassId × FieldType)} {vs : List Value} {sz : Nat} : FrameBlind (va_Pc vs (xPX D cl ws tys sz)) := fun a U g mk h => ⟨h.1, (xPW_blind (vs := vs) a U g mk ⟨h.1, h.2.1⟩).2, vx_Zq.moved (u := U) (U := U.calling g mk a) (Vm.Alike.refl U.vm) h.2.2.1, vx_Zq.moved (u := U) (U := U.calling g mk a) (Vm.Alike.refl U.vm) h.2.2.2.1, fun q hq => by
  obtain ⟨sa, h9⟩ := h.2.2.2.2 q hq
  exact ⟨sa, vk_R.same (u := U) (U := U.calling g mk a) rfl h9⟩⟩
theorem xe_thx {D : va_G} {cl : List vw_C} {w : va_W} {k : Int} {E : String} {s t : State} {H : Heap} {locs : List Loc} {sz : Nat} (hk0 : ¬ k = 0) (hE : E = x_cl k) (hP : va_P D cl w H) (hS : va_S (va_A w sz) s.heap H locs) (hz : H.size ≤ t.heap.size) (hk : ∀ q : Nat, q < H.size → t.heap[q]? = H[q]?) : xXx D cl w sz k E s t :=
  ⟨(), hk0, ⟨hE, hP.kept (fun i q hq => hk q.1 ((hP i q hq).lt))⟩, ⟨Nat.le_trans hS.1 hz, fun q h1 h2 => (hk q (Nat.lt_of_lt_of_le h1 hS.1)).trans (hS.2.1 q h1 h2)⟩⟩
section XROWS3
variable {p : Program} {l : Launch} {e : Env} {R : Room} {s : State} {m : MethodId} {args : Array Value} {below : List Frame} {meth : Method} {c : Code} {H : Heap} {locs : List Loc} {cells slots : Nat} {Q : State → Prop}
variable {cc : ByteArray} {pc : Nat} {ls : Array Slot} {rest : List Value} {D : va_G} {cl : List vw_C}
theorem xe_xi (hexec : p.tables.exec = Jvm.exec) (hb : c.code = cc) (hr : meth.sig.returnType = some .int) {k v : Int} {w w1 : va_W} {sz : Nat} (hlocks : meth.locks = false) (hS : va_S (va_A w sz) s.heap H locs) (hP : va_P D cl w1 H) (hk : k = 0) (hdg : decode cc pc = .ok (.ireturn, 1)) :
    W p l e R s m args below meth c H locs cells slots (MQ below (xQx D cl w w1 sz k v) args s cells slots (va_A w sz)) (F0 m pc ls [.int (iI v)]) :=
  W.iret hexec hb hr (fun t ht hW => ⟨⟨_, (), rfl, ⟨hk, rfl⟩, by show va_P D cl w1 t.heap; rw [ht]; exact hP⟩, hS.F ht⟩) hS.2.2 hdg hlocks
theorem xe_rl (hexec : p.tables.exec = Jvm.exec) (hb : c.code = cc) (hr : meth.sig.returnType = some .long) {v : Int} (hlocks : meth.locks = false) (hdg : decode cc pc = .ok (.lreturn, 1)) (hH : H = s.heap) :
    W p l e R s m args below meth c H [] cells slots (MQ below (vp_Sl (fun r => r = iL v)) args s cells slots (fun _ => False)) (F0 m pc ls [.long (iL v)]) :=
  W.lret hexec hb hr (fun t ht hW => ⟨_, rfl, rfl, by rw [ht, hH]⟩) (fun q hq => by cases hq) hdg hlocks
variable {y : MethodName} {bytes : ByteArray} {maxL nL n index ci N mc ms : Nat} {ret : Option FieldType} {wsy : List Cond} {rm : Room} {Ts : List Cond} {own C : String} {As : List Value} {v : Int} {st : List Value}
theorem xc_sl (S : CallFix p m c cc nL s args Ts own) (hM : Met l y wsy rm (va_Pc As (fun _ => True)) (vp_Sl (fun r => r = iL v)) 0 0 (fun _ => False)) (cw : CallB R s args own index y bytes maxL ret wsy rm 0 0 n ∧ (Cond.static y).before args s = true)
    (hn : As.length = n) (hsize : ls.size = nL) (hst : st = As.reverse ++ rest) (hW : (rest.map fun v => v.category).sum ≤ 8) (hdg : decode cc pc = .ok (.invokestatic index, 3)) (hcR : cells ≤ R.cells ∧ slots ≤ R.slots)
    (kk : W p l e R s m args below meth c H locs cells slots Q (F0 m (pc + 3) ls (.long (iL v) :: rest))) : W p l e R s m args below meth c H locs cells slots Q (F0 m pc ls st) :=
  vp_callSl (W.runS S hM cw ⟨fun a U g mk h => ⟨h.1, trivial⟩, fun U hU hW => ⟨rfl, trivial⟩⟩ rfl hn hsize hst (lv_room hW) hdg hcR) (fun r hr => by subst hr; exact kk)
end XROWS3

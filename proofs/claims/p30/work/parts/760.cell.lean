/-! The law's script: its ints, its cell. -/
def x_sc (xs : Nat → Int32) : Int → Int := fun j => (xs j.toNat).toInt
theorem x_sc_in (xs : Nat → Int32) (j : Int) : xin (x_sc xs j) := by
  unfold x_sc
  have h1 := Int32.toInt_lt (xs j.toNat)
  have h2 := Int32.le_toInt (xs j.toNat)
  constructor <;> omega
section XLAW2
variable {p : Program} {l : Launch} {e : Env} {R : Room} {s : State} {m : MethodId} {args : Array Value} {below : List Frame} {meth : Method} {c : Code} {H : Heap} {locs : List Loc} {cells slots : Nat} {Q : State → Prop}
variable {cc : ByteArray} {pc : Nat} {ls : Array Slot} {rest : List Value} {A : Nat → Prop}
theorem xk_sld (hexec : p.tables.exec = Jvm.exec) (hb : c.code = cc) {b L : Nat} {xs : Nat → Int32} (hX : va_X b L xs s s.heap) (hbl : b < s.heap.size) (hbA : ¬ A b) (hS : va_S A s.heap H locs) {i : Int} (h0 : 0 ≤ i) (h1 : i < (L : Int)) (hL : L ≤ 2048) (hdg : decode cc pc = .ok (.iaload, 1))
    (kk : W p l e R s m args below meth c H locs cells slots Q (F0 m (pc + 1) ls (.int (iI (x_sc xs i)) :: rest))) : W p l e R s m args below meth c H locs cells slots Q (F0 m pc ls (.int (iI i) :: .ref b :: rest)) := by
  refine va_sld hexec hb hX hbl hbA hS (iI_in h0 h1 (by omega)) hdg ?_
  have e9 : xs (iI i).toNatClampNeg = iI (x_sc xs i) := by
    unfold x_sc
    rw [iI_clamp h0 (by omega), iI_self]
  rw [e9]; exact kk
theorem xk_slen (hexec : p.tables.exec = Jvm.exec) (hb : c.code = cc) {b L : Nat} {xs : Nat → Int32} (hX : va_X b L xs s s.heap) (hbl : b < s.heap.size) (hbA : ¬ A b) (hS : va_S A s.heap H locs) (hdg : decode cc pc = .ok (.arraylength, 1))
    (kk : W p l e R s m args below meth c H locs cells slots Q (F0 m (pc + 1) ls (.int (iI (L : Int)) :: rest))) : W p l e R s m args below meth c H locs cells slots Q (F0 m pc ls (.ref b :: rest)) := by
  refine va_slen hexec hb hX hbl hbA hS hdg ?_
  exact kk
end XLAW2
def fL_cell (xi : Int → Int) (L k : Int) : Option Int := x_lt k L (if 0 ≤ k then some (xi k) else none) (some (1013904223 * (k + 1)))
set_option maxHeartbeats 4000000 in
theorem kL_cell (l : Launch) {b L : Nat} {xs : Nat → Int32} (hL : L ≤ 260) (p1 : Int) (res : Int) (hf : fL_cell (x_sc xs) (L : Int) p1 = some res) : Met l yL_cell wsL_cell ({ frames := 0, cells := 0, slots := 0, locals := 0 } : Room) (va_Pc [.ref b, .int (iI p1)] (fun U => b < U.heap.size ∧ va_X b L xs U U.heap)) (vp_Si (fun r => r = iI res)) 0 0 (fun _ => False) := by
  refine Met.ofW (cc := cL_cell) (maxL := 2) (ret := (some .int)) (by decide) rfl ?_
  intro p e s m args below meth c s₁ B hml hv
  obtain ⟨rfl, hbl, hX⟩ := hv
  have hx := B.exec
  have hb := B.bytes
  have hr := B.returns
  have hts := atoms_spec (ws := wsL_cell) B.pre
  have hown : s.vm.findClass RL = some m.cls := findClass_of_methodNamed B.named
  have hlocks := B.notSynchronized
  have hS : va_S (fun _ : Nat => False) s.heap s.heap [] := va_S.rf
  have hbA : ¬ (fun _ : Nat => False) b := fun h => h
  have hl := lv_entry [.ref b, .int (iI p1)] (n := 2) (Nat.le_of_ble_eq_true rfl)
  rw [lg_entry_eq]
  generalize (lg_sl [.ref b, .int (iI p1)] ++ List.replicate (2 - (lg_sl [.ref b, .int (iI p1)]).length) Slot.unset).toArray = ls at hl ⊢
  have hl : lv_has ls 2 [(0, .ref b), (1, .int (iI p1))] := hl
  unfold fL_cell at hf
  obtain ⟨c1a, c1b, c1t, c1f⟩ := x_ltE hf
  refine lv_iload_n hx hb dL_cell_0 rfl (lv_at hl 1 rfl) ?_
  refine lv_aload_n hx hb dL_cell_1 rfl (lv_at hl 0 rfl) ?_
  refine xk_slen hx hb hX hbl hbA hS dL_cell_2 ?_
  refine xk_icmp_ge (tgt := 12) hx hb c1a c1b dL_cell_3 (by decide) (fun c1 => ?_) (fun c1 => ?_)
  · have hf := c1t c1
    by_cases h0 : 0 ≤ p1
    · rw [if_pos h0] at hf
      obtain rfl := Option.some.inj hf
      refine lv_aload_n hx hb dL_cell_6 rfl (lv_at hl 0 rfl) ?_
      refine lv_iload_n hx hb dL_cell_7 rfl (lv_at hl 1 rfl) ?_
      refine xk_sld hx hb hX hbl hbA hS h0 c1 (by omega) dL_cell_8 ?_
      refine lv_goto (tgt := 18) hx hb dL_cell_9 (by decide) ?_
      exact xe_ri hx hb hr hlocks dL_cell_18 rfl
    · rw [if_neg h0] at hf
      cases hf
  · have hf := c1f c1
    obtain rfl := Option.some.inj hf
    refine xk_ldc (n := 1013904223) hx hb hown (hts (.constant RL 7 (1013904223)) (by decide +kernel)) dL_cell_12 (by decide) ?_
    refine lv_iload_n hx hb dL_cell_14 rfl (lv_at hl 1 rfl) ?_
    refine xk_iconst hx hb dL_cell_15 ?_
    refine xk_iadd hx hb dL_cell_16 ?_
    refine xk_imul hx hb dL_cell_17 ?_
    exact xe_ri hx hb hr hlocks dL_cell_18 rfl
theorem cdL_cell : yL_cell.cls ≠ "java/lang/invoke/MethodHandle" ∧ yL_cell.cls ≠ "java/lang/invoke/VarHandle" ∧ (parseMethodDescriptor yL_cell.desc).map (fun d => d.parameters.length) = some 2 := by decide +kernel
section XCELL
variable {p : Program} {l : Launch} {e : Env} {R : Room} {s : State} {m : MethodId} {args : Array Value} {below : List Frame} {meth : Method} {c : Code} {H : Heap} {locs : List Loc} {cells slots : Nat} {Q : State → Prop}
variable {cc : ByteArray} {pc : Nat} {ls : Array Slot} {rest st : List Value} {A : Nat → Prop} {nL index : Nat} {Ts : List Cond} {own : String}
theorem xc_cell (S : CallFix p m c cc nL s args Ts own) {b L : Nat} {xs : Nat → Int32} (hL : L ≤ 260) (hX : va_X b L xs s s.heap) (hbl : b < s.heap.size) (hbA : ¬ A b) (hS : va_S A s.heap H locs) {k v : Int} (hf : fL_cell (x_sc xs) (L : Int) k = some v)
    (cw : CallB R s args own index yL_cell cL_cell 2 (some .int) wsL_cell ({ frames := 0, cells := 0, slots := 0, locals := 0 } : Room) 0 0 2 ∧ (Cond.static yL_cell).before args s = true) (hsize : ls.size = nL) (hst : st = ([.ref b, .int (iI k)] : List Value).reverse ++ rest) (hW : (rest.map fun v => v.category).sum ≤ 8) (hdg : decode cc pc = .ok (.invokestatic index, 3)) (hcR : cells ≤ R.cells ∧ slots ≤ R.slots)
    (kk : W p l e R s m args below meth c H locs cells slots Q (F0 m (pc + 3) ls (.int (iI v) :: rest))) : W p l e R s m args below meth c H locs cells slots Q (F0 m pc ls st) :=
  vp_callSi (W.runS S (kL_cell l hL k v hf) cw ⟨fun a U g mk h => ⟨h.1, h.2.1, va_X.moved (u := U) (U := U.calling g mk a) (Vm.Alike.refl U.vm) h.2.2⟩, fun U hU hW => ⟨rfl, by rw [hU]; exact Nat.lt_of_lt_of_le hbl hS.1, by rw [hU]; exact (hX.kept (hS.2.1 b hbl hbA)).moved hW.alike⟩⟩ rfl rfl hsize hst (lv_room hW) hdg hcR) (fun r hr => by subst hr; exact kk)
end XCELL

def x_max (a b : Int) : Option Int := if xin a ∧ xin b then some (if a < b then b else a) else none
def x_min (a b : Int) : Option Int := if xin a ∧ xin b then some (if b < a then b else a) else none
theorem x_maxE {a b v : Int} (h : x_max a b = some v) : xin a ∧ xin b ∧ (if a < b then b else a) = v := by
  unfold x_max at h
  by_cases hc : xin a ∧ xin b
  · rw [if_pos hc] at h; exact ⟨hc.1, hc.2, Option.some.inj h⟩
  · rw [if_neg hc] at h; cases h
theorem x_minE {a b v : Int} (h : x_min a b = some v) : xin a ∧ xin b ∧ (if b < a then b else a) = v := by
  unfold x_min at h
  by_cases hc : xin a ∧ xin b
  · rw [if_pos hc] at h; exact ⟨hc.1, hc.2, Option.some.inj h⟩
  · rw [if_neg hc] at h; cases h
theorem x_lookOut (d v : Int) : ∀ (ps : List (Int × Int)), (∀ q ∈ ps, ¬ v = q.1) → Op.lookupswitch.offset ps d v = d
  | [], _ => rfl
  | (a, o) :: r, h => by
    rw [Op.lookupswitch.offset_cons, if_neg (fun q => h (a, o) List.mem_cons_self q.symm)]
    exact x_lookOut d v r (fun q hq => h q (List.mem_cons_of_mem _ hq))
section XROWS2
variable {p : Program} {l : Launch} {e : Env} {R : Room} {s : State} {m : MethodId} {args : Array Value} {below : List Frame} {meth : Method} {c : Code} {H : Heap} {locs : List Loc} {cells slots : Nat} {Q : State → Prop}
variable {cc : ByteArray} {pc : Nat} {ls : Array Slot} {rest : List Value}
theorem xk_mmax (hexec : p.tables.exec = Jvm.exec) (hb : c.code = cc) (hml : c.maxLocals = ls.size) {own : String} {index : Nat} (hown : s.vm.findClass own = some m.cls) (hlink : (Cond.methodLink own index Lib.Math.max.name).before args s = true) (hstat : (Cond.static Lib.Math.max.name).before args s = true) (hini : (Cond.initialized "java/lang/Math").before args s = true) (hcode : (Cond.code Lib.Math.max.name Lib.Math.max.code 2 (some .int)).before args s = true)
    (hframes : 1 ≤ R.frames) (hlocals : (rest.map fun v => v.category).sum + 13 ≤ R.locals) (hc : cells ≤ R.cells) (hs : slots ≤ R.slots) {x y v : Int} (hf : x_max x y = some v) (hdg : decode cc pc = .ok (.invokestatic index, 3))
    (kk : W p l e R s m args below meth c H locs cells slots Q (F0 m (pc + 3) ls (.int (iI v) :: rest))) : W p l e R s m args below meth c H locs cells slots Q (F0 m pc ls (.int (iI y) :: .int (iI x) :: rest)) := by
  obtain ⟨h1, h2, rfl⟩ := x_maxE hf
  refine va_mmax hexec hb hml hown hlink hstat hini hcode hframes hlocals hc hs hdg ?_
  have e9 : (if iI x < iI y then iI y else iI x) = iI (if x < y then y else x) := by
    by_cases q : x < y
    · rw [if_pos q, if_pos ((iI_lt h1 h2).mpr q)]
    · rw [if_neg q, if_neg (fun z => q ((iI_lt h1 h2).mp z))]
  rw [e9]; exact kk
theorem xk_mmin (hexec : p.tables.exec = Jvm.exec) (hb : c.code = cc) (hml : c.maxLocals = ls.size) {own : String} {index : Nat} (hown : s.vm.findClass own = some m.cls) (hlink : (Cond.methodLink own index Lib.Math.min.name).before args s = true) (hstat : (Cond.static Lib.Math.min.name).before args s = true) (hini : (Cond.initialized "java/lang/Math").before args s = true) (hcode : (Cond.code Lib.Math.min.name Lib.Math.min.code 2 (some .int)).before args s = true)
    (hframes : 1 ≤ R.frames) (hlocals : (rest.map fun v => v.category).sum + 13 ≤ R.locals) (hc : cells ≤ R.cells) (hs : slots ≤ R.slots) {x y v : Int} (hf : x_min x y = some v) (hdg : decode cc pc = .ok (.invokestatic index, 3))
    (kk : W p l e R s m args below meth c H locs cells slots Q (F0 m (pc + 3) ls (.int (iI v) :: rest))) : W p l e R s m args below meth c H locs cells slots Q (F0 m pc ls (.int (iI y) :: .int (iI x) :: rest)) := by
  obtain ⟨h1, h2, rfl⟩ := x_minE hf
  refine va_mmin hexec hb hml hown hlink hstat hini hcode hframes hlocals hc hs hdg ?_
  have e9 : (if iI y < iI x then iI y else iI x) = iI (if y < x then y else x) := by
    by_cases q : y < x
    · rw [if_pos q, if_pos ((iI_lt h2 h1).mpr q)]
    · rw [if_neg q, if_neg (fun z => q ((iI_lt h2 h1).mp z))]
  rw [e9]; exact kk
theorem xk_tabIn (hexec : p.tables.exec = Jvm.exec) (hb : c.code = cc) {dflt lo hi : Int} {offs : Array Int} {len : Nat} {v k : Int} {off : Int} {tgt : Nat} (hx : xin v) (hv : v = k) (hdg : decode cc pc = .ok (.tableswitch dflt lo hi offs, len)) (hk : ¬ k < lo ∧ ¬ hi < k) (ho : offs[(k - lo).toNat]? = some off) (ht : (pc : Int) + off = (tgt : Int))
    (kk : W p l e R s m args below meth c H locs cells slots Q (F0 m tgt ls rest)) : W p l e R s m args below meth c H locs cells slots Q (F0 m pc ls (.int (iI v) :: rest)) := by
  subst hv
  refine lv_tableIn hexec hb hdg (by rw [iI_toInt hx]; exact hk.1) (by rw [iI_toInt hx]; exact hk.2) (by rw [iI_toInt hx]; exact ho) ht kk
theorem xk_tabOut (hexec : p.tables.exec = Jvm.exec) (hb : c.code = cc) {dflt lo hi : Int} {offs : Array Int} {len : Nat} {v : Int} {tgt : Nat} (hx : xin v) (hdg : decode cc pc = .ok (.tableswitch dflt lo hi offs, len)) (hv : v < lo ∨ hi < v) (ht : (pc : Int) + dflt = (tgt : Int))
    (kk : W p l e R s m args below meth c H locs cells slots Q (F0 m tgt ls rest)) : W p l e R s m args below meth c H locs cells slots Q (F0 m pc ls (.int (iI v) :: rest)) :=
  lv_tableOut hexec hb hdg (by rw [iI_toInt hx]; exact hv) ht kk
theorem xk_look (hexec : p.tables.exec = Jvm.exec) (hb : c.code = cc) {dflt : Int} {ps : Array (Int × Int)} {len : Nat} {v k : Int} {off : Int} {tgt : Nat} (hx : xin v) (hv : v = k) (hdg : decode cc pc = .ok (.lookupswitch dflt ps, len)) (hp : (ps.toList.zip (ps.toList.drop 1)).all (fun (a, next) => a.1 < next.1) = true) (ho : Op.lookupswitch.offset ps.toList dflt k = off) (ht : (pc : Int) + off = (tgt : Int))
    (kk : W p l e R s m args below meth c H locs cells slots Q (F0 m tgt ls rest)) : W p l e R s m args below meth c H locs cells slots Q (F0 m pc ls (.int (iI v) :: rest)) := by
  subst hv
  exact lv_lookup hexec hb hdg hp (by rw [iI_toInt hx]; exact ho) ht kk
theorem xk_lookOut (hexec : p.tables.exec = Jvm.exec) (hb : c.code = cc) {dflt : Int} {ps : Array (Int × Int)} {len : Nat} {v : Int} {tgt : Nat} (hx : xin v) (hdg : decode cc pc = .ok (.lookupswitch dflt ps, len)) (hp : (ps.toList.zip (ps.toList.drop 1)).all (fun (a, next) => a.1 < next.1) = true) (hv : ∀ q ∈ ps.toList, ¬ v = q.1) (ht : (pc : Int) + dflt = (tgt : Int))
    (kk : W p l e R s m args below meth c H locs cells slots Q (F0 m tgt ls rest)) : W p l e R s m args below meth c H locs cells slots Q (F0 m pc ls (.int (iI v) :: rest)) :=
  lv_lookup hexec hb hdg hp (by rw [iI_toInt hx]; exact x_lookOut dflt v _ hv) ht kk
end XROWS2

set_option maxHeartbeats 4000000 in
set_option maxRecDepth 100000 in
theorem kLoop {p : Program} {e : Env} {s : State} {m : MethodId} {below : List Frame} {meth : Method} {c : Code} {b L : Nat} {xs : Nat → Int32} (l : Launch) (hlS : l.stackTraces = false) (dC : Nat → ClassId) (dI : Nat → Nat → Nat) (cs : Nat → ClassId) (aa ah af ao : Nat) (a : Nat → Nat) (hLb : L ≤ 260) (hx : p.tables.exec = Jvm.exec) (hb : c.code = cL_law) (hml : c.maxLocals = 11) (hown : s.vm.findClass RL = some m.cls) (hts : ∀ w ∈ wsL_law, w.before #[Value.ref b] s = true) (hX : va_X b L xs s s.heap) (hbl : b < s.heap.size) (hTh : xTh (fun z9 : Nat => s.heap.size ≤ z9) s) (hN : ∀ q ∈ x_ncs, va_Nc q.1 q.2 s) (hK : va_K (dC, dI) vwCl (xT cs) s) {Q : State → Prop} (n : Nat) : ∀ (k : Int) (va vh vf vo : Int → Int) (y : BrS) (_ : fG_law (x_sc xs) (L : Int) n k va vh vf vo y = some ()) {cells slots : Nat} (_ : cells + 6003 * n ≤ 791945 ∧ slots + 35973 * n ≤ 6725633) {H : Heap} {locs : List Loc} {ls : Array Slot} (_ : va_P (dC, dI) vwCl (([[qcC cs aa 64 va], [qcC cs ah 8 vh], [qcC cs af 64 vf], [qcC cs ao 1 vo]] ++ w4 cs a y).flatten) H) (_ : va_D (fun z9 : Nat => s.heap.size ≤ z9) (([[qcC cs aa 64 va], [qcC cs ah 8 vh], [qcC cs af 64 vf], [qcC cs ao 1 vo]] ++ w4 cs a y).flatten)) (_ : va_S (fun z9 : Nat => s.heap.size ≤ z9) s.heap H locs) (_ : lv_has ls 11 [(0, .ref b), (1, .ref (a 0)), (2, .ref aa), (3, .ref ah), (4, .ref af), (7, .int (iI k))])
    (_ : ∀ (H : Heap) (locs : List Loc) (ls : Array Slot), va_S (fun z9 : Nat => s.heap.size ≤ z9) s.heap H locs → W p l e room_1 s m #[Value.ref b] below meth c H locs 791945 6725633 Q (F0 m 375 ls [])), W p l e room_1 s m #[Value.ref b] below meth c H locs cells slots Q (F0 m 112 ls []) := by
  induction n with
  | zero => intro k va vh vf vo y hf; cases hf
  | succ n ih =>
    intro k va vh vf vo y hf cells slots hc H locs ls hP hD hS hl kk
    unfold fG_law at hf
    obtain ⟨ha, hi, ht, hg⟩ := x_ltE hf
    refine lv_iload hx hb dL_law_112 (lv_at hl 5 rfl) ?_
    refine xk_bipush hx hb dL_law_114 (by decide) ?_
    refine xk_icmp_ge (tgt := 375) hx hb ha hi dL_law_116 (by decide) (fun hq => ?_) (fun hq => ?_)
    · have hf := ht hq
      obtain ⟨⟨k1, g, va1, vh1, vf1, vo1, y1⟩, e1, hf⟩ := x_bind hf
      obtain ⟨⟨k2, va2, vh2, vf2, vo2, y2⟩, e2, hf⟩ := x_bind hf
      refine kG_c l hlS dC dI cs aa ah af ao a hLb hx hb hml hown hts hX hbl hTh hN hK va vh vf vo y k _ e1 ⟨by omega, by omega⟩ hP hD hS hl (fun H locs ls hP hS hl => ?_)
      have hD : va_D (fun z9 : Nat => s.heap.size ≤ z9) (([[qcC cs aa 64 va1], [qcC cs ah 8 vh1], [qcC cs af 64 vf1], [qcC cs ao 1 vo1]] ++ w4 cs a y1).flatten) := x_addrF hD rfl
      refine kG_d l hlS dC dI cs aa ah af ao a hLb hx hb hml hown hts hX hbl hTh hN hK va1 vh1 vf1 vo1 y1 k1 g _ e2 ⟨by omega, by omega⟩ hP hD hS hl (fun H locs ls hP hS hl => ?_)
      have hD : va_D (fun z9 : Nat => s.heap.size ≤ z9) (([[qcC cs aa 64 va2], [qcC cs ah 8 vh2], [qcC cs af 64 vf2], [qcC cs ao 1 vo2]] ++ w4 cs a y2).flatten) := x_addrF hD rfl
      refine xk_iinc (lv' := [(7, .int (iI (k2 + 1))), (0, .ref b), (1, .ref (a 0)), (2, .ref aa), (3, .ref ah), (4, .ref af)]) hx hb dL_law_369 hl (k := 5) rfl (by decide) rfl (fun ls hl => ?_)
      refine lv_goto (tgt := 112) hx hb dL_law_372 (by decide) ?_
      exact ih (k2 + 1) va2 vh2 vf2 vo2 y2 hf ⟨by omega, by omega⟩ hP hD hS (lv_sub hl [1, 2, 3, 4, 5, 0] rfl) kk
    · refine W.widen (k := 791945) (n := 6725633) (by omega) (by omega) ?_
      exact kk _ _ _ hS

/-! The saved states: a ring of boats, a stack of rows. -/
def zPl (h : HisS) (i : Int) : BoatS := if i = 0 then g1_h0 h else if i = 1 then g1_h1 h else if i = 2 then g1_h2 h else g1_h3 h
def zHi (h : HisS) (acts : Int) (was : Int → Int) (c : Int) : Prop := (g1_cnt h = acts ∧ 0 ≤ acts ∧ acts ≤ 4 ∧ 0 ≤ g1_nxt h ∧ g1_nxt h ≤ 3) ∧ ∀ j, 0 ≤ j → j < acts → zJ (zPl h ((g1_nxt h - acts + j + 8) % 4)) (fun k => was (730 * j + k)) c
theorem zJ_le {b : BoatS} {now : Int → Int} {c d : Int} (h : zJ b now c) (hd : c ≤ d) : zJ b now d := ⟨h.1, h.2.1, zT_le h.2.2 hd⟩
theorem zHi_le {h : HisS} {acts : Int} {was : Int → Int} {c d : Int} (z : zHi h acts was c) (hd : c ≤ d) : zHi h acts was d := ⟨z.1, fun j a b => zJ_le (z.2 j a b) hd⟩
theorem z1_placeAt {h : HisS} {i : Int} (i0 : 0 ≤ i) (i1 : i ≤ 3) : f1_placeAt h i = some i := by
  unfold f1_placeAt
  rw [z_ltF ⟨by omega, by omega⟩ (by decide) (by omega), z_ltT ⟨by omega, by omega⟩ (by decide) (by omega)]
theorem z1_save {h : HisS} {o : BoatS} (hB : zB o) (n0 : 0 ≤ g1_nxt h) (n1 : g1_nxt h ≤ 3) (c0 : 0 ≤ g1_cnt h) (c1 : g1_cnt h ≤ 4) : ∃ h' b', f1_save h o = some h' ∧ zEq b' o ∧ g1_nxt h' = (g1_nxt h + 1) % 4 ∧ g1_cnt h' = (if g1_cnt h = 4 then 4 else g1_cnt h + 1) ∧ ∀ i, 0 ≤ i → i ≤ 3 → zPl h' i = if i = g1_nxt h then b' else zPl h i := by
  have em : x_min (g1_cnt h + 1) 4 = some (if g1_cnt h = 4 then 4 else g1_cnt h + 1) := by
    rw [z_min ⟨by omega, by omega⟩ (by decide)]
    by_cases g : g1_cnt h = 4
    · rw [if_pos g, if_pos (by omega)]
    · rw [if_neg g, if_neg (by omega)]
  have er : x_rem (g1_nxt h + 1) 4 = some ((g1_nxt h + 1) % 4) := z_remT (by omega) (by omega) (by decide) (by decide)
  unfold f1_save
  rw [z_bind (z1_placeAt n0 n1)]
  have hn : g1_nxt h = 0 ∨ g1_nxt h = 1 ∨ g1_nxt h = 2 ∨ g1_nxt h = 3 := by omega
  have fin : ∀ i : Int, 0 ≤ i → i ≤ 3 → i = 0 ∨ i = 1 ∨ i = 2 ∨ i = 3 := fun i a b => by omega
  rcases hn with e | e | e | e
  · obtain ⟨b', e1, e2⟩ := z0_copy (g1_h0 h) hB
    rw [z_eqT ⟨by omega, by omega⟩ e, z_bind e1, z_bind er, z_bind em]
    refine ⟨_, b', rfl, e2, rfl, rfl, fun i a b => ?_⟩
    rw [e]
    rcases fin i a b with g | g | g | g <;> subst g <;> rfl
  · obtain ⟨b', e1, e2⟩ := z0_copy (g1_h1 h) hB
    rw [z_eqF ⟨by omega, by omega⟩ (by decide) (by omega), z_eqT ⟨by omega, by omega⟩ e, z_bind e1, z_bind er, z_bind em]
    refine ⟨_, b', rfl, e2, rfl, rfl, fun i a b => ?_⟩
    rw [e]
    rcases fin i a b with g | g | g | g <;> subst g <;> rfl
  · obtain ⟨b', e1, e2⟩ := z0_copy (g1_h2 h) hB
    rw [z_eqF ⟨by omega, by omega⟩ (by decide) (by omega), z_eqF ⟨by omega, by omega⟩ (by decide) (by omega), z_eqT ⟨by omega, by omega⟩ e, z_bind e1, z_bind er, z_bind em]
    refine ⟨_, b', rfl, e2, rfl, rfl, fun i a b => ?_⟩
    rw [e]
    rcases fin i a b with g | g | g | g <;> subst g <;> rfl
  · obtain ⟨b', e1, e2⟩ := z0_copy (g1_h3 h) hB
    rw [z_eqF ⟨by omega, by omega⟩ (by decide) (by omega), z_eqF ⟨by omega, by omega⟩ (by decide) (by omega), z_eqF ⟨by omega, by omega⟩ (by decide) (by omega), z_eqT ⟨by omega, by omega⟩ e, z_bind e1, z_bind er, z_bind em]
    refine ⟨_, b', rfl, e2, rfl, rfl, fun i a b => ?_⟩
    rw [e]
    rcases fin i a b with g | g | g | g <;> subst g <;> rfl
def zShf (w : Int → Int) (l : Int) : Int → Int := fun i => if 0 ≤ i ∧ i < l then w (i + 730) else w i
def zPut (w now : Int → Int) (a l : Int) : Int → Int := fun i => if 730 * a ≤ i ∧ i < 730 * a + l then now (i - 730 * a) else w i
theorem z5_putwL {x : ModS} {w : Int → Int} (a0 : 0 ≤ g5_acts x) (a1 : g5_acts x ≤ 3) : ∀ (m fu : Nat) (l : Int), 0 ≤ l → l + (m : Int) = 730 → m < fu → f5_save_L51 fu l (s5_was x (zPut w (g5_now x) (g5_acts x) l)) = some (s5_acts (s5_was x (zPut w (g5_now x) (g5_acts x) 730)) (g5_acts x + 1))
  | 0, 0, _, _, _, h => by omega
  | m + 1, 0, _, _, _, h => by omega
  | 0, fu + 1, l, l0, lm, _ => by
    unfold f5_save_L51
    rw [z_ltF ⟨by omega, by omega⟩ (by decide) (by omega), show l = 730 by omega]
    rfl
  | m + 1, fu + 1, l, l0, lm, hf => by
    have e : x_up (zPut w (g5_now x) (g5_acts x) l) (730 * g5_acts x + l) (g5_now x l) = zPut w (g5_now x) (g5_acts x) (l + 1) := by
      funext i
      unfold x_up zPut
      by_cases g : i = 730 * g5_acts x + l
      · rw [if_pos g, if_pos ⟨by omega, by omega⟩, show i - 730 * g5_acts x = l by omega]
      · rw [if_neg g]
        by_cases d : 730 * g5_acts x ≤ i ∧ i < 730 * g5_acts x + l
        · rw [if_pos d, if_pos ⟨d.1, by omega⟩]
        · rw [if_neg d, if_neg (by omega)]
    unfold f5_save_L51
    rw [z_ltT ⟨by omega, by omega⟩ (by decide) (by omega), z_bind (z_ldT l0 (by show l < (730 : Int); omega))]
    refine (z_bind (z_stT (N := 2920) (f := zPut w (g5_now x) (g5_acts x) l) (i := 730 * g5_acts x + l) (by omega) (by show _ < (2920 : Int); omega))).trans ?_
    rw [ss5_was]
    refine Eq.trans ?_ (z5_putwL a0 a1 m fu (l + 1) (by omega) (by omega) (by omega))
    rw [← e]
    rfl
theorem z5_shfL {x : ModS} {w : Int → Int} : ∀ (m fu : Nat) (l : Int), 0 ≤ l → l + (m : Int) = 2190 → m < fu → f5_save_L10 fu l (s5_was x (zShf w l)) = f5_save_L51 xFU 0 (s5_acts (s5_was x (zShf w 2190)) (g5_acts x - 1))
  | 0, 0, _, _, _, h => by omega
  | m + 1, 0, _, _, _, h => by omega
  | 0, fu + 1, l, l0, lm, _ => by
    unfold f5_save_L10
    rw [z_ltF ⟨by omega, by omega⟩ (by decide) (by omega), show l = 2190 by omega]
    rfl
  | m + 1, fu + 1, l, l0, lm, hf => by
    have e : x_up (zShf w l) l (zShf w l (l + 730)) = zShf w (l + 1) := by
      funext i
      unfold x_up zShf
      by_cases g : i = l
      · rw [if_pos g, if_neg (by omega), if_pos ⟨by omega, by omega⟩, g]
      · rw [if_neg g]
        by_cases d : 0 ≤ i ∧ i < l
        · rw [if_pos d, if_pos ⟨d.1, by omega⟩]
        · rw [if_neg d, if_neg (by omega)]
    unfold f5_save_L10
    rw [z_ltT ⟨by omega, by omega⟩ (by decide) (by omega)]
    refine (z_bind (z_ldT (N := 2920) (f := zShf w l) (i := l + 730) (by omega) (by show _ < (2920 : Int); omega))).trans ?_
    refine (z_bind (z_stT (N := 2920) (f := zShf w l) (i := l) (by omega) (by show _ < (2920 : Int); omega))).trans ?_
    rw [ss5_was, e]
    exact z5_shfL m fu (l + 1) (by omega) (by omega) (by omega)
theorem z5_save {x : ModS} (a0 : 0 ≤ g5_acts x) (a1 : g5_acts x ≤ 4) : f5_save x = some (s5_acts (s5_was x (if g5_acts x = 4 then zPut (zShf (g5_was x) 2190) (g5_now x) 3 730 else zPut (g5_was x) (g5_now x) (g5_acts x) 730)) (if g5_acts x = 4 then 4 else g5_acts x + 1)) := by
  unfold f5_save
  by_cases e : g5_acts x = 4
  · rw [z_eqT ⟨by omega, by omega⟩ e, if_pos e, if_pos e]
    have h1 := z5_shfL (x := x) (w := g5_was x) 2190 xFU 0 (by decide) (by decide) (by unfold xFU; omega)
    have e0 : zShf (g5_was x) 0 = g5_was x := by
      funext i
      unfold zShf
      rw [if_neg (by omega)]
    rw [e0] at h1
    have h2 := z5_putwL (x := s5_acts x 3) (w := zShf (g5_was x) 2190) (show (0 : Int) ≤ 3 by decide) (show (3 : Int) ≤ 3 by decide) 730 xFU 0 (by decide) (by decide) (by unfold xFU; omega)
    have e2 : zPut (zShf (g5_was x) 2190) (g5_now (s5_acts x 3)) (g5_acts (s5_acts x 3)) 0 = zShf (g5_was x) 2190 := by
      funext i
      unfold zPut
      rw [if_neg (by omega)]
    rw [e2] at h2
    refine Eq.trans h1 ?_
    rw [e]
    exact h2
  · rw [z_eqF ⟨by omega, by omega⟩ (by decide) e, if_neg e, if_neg e]
    have h2 := z5_putwL (x := x) (w := g5_was x) a0 (by omega) 730 xFU 0 (by decide) (by decide) (by unfold xFU; omega)
    have e2 : zPut (g5_was x) (g5_now x) (g5_acts x) 0 = g5_was x := by
      funext i
      unfold zPut
      rw [if_neg (by omega)]
    rw [e2] at h2
    exact h2
theorem zs_save {h : HisS} {o : BoatS} {x : ModS} {c : Int} (hH : zHi h (g5_acts x) (g5_was x) c) (hJ : zJ o (g5_now x) c) : ∃ h' a w, f1_save h o = some h' ∧ f5_save x = some (s5_acts (s5_was x w) a) ∧ zHi h' a w c := by
  obtain ⟨⟨hc, a0, a1, n0, n1⟩, hh⟩ := hH
  obtain ⟨h', b', s1, s2, s3, s4, s5⟩ := z1_save (h := h) hJ.1 n0 n1 (by omega) (by omega)
  have hb : zJ b' (g5_now x) c := zJ_eq hJ s2
  refine ⟨h', _, _, s1, z5_save a0 a1, ⟨?_, ?_, ?_, ?_, ?_⟩, fun j j0 j1 => ?_⟩
  · rw [s4, hc]
  · split <;> omega
  · split <;> omega
  · rw [s3]; omega
  · rw [s3]; omega
  · rw [s3, s5 _ (by omega) (by omega)]
    by_cases e : g5_acts x = 4
    · rw [if_pos e] at j1 ⊢
      rw [if_pos e]
      by_cases g : j = 3
      · subst g
        rw [if_pos (by omega)]
        refine zJ_now hb (fun i i0 i1 => ?_)
        unfold zPut
        rw [if_pos ⟨by omega, by omega⟩, show 730 * 3 + i - 730 * 3 = i by omega]
      · rw [if_neg (by omega), show ((g1_nxt h + 1) % 4 - 4 + j + 8) % 4 = (g1_nxt h - g5_acts x + (j + 1) + 8) % 4 by omega]
        refine zJ_now (hh (j + 1) (by omega) (by omega)) (fun i i0 i1 => ?_)
        unfold zPut zShf
        rw [if_neg (by omega), if_pos ⟨by omega, by omega⟩, show 730 * j + i + 730 = 730 * (j + 1) + i by omega]
    · rw [if_neg e] at j1 ⊢
      rw [if_neg e]
      by_cases g : j = g5_acts x
      · rw [if_pos (by omega)]
        refine zJ_now hb (fun i i0 i1 => ?_)
        unfold zPut
        rw [g, if_pos ⟨by omega, by omega⟩, show 730 * g5_acts x + i - 730 * g5_acts x = i by omega]
      · rw [if_neg (by omega), show ((g1_nxt h + 1) % 4 - (g5_acts x + 1) + j + 8) % 4 = (g1_nxt h - g5_acts x + j + 8) % 4 by omega]
        refine zJ_now (hh j j0 (by omega)) (fun i i0 i1 => ?_)
        unfold zPut
        rw [if_neg (by omega)]
theorem z1_restore {h : HisS} {o : BoatS} (n0 : 0 ≤ g1_nxt h) (n1 : g1_nxt h ≤ 3) (hB : zB (zPl h ((g1_nxt h + 3) % 4))) : ∃ b', f1_restore h o = some (s1_cnt (s1_nxt h ((g1_nxt h + 3) % 4)) (g1_cnt h - 1), b') ∧ zEq b' (zPl h ((g1_nxt h + 3) % 4)) := by
  have er : x_rem (g1_nxt h + 4 - 1) 4 = some ((g1_nxt h + 3) % 4) := by
    rw [z_remT (by omega) (by omega) (by decide) (by decide), show g1_nxt h + 4 - 1 = g1_nxt h + 3 by omega]
  unfold f1_restore
  rw [z_bind er]
  have k0 : 0 ≤ (g1_nxt h + 3) % 4 := by omega
  have k1 : (g1_nxt h + 3) % 4 ≤ 3 := by omega
  generalize (g1_nxt h + 3) % 4 = k at hB k0 k1
  rw [z_bind (z1_placeAt k0 k1)]
  have hn : k = 0 ∨ k = 1 ∨ k = 2 ∨ k = 3 := by omega
  obtain ⟨b', e1, e2⟩ := z0_copy o hB
  refine ⟨b', ?_, e2⟩
  rcases hn with e | e | e | e
  · subst e
    rw [z_eqT (by decide) rfl]
    exact z_bind (v := b') e1
  · subst e
    rw [z_eqF (by decide) (by decide) (by decide), z_eqT (by decide) rfl]
    exact z_bind (v := b') e1
  · subst e
    rw [z_eqF (by decide) (by decide) (by decide), z_eqF (by decide) (by decide) (by decide), z_eqT (by decide) rfl]
    exact z_bind (v := b') e1
  · subst e
    rw [z_eqF (by decide) (by decide) (by decide), z_eqF (by decide) (by decide) (by decide), z_eqF (by decide) (by decide) (by decide), z_eqT (by decide) rfl]
    exact z_bind (v := b') e1
theorem z5_undoL {x : ModS} (a0 : 0 ≤ g5_acts x) (a1 : g5_acts x ≤ 3) : ∀ (m fu : Nat) (l : Int) (nl : Int → Int), 0 ≤ l → l + (m : Int) = 730 → m < fu → (∀ i, 0 ≤ i → i < l → nl i = g5_was x (730 * g5_acts x + i)) → ∃ nl', f5_undo_L37 fu l (s5_now x nl) = some (g5_acts x, s5_now x nl') ∧ ∀ i, 0 ≤ i → i < 730 → nl' i = g5_was x (730 * g5_acts x + i)
  | 0, 0, _, _, _, _, h, _ => by omega
  | m + 1, 0, _, _, _, _, h, _ => by omega
  | 0, fu + 1, l, nl, l0, lm, _, h => by
    refine ⟨nl, ?_, fun i i0 i1 => h i i0 (by omega)⟩
    unfold f5_undo_L37
    rw [z_ltF ⟨by omega, by omega⟩ (by decide) (by omega)]
    rfl
  | m + 1, fu + 1, l, nl, l0, lm, hf, h => by
    obtain ⟨nl', q1, q2⟩ := z5_undoL a0 a1 m fu (l + 1) (x_up nl l (g5_was x (730 * g5_acts x + l))) (by omega) (by omega) (by omega) (fun i i0 i1 => by
      by_cases e : i = l
      · rw [e, z_upS]
      · rw [z_upN e]; exact h i i0 (by omega))
    refine ⟨nl', ?_, q2⟩
    unfold f5_undo_L37
    rw [← q1]
    rw [z_ltT ⟨by omega, by omega⟩ (by decide) (by omega)]
    refine (z_bind (z_ldT (N := 2920) (f := g5_was x) (i := 730 * g5_acts x + l) (by omega) (by show _ < (2920 : Int); omega))).trans ?_
    refine (z_bind (z_stT (N := 730) (f := nl) (i := l) l0 (by show l < (730 : Int); omega))).trans ?_
    rw [ss5_now]
theorem zs_undo {h : HisS} {x : ModS} {c : Int} (o : BoatS) (hH : zHi h (g5_acts x) (g5_was x) c) (ha : 0 < g5_acts x) : ∃ h' b' now', f1_restore h o = some (h', b') ∧ f5_undo_L37 xFU 0 (s5_acts x (g5_acts x - 1)) = some (g5_acts x - 1, s5_now (s5_acts x (g5_acts x - 1)) now') ∧ zHi h' (g5_acts x - 1) (g5_was x) c ∧ zJ b' now' c ∧ g1_cnt h' = g5_acts x - 1 := by
  obtain ⟨⟨hc, a0, a1, n0, n1⟩, hh⟩ := hH
  have hz := hh (g5_acts x - 1) (by omega) (by omega)
  rw [show (g1_nxt h - g5_acts x + (g5_acts x - 1) + 8) % 4 = (g1_nxt h + 3) % 4 by omega] at hz
  obtain ⟨b', e1, e2⟩ := z1_restore (o := o) n0 n1 hz.1
  obtain ⟨now', q1, q2⟩ := z5_undoL (x := s5_acts x (g5_acts x - 1)) (by show 0 ≤ g5_acts x - 1; omega) (by show g5_acts x - 1 ≤ 3; omega) 730 xFU 0 (g5_now x) (by decide) (by decide) (by unfold xFU; omega) (fun i a b => by omega)
  refine ⟨_, b', now', e1, q1, ⟨⟨?_, by omega, by omega, ?_, ?_⟩, fun j j0 j1 => ?_⟩, zJ_now (zJ_eq hz e2) (fun i i0 i1 => q2 i i0 i1), ?_⟩
  · show g1_cnt h - 1 = g5_acts x - 1; omega
  · show 0 ≤ (g1_nxt h + 3) % 4; omega
  · show (g1_nxt h + 3) % 4 ≤ 3; omega
  · have := hh j j0 (by omega)
    rw [show (g1_nxt h - g5_acts x + j + 8) % 4 = ((g1_nxt h + 3) % 4 - (g5_acts x - 1) + j + 8) % 4 by omega] at this
    exact this
  · show g1_cnt h - 1 = g5_acts x - 1; omega

/-! The text: two readers of it. -/
def zLk (B : Int → Int) (L p : Int) : Int := if p < L then B p else -1
abbrev zDg (B : Int → Int) (L p : Int) : Prop := 48 ≤ zLk B L p ∧ zLk B L p ≤ 57
def zTT (t : TextS) (p e : Int) : TextS := s3_err (s3_pos t p) e
def zXX (x : ModS) (a w : Int) (o : Int → Int) : ModS := s5_ors (s5_wra (s5_pos x a) w) o
section ZTEXT
variable {t : TextS} {x : ModS} {p e a w q c : Int} {o o' : Int → Int}
theorem zTT_pos : s3_pos (zTT t p e) q = zTT t q e := rfl
theorem zTT_err : s3_err (zTT t p e) q = zTT t p q := rfl
theorem zTT_gp : g3_pos (zTT t p e) = p := rfl
theorem zTT_ge : g3_err (zTT t p e) = e := rfl
theorem zTT_gb : g3_byts (zTT t p e) = g3_byts t := rfl
theorem zXX_pos : s5_pos (zXX x a w o) q = zXX x q w o := rfl
theorem zXX_wra : s5_wra (zXX x a w o) q = zXX x a q o := rfl
theorem zXX_ors : s5_ors (zXX x a w o) o' = zXX x a w o' := rfl
theorem zXX_gp : g5_pos (zXX x a w o) = a := rfl
theorem zXX_gw : g5_wra (zXX x a w o) = w := rfl
theorem zXX_go : g5_ors (zXX x a w o) = o := rfl
theorem zXX_gt : g5_typ (zXX x a w o) = g5_typ x := rfl
theorem zXX_gx : g5_txt (zXX x a w o) = g5_txt x := rfl
end ZTEXT
abbrev zLL (t : TextS) : Int := (g3_byts t).1
abbrev zBB (t : TextS) : Int → Int := (g3_byts t).2
/-- both hold the same text -/
def zTx (t : TextS) (x : ModS) : Prop := zLL t = g5_typ x ∧ 0 ≤ g5_typ x ∧ g5_typ x ≤ 100 ∧ ∀ i, 0 ≤ i → i < g5_typ x → g5_txt x i = zBB t i ∧ 0 ≤ zBB t i ∧ zBB t i ≤ 127
theorem zLk_rng {t : TextS} {x : ModS} (h : zTx t x) {p : Int} (p0 : 0 ≤ p) : -1 ≤ zLk (zBB t) (zLL t) p ∧ zLk (zBB t) (zLL t) p ≤ 127 := by
  unfold zLk
  by_cases g : p < zLL t
  · rw [if_pos g]
    have := (h.2.2.2 p p0 (by rw [← h.1]; exact g)).2
    omega
  · rw [if_neg g]; omega
theorem zLk_in {B : Int → Int} {L p : Int} (h : ¬ zLk B L p = -1) : p < L := Classical.byContradiction fun g => h (by unfold zLk; rw [if_neg g])
theorem z3_here {t : TextS} {x : ModS} (h : zTx t x) {p e : Int} (p0 : 0 ≤ p) (p1 : p ≤ 1000) : f3_here (zTT t p e) = some (zLk (zBB t) (zLL t) p) := by
  obtain ⟨h1, h2, h3, h4⟩ := h
  have h1' : (g3_byts t).1 = g5_typ x := h1
  unfold f3_here zLk
  rw [zTT_gb, zTT_gp]
  by_cases g : p < zLL t
  · rw [z_bind (z2_get (N := 100) (r := g3_byts t) (by show _ ≤ (100 : Int); omega) (by omega) p0 g), if_pos g]
  · rw [z_bind (z2_getN (N := 100) (r := g3_byts t) (by omega) (by omega) ⟨by omega, by omega⟩ (by omega)), if_neg g]
theorem z5_look {t : TextS} {x : ModS} (h : zTx t x) {a w : Int} {o : Int → Int} (a0 : 0 ≤ a) (a1 : a ≤ 1000) : f5_look (zXX x a w o) = some (zLk (zBB t) (zLL t) a) := by
  obtain ⟨h1, h2, h3, h4⟩ := h
  unfold f5_look zLk
  rw [zXX_gp, zXX_gt, zXX_gx, h1]
  by_cases g : a < g5_typ x
  · rw [z_ltT ⟨by omega, by omega⟩ ⟨by omega, by omega⟩ g, z_bind (z_ldT a0 (by show a < (100 : Int); omega)), (h4 a a0 g).1, if_pos g]
  · rw [z_ltF ⟨by omega, by omega⟩ ⟨by omega, by omega⟩ g, if_neg g]
theorem z5_in {p l h : Int} (hp : xin p) (hl : xin l) (hh : xin h) : f5_in p l h = some (if l ≤ p ∧ p ≤ h then 1 else 0) := by
  unfold f5_in
  by_cases g : p < l
  · rw [z_ltT hp hl g, if_neg (by omega)]
  · rw [z_ltF hp hl g]
    by_cases d : h < p
    · rw [z_ltT hh hp d, if_neg (by omega)]
    · rw [z_ltF hh hp d, if_pos (by omega)]
theorem z3_dig {t : TextS} {x : ModS} (h : zTx t x) {p e : Int} (p0 : 0 ≤ p) (p1 : p ≤ 1000) : f3_isDigitHere (zTT t p e) = some (if zDg (zBB t) (zLL t) p then 1 else 0) := by
  have hr := zLk_rng h p0
  unfold f3_isDigitHere
  rw [z_bind (z3_here h p0 p1)]
  by_cases g : zLk (zBB t) (zLL t) p < 48
  · rw [z_ltT ⟨by omega, by omega⟩ (by decide) g, if_neg (by omega)]
  · rw [z_ltF ⟨by omega, by omega⟩ (by decide) g, z_bind (z3_here h p0 p1)]
    by_cases d : 57 < zLk (zBB t) (zLL t) p
    · rw [z_ltT (by decide) ⟨by omega, by omega⟩ d, if_neg (by omega)]
    · rw [z_ltF (by decide) ⟨by omega, by omega⟩ d, if_pos (by omega)]
theorem z5_wrong {x : ModS} {a w q : Int} {o : Int → Int} (hw : xin w) : f5_wrong (zXX x a w o) q = some (zXX x a (if w = -1 then q else w) o) := by
  unfold f5_wrong
  rw [zXX_gw]
  by_cases g : w = -1
  · rw [z_eqT hw g, if_pos g, zXX_wra]
  · rw [z_eqF hw (by decide) g, if_neg g, zXX_wra]
/-- how far both have come -/
def zSt (L p e a w : Int) : Prop := (e = -1 ∧ w = -1 ∧ a = p ∧ 0 ≤ p ∧ p ≤ L) ∨ (e = w ∧ 0 ≤ e ∧ e ≤ L ∧ 0 ≤ p ∧ p ≤ L ∧ 0 ≤ a ∧ a ≤ 500)
theorem zs_sign {t : TextS} {x : ModS} (h : zTx t x) {p e a w c : Int} {o : Int → Int} (hc : 0 ≤ c) (hc1 : c ≤ 127) (hs : zSt (zLL t) p e a w) (ha : a ≤ 400) : ∃ p' e' a' w', f3_readSign (zTT t p e) c = some (zTT t p' e') ∧ f5_sign (zXX x a w o) c = some (zXX x a' w' o) ∧ zSt (zLL t) p' e' a' w' ∧ a' ≤ a + 1 ∧ (e' = -1 → e = -1 ∧ p' = p + 1 ∧ p < zLL t) := by
  have hL : zLL t ≤ 100 := by rw [h.1]; exact h.2.2.1
  rcases hs with ⟨e1, w1, ea, p0, p1⟩ | ⟨ew, e0, e1, p0, p1, a0, a1⟩
  · subst e1; subst w1; subst ea
    have hr := zLk_rng h p0
    unfold f3_readSign f5_sign
    rw [zTT_ge, zTT_gp, zXX_gp, z_eqT (by decide) rfl, z_bind (z3_here h p0 (by omega)), z_bind (z5_look h p0 (by omega))]
    by_cases g : zLk (zBB t) (zLL t) a = c
    · have hlt : a < zLL t := zLk_in (B := zBB t) (by omega)
      rw [z_eqT ⟨by omega, by omega⟩ g, z_eqT ⟨by omega, by omega⟩ g, zTT_pos, zXX_pos]
      exact ⟨a + 1, -1, a + 1, -1, rfl, rfl, Or.inl ⟨rfl, rfl, rfl, by omega, by omega⟩, by omega, fun _ => ⟨rfl, rfl, hlt⟩⟩
    · rw [z_eqF ⟨by omega, by omega⟩ ⟨by omega, by omega⟩ g, z_eqF ⟨by omega, by omega⟩ ⟨by omega, by omega⟩ g, zTT_err, z_bind (z5_wrong (by decide)), if_pos rfl, zXX_pos, zXX_gp]
      exact ⟨a, a, a + 1, a, rfl, rfl, Or.inr ⟨rfl, p0, p1, p0, p1, by omega, by omega⟩, by omega, fun z => by omega⟩
  · subst ew
    have hr := zLk_rng h a0
    unfold f3_readSign f5_sign
    rw [zTT_ge, z_eqF ⟨by omega, by omega⟩ (by decide) (by omega), z_bind (z5_look h a0 (by omega))]
    by_cases g : zLk (zBB t) (zLL t) a = c
    · rw [z_eqT ⟨by omega, by omega⟩ g, zXX_pos, zXX_gp]
      exact ⟨p, e, a + 1, e, rfl, rfl, Or.inr ⟨rfl, e0, e1, p0, p1, by omega, by omega⟩, by omega, fun z => by omega⟩
    · rw [z_eqF ⟨by omega, by omega⟩ ⟨by omega, by omega⟩ g, z_bind (z5_wrong ⟨by omega, by omega⟩), if_neg (by omega), zXX_pos, zXX_gp]
      exact ⟨p, e, a + 1, e, rfl, rfl, Or.inr ⟨rfl, e0, e1, p0, p1, by omega, by omega⟩, by omega, fun z => by omega⟩
theorem z5_numE {t : TextS} {x : ModS} (h : zTx t x) {s w0 w D lo hi : Int} {o : Int → Int} (s0 : 0 ≤ s) (s1 : s ≤ 500) (D0 : 1 ≤ D) (D1 : D ≤ 3) (w1 : 0 ≤ w) (w2 : w ≤ 100) : ∀ (m fu : Nat) (a v : Int), 0 ≤ a → a ≤ 500 → zLL t ≤ a + (m : Int) → m < fu → ∃ vm a', f5_number_L9 (zXX x s w0 o) D lo hi fu v (zXX x a w o) = some (vm, zXX x a' w o) ∧ a ≤ a' ∧ (a' = a ∨ a' ≤ zLL t)
  | _, 0, _, _, _, _, _, h => by omega
  | m, fu + 1, a, v, a0, a1, hm, hf => by
    have hL : zLL t ≤ 100 := by rw [h.1]; exact h.2.2.1
    have hr := zLk_rng h a0
    unfold f5_number_L9
    rw [z_bind (z5_look h a0 (by omega)), z_bind (z5_in ⟨by omega, by omega⟩ (by decide) (by decide))]
    rw [zXX_gp, zXX_gp, zXX_gw]
    by_cases g : zDg (zBB t) (zLL t) a
    · have hlt : a < zLL t := zLk_in (B := zBB t) (by omega)
      cases m with
      | zero => omega
      | succ m =>
        obtain ⟨vm, a', q1, q2, q3⟩ := z5_numE h (w0 := w0) (lo := lo) (hi := hi) (o := o) s0 s1 D0 D1 w1 w2 m fu (a + 1) 0 (by omega) (by omega) (by omega) (by omega)
        refine ⟨vm, a', ?_, by omega, by omega⟩
        rw [← q1]
        rw [if_pos g, z_eqF (by decide) (by decide) (by decide)]
        by_cases d : a = s + D
        · rw [z_eqT ⟨by omega, by omega⟩ d, z_bind (z5_wrong ⟨by omega, by omega⟩), if_neg (by omega), zXX_gw, z_eqF ⟨by omega, by omega⟩ (by decide) (by omega), zXX_pos, zXX_gp]
        · rw [z_eqF ⟨by omega, by omega⟩ ⟨by omega, by omega⟩ d, z_eqF ⟨by omega, by omega⟩ (by decide) (by omega), zXX_pos]
    · rw [if_neg g, z_eqT (by decide) rfl]
      by_cases d : a = s
      · rw [z_eqT ⟨by omega, by omega⟩ d, z_bind (z5_wrong ⟨by omega, by omega⟩), if_neg (by omega), zXX_gw, z_eqF ⟨by omega, by omega⟩ (by decide) (by omega)]
        exact ⟨v, a, rfl, by omega, Or.inl rfl⟩
      · rw [z_eqF ⟨by omega, by omega⟩ ⟨by omega, by omega⟩ d, z_eqF ⟨by omega, by omega⟩ (by decide) (by omega)]
        exact ⟨v, a, rfl, by omega, Or.inl rfl⟩
/-- behind the digits, on each side -/
theorem z3_numEnd {t : TextS} {x : ModS} (h : zTx t x) {s p v lo hi : Int} (p0 : 0 ≤ p) (p1 : p ≤ 500) (s0 : 0 ≤ s) (s1 : s ≤ 500) (hv : xin v) (hl : xin lo) (hh : xin hi) : (x_eq p s (some (v, s3_err (zTT t p (-1)) p)) ((f3_isDigitHere (zTT t p (-1))).bind fun v8 => x_eq v8 0 (x_lt v lo (some (v, s3_err (zTT t p (-1)) s)) (x_lt hi v (some (v, s3_err (zTT t p (-1)) s)) (some (v, zTT t p (-1))))) (some (v, s3_err (zTT t p (-1)) p)))) = some (v, zTT t p (if p = s ∨ zDg (zBB t) (zLL t) p then p else if lo ≤ v ∧ v ≤ hi then -1 else s)) := by
  by_cases g : p = s
  · rw [z_eqT ⟨by omega, by omega⟩ g, if_pos (Or.inl g), zTT_err]
  · rw [z_eqF ⟨by omega, by omega⟩ ⟨by omega, by omega⟩ g, z_bind (z3_dig h p0 (by omega))]
    by_cases d : zDg (zBB t) (zLL t) p
    · rw [if_pos d, z_eqF (by decide) (by decide) (by decide), if_pos (Or.inr d), zTT_err]
    · rw [if_neg d, z_eqT (by decide) rfl, if_neg (fun z => z.elim g d)]
      by_cases e : v < lo
      · rw [z_ltT hv hl e, if_neg (by omega), zTT_err]
      · rw [z_ltF hv hl e]
        by_cases f : hi < v
        · rw [z_ltT hh hv f, if_neg (by omega), zTT_err]
        · rw [z_ltF hh hv f, if_pos (by omega)]
theorem zs_numL {t : TextS} {x : ModS} (h : zTx t x) {s D lo hi : Int} {o : Int → Int} (s0 : 0 ≤ s) (s1 : s ≤ zLL t) (D0 : 1 ≤ D) (D1 : D ≤ 3) (l0 : 0 ≤ lo) (l1 : lo ≤ 999) (h0 : 0 ≤ hi) (h1 : hi ≤ 999) : ∀ (m fu fu2 : Nat) (i v : Int), 0 ≤ i → i + (m : Int) = D → s + i ≤ zLL t → 0 ≤ v → (i = 0 → v = 0) → (i = 1 → v ≤ 9) → (i = 2 → v ≤ 99) → v ≤ 999 → m < fu → (200 : Int) < (fu2 : Int) + i → ∃ v' vm p' e' a' w', f3_readNumber_L22 (zTT t s (-1)) D lo hi fu v i (zTT t (s + i) (-1)) = some (v', zTT t p' e') ∧ f5_number_L9 (zXX x s (-1) o) D lo hi fu2 v (zXX x (s + i) (-1) o) = some (vm, zXX x a' w' o) ∧ zSt (zLL t) p' e' a' w' ∧ a' ≤ 100 ∧ (e' = -1 → v' = vm ∧ lo ≤ v' ∧ v' ≤ hi ∧ s < p')
  | _, 0, _, _, _, _, _, _, _, _, _, _, _, h, _ => by omega
  | _, _ + 1, 0, _, _, _, _, _, _, _, _, _, _, _, h => by omega
  | m, fu + 1, fu2 + 1, i, v, i0, im, si, v0, va, vb, vc, v1, f1, f2 => by
    have hL : zLL t ≤ 100 := by rw [h.1]; exact h.2.2.1
    have hr := zLk_rng h (p := s + i) (by omega)
    by_cases g : zDg (zBB t) (zLL t) (s + i)
    · have hlt : s + i < zLL t := zLk_in (B := zBB t) (by omega)
      by_cases gi : i < D
      · -- a digit more
        cases m with
        | zero => omega
        | succ m =>
          obtain ⟨v', vm, p', e', a', w', q1, q2, q3⟩ := zs_numL h (o := o) s0 s1 D0 D1 l0 l1 h0 h1 m fu fu2 (i + 1) (10 * v + zLk (zBB t) (zLL t) (s + i) - 48) (by omega) (by omega) (by omega) (by omega) (by omega) (by omega) (by omega) (by omega) (by omega) (by omega)
          rw [show s + (i + 1) = s + i + 1 by omega] at q1 q2
          refine ⟨v', vm, p', e', a', w', ?_, ?_, q3⟩
          · unfold f3_readNumber_L22
            rw [z_ltT ⟨by omega, by omega⟩ ⟨by omega, by omega⟩ gi, z_bind (z3_dig h (by omega) (by omega)), if_pos g, z_eqF (by decide) (by decide) (by decide), z_bind (z3_here h (by omega) (by omega)), zTT_pos, zTT_gp]
            exact q1
          · unfold f5_number_L9
            rw [z_bind (z5_look h (by omega) (by omega)), z_bind (z5_in ⟨by omega, by omega⟩ (by decide) (by decide)), if_pos g, z_eqF (by decide) (by decide) (by decide), zXX_gp, zXX_gp, z_eqF ⟨by omega, by omega⟩ ⟨by omega, by omega⟩ (by omega), zXX_gw, z_eqT (by decide) rfl, z_bind (z5_look h (by omega) (by omega)), zXX_pos]
            exact q2
      · -- a digit too many
        have ei : i = D := by omega
        obtain ⟨vm, a', q1, q2, q3⟩ := z5_numE h (x := x) (s := s) (w0 := -1) (w := s + i) (D := D) (lo := lo) (hi := hi) (o := o) s0 (by omega) D0 D1 (by omega) (by omega) 101 fu2 (s + i + 1) 0 (by omega) (by omega) (by omega) (by omega)
        refine ⟨v, vm, s + i, s + i, a', s + i, ?_, ?_, Or.inr ⟨rfl, by omega, by omega, by omega, by omega, by omega, by omega⟩, by omega, fun z => by omega⟩
        · unfold f3_readNumber_L22
          rw [z_ltF ⟨by omega, by omega⟩ ⟨by omega, by omega⟩ gi]
          refine (z3_numEnd h (s := s) (p := s + i) (v := v) (lo := lo) (hi := hi) (by omega) (by omega) s0 (by omega) ⟨by omega, by omega⟩ ⟨by omega, by omega⟩ ⟨by omega, by omega⟩).trans ?_
          rw [if_pos (Or.inr g)]
        · unfold f5_number_L9
          rw [z_bind (z5_look h (by omega) (by omega)), z_bind (z5_in ⟨by omega, by omega⟩ (by decide) (by decide)), if_pos g, z_eqF (by decide) (by decide) (by decide), zXX_gp, zXX_gp, z_eqT ⟨by omega, by omega⟩ (by omega), z_bind (z5_wrong (by decide)), if_pos rfl, zXX_gw, z_eqF ⟨by omega, by omega⟩ (by decide) (by omega), zXX_pos, zXX_gp]
          exact q1
    · -- no digit
      have hcl : f3_readNumber_L22 (zTT t s (-1)) D lo hi (fu + 1) v i (zTT t (s + i) (-1)) = some (v, zTT t (s + i) (if s + i = s ∨ zDg (zBB t) (zLL t) (s + i) then s + i else if lo ≤ v ∧ v ≤ hi then -1 else s)) := by
        have e := z3_numEnd h (s := s) (p := s + i) (v := v) (lo := lo) (hi := hi) (by omega) (by omega) s0 (by omega) ⟨by omega, by omega⟩ ⟨by omega, by omega⟩ ⟨by omega, by omega⟩
        unfold f3_readNumber_L22
        by_cases gi : i < D
        · rw [z_ltT ⟨by omega, by omega⟩ ⟨by omega, by omega⟩ gi, z_bind (z3_dig h (by omega) (by omega)), if_neg g, z_eqT (by decide) rfl]
          exact e
        · rw [z_ltF ⟨by omega, by omega⟩ ⟨by omega, by omega⟩ gi]
          exact e
      rw [hcl]
      unfold f5_number_L9
      rw [z_bind (z5_look h (by omega) (by omega)), z_bind (z5_in ⟨by omega, by omega⟩ (by decide) (by decide)), if_neg g, z_eqT (by decide) rfl, zXX_gp, zXX_gp]
      by_cases ei : s + i = s
      · rw [if_pos (Or.inl ei), z_eqT ⟨by omega, by omega⟩ ei, z_bind (z5_wrong (by decide)), if_pos rfl, zXX_gw, z_eqF ⟨by omega, by omega⟩ (by decide) (by omega)]
        exact ⟨v, v, s + i, s + i, s + i, s + i, rfl, rfl, Or.inr ⟨rfl, by omega, by omega, by omega, by omega, by omega, by omega⟩, by omega, fun z => by omega⟩
      · rw [if_neg (fun z => z.elim ei g), z_eqF ⟨by omega, by omega⟩ ⟨by omega, by omega⟩ ei, zXX_gw, z_eqT (by decide) rfl, z_bind (z5_in ⟨by omega, by omega⟩ ⟨by omega, by omega⟩ ⟨by omega, by omega⟩)]
        by_cases d : lo ≤ v ∧ v ≤ hi
        · rw [if_pos d, if_pos d, z_eqF (by decide) (by decide) (by decide)]
          exact ⟨v, v, s + i, -1, s + i, -1, rfl, rfl, Or.inl ⟨rfl, rfl, rfl, by omega, by omega⟩, by omega, fun _ => ⟨rfl, d.1, d.2, by omega⟩⟩
        · rw [if_neg d, if_neg d, z_eqT (by decide) rfl, z_bind (z5_wrong (by decide)), if_pos rfl]
          exact ⟨v, v, s + i, s, s + i, s, rfl, rfl, Or.inr ⟨rfl, s0, s1, by omega, by omega, by omega, by omega⟩, by omega, fun z => by omega⟩
theorem zs_num {t : TextS} {x : ModS} (h : zTx t x) {p e a w D lo hi : Int} {o : Int → Int} (D0 : 1 ≤ D) (D1 : D ≤ 3) (l0 : 0 ≤ lo) (l1 : lo ≤ 999) (h0 : 0 ≤ hi) (h1 : hi ≤ 999) (hs : zSt (zLL t) p e a w) (ha : a ≤ 400) : ∃ v vm p' e' a' w', f3_readNumber (zTT t p e) D lo hi = some (v, zTT t p' e') ∧ f5_number (zXX x a w o) D lo hi = some (vm, zXX x a' w' o) ∧ zSt (zLL t) p' e' a' w' ∧ (a' ≤ a ∨ a' ≤ 100) ∧ (e' = -1 → e = -1 ∧ v = vm ∧ lo ≤ v ∧ v ≤ hi ∧ p < p') := by
  have hL : zLL t ≤ 100 := by rw [h.1]; exact h.2.2.1
  rcases hs with ⟨e1, w1, ea, p0, p1⟩ | ⟨ew, e0, e1, p0, p1, a0, a1⟩
  · subst e1; subst w1; subst ea
    obtain ⟨v', vm, p', e', a', w', q1, q2, q3, q4, q5⟩ := zs_numL h (o := o) p0 p1 D0 D1 l0 l1 h0 h1 D.toNat xFU xFU 0 0 (by decide) (by omega) (by omega) (by decide) (fun _ => rfl) (fun z => by omega) (fun z => by omega) (by decide) (by unfold xFU; omega) (by unfold xFU; omega)
    rw [Int.add_zero] at q1 q2
    refine ⟨v', vm, p', e', a', w', ?_, q2, q3, Or.inr q4, fun z => ⟨rfl, q5 z⟩⟩
    unfold f3_readNumber
    rw [zTT_ge, z_eqT (by decide) rfl]
    exact q1
  · subst ew
    obtain ⟨vm, a', q1, q2, q3⟩ := z5_numE h (x := x) (s := a) (w0 := e) (w := e) (D := D) (lo := lo) (hi := hi) (o := o) a0 a1 D0 D1 e0 (by omega) 101 xFU a 0 a0 a1 (by omega) (by unfold xFU; omega)
    refine ⟨0, vm, p, e, a', e, ?_, q1, Or.inr ⟨rfl, e0, e1, p0, p1, by omega, by omega⟩, by omega, fun z => by omega⟩
    unfold f3_readNumber
    rw [zTT_ge, z_eqF ⟨by omega, by omega⟩ (by decide) (by omega)]

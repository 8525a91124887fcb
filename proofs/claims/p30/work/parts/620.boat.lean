/-! A boat: what holds of its rows, and what its readers answer. -/
def zP (K W H : Int → Int) (n : Int) : Prop := 0 ≤ n ∧ n ≤ 120 ∧ ∀ p, 0 ≤ p → p < n → 0 ≤ K p ∧ K p ≤ 999 ∧ 1 ≤ W p ∧ W p ≤ 50 ∧ -2 ≤ H p ∧ H p ≤ 1000000000
def zOrd (K O : Int → Int) (n : Int) : Prop := (∀ i j, 0 ≤ i → i < j → j < n → zl K (O i) (O j)) ∧ zPerm O n.toNat
def zRun (H W F S G : Int → Int) (n R flo : Int) : Prop := (0 ≤ R ∧ 0 ≤ flo ∧ flo ≤ 1000000000) ∧ (∀ i j, 0 ≤ i → i < j → j < R → F i < F j) ∧ (∀ k, 0 ≤ k → k < R → 0 ≤ F k ∧ F k < flo ∧ 0 ≤ S k ∧ S k ≤ 9 ∧ G k = xS (fun p => if H p = F k then W p else 0) 0 n.toNat ∧ ∃ p, 0 ≤ p ∧ p < n ∧ H p = F k) ∧ (∀ p, 0 ≤ p → p < n → 0 ≤ H p → ∃ k, 0 ≤ k ∧ k < R ∧ F k = H p)
abbrev zn (b : BoatS) : Int := (g0_keys b).1
abbrev zR (b : BoatS) : Int := (g0_flts b).1
abbrev zK (b : BoatS) : Int → Int := (g0_keys b).2
abbrev zW (b : BoatS) : Int → Int := (g0_weis b).2
abbrev zH (b : BoatS) : Int → Int := (g0_homs b).2
abbrev zO (b : BoatS) : Int → Int := (g0_ords b).2
abbrev zF (b : BoatS) : Int → Int := (g0_flts b).2
abbrev zS (b : BoatS) : Int → Int := (g0_strs b).2
abbrev zG (b : BoatS) : Int → Int := (g0_rwts b).2
def zSz (b : BoatS) : Prop := (g0_weis b).1 = zn b ∧ (g0_homs b).1 = zn b ∧ (g0_ords b).1 = zn b ∧ (g0_strs b).1 = zR b ∧ (g0_rwts b).1 = zR b
def zOpn (H F : Int → Int) (R opn : Int) : Prop := opn = -1 ∨ ∃ k, 0 ≤ k ∧ k < R ∧ F k = opn
def zC (H : Int → Int) (h n : Int) : Int := xS (fun p => if H p = h then 1 else 0) 0 n.toNat
def zB (b : BoatS) : Prop := zP (zK b) (zW b) (zH b) (zn b) ∧ zSz b ∧ zOrd (zK b) (zO b) (zn b) ∧ zRun (zH b) (zW b) (zF b) (zS b) (zG b) (zn b) (zR b) (g0_flo b) ∧ zOpn (zH b) (zF b) (zR b) (g0_opn b) ∧ (1 ≤ g0_room b ∧ g0_room b ≤ 120 ∧ zC (zH b) (-1) (zn b) ≤ g0_room b)
/-- as many runs as parcels at most -/
theorem z_pigeon (H F : Int → Int) (n : Nat) (R : Nat) (hs : ∀ i j, 0 ≤ i → i < j → j < (R : Int) → F i < F j) (hn : ∀ k, 0 ≤ k → k < (R : Int) → ∃ p, 0 ≤ p ∧ p < (n : Int) ∧ H p = F k) : (R : Int) ≤ (n : Int) := by
  have e1 : (R : Int) ≤ xS (fun k => xS (fun p => if H p = F k then 1 else 0) 0 n) 0 R := by
    rw [← xS_one R 0]
    refine xS_le R 0 (fun k a b => ?_)
    obtain ⟨p, p0, p1, hp⟩ := hn k a (by omega)
    have e2 : xS (fun q => if q = p then 1 else 0) 0 n = 1 := by
      rw [xS_point (f := fun q => if q = p then 1 else 0) (k := p) n 0 p0 (by omega) (fun q _ _ z => if_neg z), if_pos rfl]
    rw [← e2]
    refine xS_le n 0 (fun q _ _ => ?_)
    by_cases z : q = p
    · rw [if_pos z, if_pos (by rw [z]; exact hp)]; omega
    · rw [if_neg z]; split <;> omega
  rw [xS_swap (fun k p => if H p = F k then 1 else 0) 0 n R 0] at e1
  have e3 : xS (fun p => xS (fun k => if H p = F k then 1 else 0) 0 R) 0 n ≤ xS (fun _ => 1) 0 n := by
    refine xS_le n 0 (fun p _ _ => ?_)
    by_cases hk : ∃ k, 0 ≤ k ∧ k < (R : Int) ∧ H p = F k
    · obtain ⟨k, k0, k1, hk⟩ := hk
      rw [xS_point (f := fun k => if H p = F k then 1 else 0) (k := k) R 0 k0 (by omega) (fun j ja jb jn => if_neg (fun z => by
        rcases Int.lt_trichotomy j k with q | q | q
        · have := hs j k ja q k1; omega
        · exact jn q
        · have := hs k j k0 q (by omega); omega))]
      split <;> omega
    · rw [xS_congr (g := fun _ => 0) R 0 (fun k a b => if_neg (fun z => hk ⟨k, a, by omega, z⟩)), xS_zero]; omega
  rw [xS_one] at e3
  omega
theorem zRun.le {H W F S G : Int → Int} {n R flo : Int} (h : zRun H W F S G n R flo) (hn : 0 ≤ n) : R ≤ n := by
  have := z_pigeon H F n.toNat R.toNat (fun i j a b c => h.2.1 i j a b (by have := h.1.1; omega)) (fun k a b => by
    obtain ⟨p, p0, p1, hp⟩ := (h.2.2.1 k a (by have := h.1.1; omega)).2.2.2.2.2
    exact ⟨p, p0, by omega, hp⟩)
  have := h.1.1
  omega
theorem zC_nonneg (H : Int → Int) (h n : Int) : 0 ≤ zC H h n := xS_nonneg _ _ (fun p _ _ => by split <;> omega)
theorem zC_le (H : Int → Int) (h : Int) {n : Int} (h0 : 0 ≤ n) : zC H h n ≤ n := by
  have := xS_le (f := fun p => if H p = h then 1 else 0) (g := fun _ => 1) n.toNat 0 (fun p _ _ => by split <;> omega)
  rw [xS_one] at this
  unfold zC; omega
/-! the rows read -/
theorem zB.getK {b : BoatS} (h : zB b) {i : Int} (h0 : 0 ≤ i) (h1 : i < zn b) : f2_get 120 (g0_keys b) i = some (zK b i) := by
  have := h.1.2.1
  exact z2_get (by show zn b ≤ 120; omega) (by show zn b ≤ 100000; omega) h0 h1
theorem zB.getW {b : BoatS} (h : zB b) {i : Int} (h0 : 0 ≤ i) (h1 : i < zn b) : f2_get 120 (g0_weis b) i = some (zW b i) := by
  have := h.1.2.1; have := h.2.1.1
  exact z2_get (by show _ ≤ (120 : Int); omega) (by omega) h0 (by omega)
theorem zB.getH {b : BoatS} (h : zB b) {i : Int} (h0 : 0 ≤ i) (h1 : i < zn b) : f2_get 120 (g0_homs b) i = some (zH b i) := by
  have := h.1.2.1; have := h.2.1.2.1
  exact z2_get (by show _ ≤ (120 : Int); omega) (by omega) h0 (by omega)
theorem zB.getO {b : BoatS} (h : zB b) {i : Int} (h0 : 0 ≤ i) (h1 : i < zn b) : f2_get 120 (g0_ords b) i = some (zO b i) := by
  have := h.1.2.1; have := h.2.1.2.2.1
  exact z2_get (by show _ ≤ (120 : Int); omega) (by omega) h0 (by omega)
theorem zB.R_le {b : BoatS} (h : zB b) : zR b ≤ zn b := h.2.2.2.1.le h.1.1
theorem zB.R0 {b : BoatS} (h : zB b) : 0 ≤ zR b := h.2.2.2.1.1.1
theorem zB.getF {b : BoatS} (h : zB b) {i : Int} (h0 : 0 ≤ i) (h1 : i < zR b) : f2_get 120 (g0_flts b) i = some (zF b i) := by
  have := h.1.2.1; have := h.R_le
  exact z2_get (by show zR b ≤ 120; omega) (by show zR b ≤ 100000; omega) h0 h1
theorem zB.getS {b : BoatS} (h : zB b) {i : Int} (h0 : 0 ≤ i) (h1 : i < zR b) : f2_get 120 (g0_strs b) i = some (zS b i) := by
  have := h.1.2.1; have := h.R_le; have := h.2.1.2.2.2.1
  exact z2_get (by show _ ≤ (120 : Int); omega) (by omega) h0 (by omega)
theorem zB.getG {b : BoatS} (h : zB b) {i : Int} (h0 : 0 ≤ i) (h1 : i < zR b) : f2_get 120 (g0_rwts b) i = some (zG b i) := by
  have := h.1.2.1; have := h.R_le; have := h.2.1.2.2.2.2
  exact z2_get (by show _ ≤ (120 : Int); omega) (by omega) h0 (by omega)
theorem zB.szH {b : BoatS} (h : zB b) : f2_size 120 (g0_homs b) = some (zn b) := congrArg some h.2.1.2.1
theorem zB.szO {b : BoatS} (h : zB b) : f2_size 120 (g0_ords b) = some (zn b) := congrArg some h.2.1.2.2.1
theorem zB.O_rng {b : BoatS} (h : zB b) {i : Int} (h0 : 0 ≤ i) (h1 : i < zn b) : 0 ≤ zO b i ∧ zO b i < zn b := by
  have := h.2.2.1.2.1 i h0 (by omega)
  have := h.1.1
  omega
theorem zB.xF {b : BoatS} (h : zB b) : ∀ j, 0 ≤ j → j < (g0_flts b).1 → xin ((g0_flts b).2 j) := fun j a c => by
  have h1 := h.2.2.2.1.2.2.1 j a c
  have h3 : 0 ≤ (g0_flts b).2 j ∧ (g0_flts b).2 j < g0_flo b := ⟨h1.1, h1.2.1⟩
  have h2 := h.2.2.2.1.1.2.2
  exact ⟨by omega, by omega⟩
theorem zB.idx {b : BoatS} (h : zB b) {v : Int} (hv : xin v) : ∃ t, f2_indexOf 120 (g0_flts b) v = some t ∧ zIdx (zF b) (zR b) v t :=
  z2_idx h.R0 (by have := h.1.2.1; have := h.R_le; show zR b ≤ 120; omega) (by have := h.1.2.1; have := h.R_le; show zR b ≤ 1000; omega) hv h.xF
/-! count, last, place -/
theorem z0_countAtL {b : BoatS} (hB : zB b) {h : Int} (hh : xin h) : ∀ (m fu : Nat) (acc i : Int), 0 ≤ i → i + (m : Int) = zn b → m < fu → f0_countAt_L4 b h fu acc i = some (acc + xS (fun p => if zH b p = h then 1 else 0) i m)
  | 0, 0, _, _, _, _, q => by omega
  | m + 1, 0, _, _, _, _, q => by omega
  | 0, fu + 1, acc, i, h0, h1, _ => by
    have hn := hB.1.2.1
    unfold f0_countAt_L4
    rw [z_bind hB.szH, z_ltF ⟨by omega, by omega⟩ ⟨by omega, by omega⟩ (by omega)]
    show some acc = some (acc + 0)
    rw [Int.add_zero]
  | m + 1, fu + 1, acc, i, h0, h1, q => by
    have hn := hB.1.2.1
    have hp := hB.1.2.2 i h0 (by omega)
    unfold f0_countAt_L4
    rw [z_bind hB.szH, z_ltT ⟨by omega, by omega⟩ ⟨by omega, by omega⟩ (by omega), z_bind (hB.getH h0 (by omega))]
    by_cases e : zH b i = h
    · rw [z_eqT ⟨by omega, by omega⟩ e, z0_countAtL hB hh m fu _ _ (by omega) (by omega) (by omega)]
      show _ = some (acc + ((if zH b i = h then 1 else 0) + xS (fun p => if zH b p = h then 1 else 0) (i + 1) m))
      rw [if_pos e]
      exact congrArg some (by omega)
    · rw [z_eqF ⟨by omega, by omega⟩ hh e, z0_countAtL hB hh m fu _ _ (by omega) (by omega) (by omega)]
      show _ = some (acc + ((if zH b i = h then 1 else 0) + xS (fun p => if zH b p = h then 1 else 0) (i + 1) m))
      rw [if_neg e]
      exact congrArg some (by omega)
theorem z0_countAt {b : BoatS} (hB : zB b) {h : Int} (hh : xin h) : f0_countAt b h = some (zC (zH b) h (zn b)) := by
  have h0 := hB.1.1
  have h1 := hB.1.2.1
  unfold f0_countAt zC
  rw [z0_countAtL hB hh (zn b).toNat xFU 0 0 (by omega) (by omega) (by unfold xFU; omega), Int.zero_add]
theorem zOrd_none {K O : Int → Int} {n : Int} (hn : 0 ≤ n) (h : zOrd K O n) {P : Int → Prop} {L : Int → Int → Prop} (hp : ∀ j, 0 ≤ j → j < n → ¬ P (O j)) : zMin P L n (-1) := by
  refine Or.inl ⟨rfl, fun q a b c => ?_⟩
  obtain ⟨i, i0, i1, hi⟩ := h.2.2.1 q a (by omega)
  exact hp i i0 (by omega) (by rw [hi]; exact c)
theorem zOrd_first {K O : Int → Int} {n : Int} (hn : 0 ≤ n) (h : zOrd K O n) {P : Int → Prop} {i : Int} (h0 : 0 ≤ i) (h1 : i < n) (hp : P (O i)) (hl : ∀ j, 0 ≤ j → j < i → ¬ P (O j)) : zMin P (zl K) n (O i) := by
  have hr := h.2.1 i h0 (by omega)
  refine Or.inr ⟨hr.1, by omega, hp, fun q a b c => ?_⟩
  obtain ⟨j, j0, j1, hj⟩ := h.2.2.1 q a (by omega)
  rcases Int.lt_trichotomy j i with z | z | z
  · exact absurd (by rw [hj]; exact c) (hl j j0 z)
  · left; rw [← hj, z]
  · right; rw [← hj]; exact h.1 i j h0 z (by omega)
theorem zOrd_last {K O : Int → Int} {n : Int} (hn : 0 ≤ n) (h : zOrd K O n) {P : Int → Prop} {i : Int} (h0 : 0 ≤ i) (h1 : i < n) (hp : P (O i)) (hl : ∀ j, i < j → j < n → ¬ P (O j)) : zMin P (fun a c => zl K c a) n (O i) := by
  have hr := h.2.1 i h0 (by omega)
  refine Or.inr ⟨hr.1, by omega, hp, fun q a b c => ?_⟩
  obtain ⟨j, j0, j1, hj⟩ := h.2.2.1 q a (by omega)
  rcases Int.lt_trichotomy j i with z | z | z
  · right; rw [← hj]; exact h.1 j i j0 z h1
  · left; rw [← hj, z]
  · exact absurd (by rw [hj]; exact c) (hl j z (by omega))
theorem z0_lastAtL {b : BoatS} (hB : zB b) {h : Int} (hh : xin h) : ∀ (m fu : Nat) (i : Int), i + 1 = (m : Int) → i < zn b → m < fu → (∀ j, i < j → j < zn b → ¬ zH b (zO b j) = h) → ∃ r, f0_lastAt_L10 b h fu i = some r ∧ zMin (fun p => zH b p = h) (fun a c => zl (zK b) c a) (zn b) r
  | 0, 0, _, _, _, q, _ => by omega
  | m + 1, 0, _, _, _, q, _ => by omega
  | 0, fu + 1, i, h0, h1, _, hn => by
    unfold f0_lastAt_L10
    rw [z_ltT ⟨by omega, by omega⟩ (by decide) (by omega)]
    exact ⟨-1, rfl, zOrd_none hB.1.1 hB.2.2.1 (fun j a c => hn j (by omega) c)⟩
  | m + 1, fu + 1, i, h0, h1, q, hn => by
    have h120 := hB.1.2.1
    have hr := hB.O_rng (i := i) (by omega) h1
    have hp := hB.1.2.2 (zO b i) hr.1 hr.2
    unfold f0_lastAt_L10
    rw [z_ltF ⟨by omega, by omega⟩ (by decide) (by omega), z_bind (hB.getO (by omega) h1), z_bind (hB.getH hr.1 hr.2)]
    by_cases e : zH b (zO b i) = h
    · rw [z_eqT ⟨by omega, by omega⟩ e]
      exact ⟨_, rfl, zOrd_last hB.1.1 hB.2.2.1 (by omega) h1 e hn⟩
    · rw [z_eqF ⟨by omega, by omega⟩ hh e]
      exact z0_lastAtL hB hh m fu (i + (-1)) (by omega) (by omega) (by omega) (fun j a c => by
        by_cases z : j = i
        · rw [z]; exact e
        · exact hn j (by omega) c)
theorem z0_lastAt {b : BoatS} (hB : zB b) {h : Int} (hh : xin h) : ∃ r, f0_lastAt b h = some r ∧ zMin (fun p => zH b p = h) (fun a c => zl (zK b) c a) (zn b) r := by
  have h0 := hB.1.1
  have h1 := hB.1.2.1
  unfold f0_lastAt
  rw [z_bind hB.szO]
  exact z0_lastAtL hB hh (zn b).toNat xFU (zn b - 1) (by omega) (by omega) (by unfold xFU; omega) (fun j a c => by omega)
theorem z0_isLess {b : BoatS} (hB : zB b) {p q : Int} (hp0 : 0 ≤ p) (hp1 : p < zn b) (hq0 : 0 ≤ q) (hq1 : q < zn b) : f0_isLess b p q = some (if zl (zK b) p q then 1 else 0) := by
  have h120 := hB.1.2.1
  have hp := hB.1.2.2 p hp0 hp1
  have hq := hB.1.2.2 q hq0 hq1
  unfold f0_isLess
  rw [z_bind (hB.getK hp0 hp1), z_bind (hB.getK hq0 hq1)]
  by_cases a : zK b p < zK b q
  · rw [z_ltT ⟨by omega, by omega⟩ ⟨by omega, by omega⟩ a, if_pos (Or.inl a)]
  · rw [z_ltF ⟨by omega, by omega⟩ ⟨by omega, by omega⟩ a]
    by_cases c : zK b p = zK b q
    · rw [z_eqT ⟨by omega, by omega⟩ c]
      by_cases d : p < q
      · rw [z_ltT ⟨by omega, by omega⟩ ⟨by omega, by omega⟩ d, if_pos (Or.inr ⟨c, d⟩)]
      · rw [z_ltF ⟨by omega, by omega⟩ ⟨by omega, by omega⟩ d, if_neg (by omega)]
    · rw [z_eqF ⟨by omega, by omega⟩ ⟨by omega, by omega⟩ c, if_neg (by omega)]

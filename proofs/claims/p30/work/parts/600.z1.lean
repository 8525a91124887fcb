/-! LAYER 2 (no machine in it): the words of the pure functions, sums, the order of the parcels, the least of some. -/
theorem z_ltT {α : Type} {a b : Int} {T E : Option α} (ha : xin a) (hb : xin b) (h : a < b) : x_lt a b T E = T := by
  unfold x_lt; rw [if_pos ⟨ha, hb⟩, if_pos h]
theorem z_ltF {α : Type} {a b : Int} {T E : Option α} (ha : xin a) (hb : xin b) (h : ¬ a < b) : x_lt a b T E = E := by
  unfold x_lt; rw [if_pos ⟨ha, hb⟩, if_neg h]
theorem z_eqT {α : Type} {a b : Int} {T E : Option α} (ha : xin a) (h : a = b) : x_eq a b T E = T := by
  subst h; unfold x_eq; rw [if_pos ⟨ha, ha⟩, if_pos rfl]
theorem z_eqF {α : Type} {a b : Int} {T E : Option α} (ha : xin a) (hb : xin b) (h : ¬ a = b) : x_eq a b T E = E := by
  unfold x_eq; rw [if_pos ⟨ha, hb⟩, if_neg h]
theorem z_ckT {α : Type} {a : Int} {T : Option α} (ha : xin a) : x_ck a T = T := by
  unfold x_ck; rw [if_pos ha]
theorem z_ldT {N : Nat} {f : Int → Int} {i : Int} (h0 : 0 ≤ i) (h1 : i < (N : Int)) : x_ld N f i = some (f i) := by
  unfold x_ld; rw [if_pos ⟨h0, h1⟩]
theorem z_stT {N : Nat} {f : Int → Int} {i v : Int} (h0 : 0 ≤ i) (h1 : i < (N : Int)) : x_st N f i v = some (x_up f i v) := by
  unfold x_st; rw [if_pos ⟨h0, h1⟩]
theorem z_stZT {N : Nat} {f : Int → Int} {i v : Int} (h0 : 0 ≤ i) (h1 : i < (N : Int)) (hv : v = 0 ∨ v = 1) : x_stZ N f i v = some (x_up f i v) := by
  unfold x_stZ; rw [if_pos ⟨h0, h1, hv⟩]
theorem z_bind {α β : Type} {o : Option α} {v : α} {f : α → Option β} (h : o = some v) : o.bind f = f v := by rw [h]; rfl
theorem z_upS {f : Int → Int} {i v : Int} : x_up f i v i = v := by unfold x_up; rw [if_pos rfl]
theorem z_upN {f : Int → Int} {i j v : Int} (h : ¬ j = i) : x_up f i v j = f j := by unfold x_up; rw [if_neg h]
theorem z_up {f : Int → Int} {i j v : Int} : x_up f i v j = if j = i then v else f j := rfl
theorem z_min {a b : Int} (ha : xin a) (hb : xin b) : x_min a b = some (if b < a then b else a) := by unfold x_min; rw [if_pos ⟨ha, hb⟩]
theorem z_max {a b : Int} (ha : xin a) (hb : xin b) : x_max a b = some (if a < b then b else a) := by unfold x_max; rw [if_pos ⟨ha, hb⟩]
/-! sums -/
def xS (f : Int → Int) : Int → Nat → Int
  | _, 0 => 0
  | i, m + 1 => f i + xS f (i + 1) m
theorem xS_congr {f g : Int → Int} : ∀ (m : Nat) (i : Int), (∀ p, i ≤ p → p < i + (m : Int) → f p = g p) → xS f i m = xS g i m
  | 0, _, _ => rfl
  | m + 1, i, h => by
    show f i + xS f (i + 1) m = g i + xS g (i + 1) m
    rw [h i (by omega) (by omega), xS_congr m (i + 1) (fun p a b => h p (by omega) (by omega))]
theorem xS_add (f g : Int → Int) : ∀ (m : Nat) (i : Int), xS (fun p => f p + g p) i m = xS f i m + xS g i m
  | 0, _ => rfl
  | m + 1, i => by
    show f i + g i + xS (fun p => f p + g p) (i + 1) m = f i + xS f (i + 1) m + (g i + xS g (i + 1) m)
    rw [xS_add f g m (i + 1)]; omega
theorem xS_snoc (f : Int → Int) : ∀ (m : Nat) (i : Int), xS f i (m + 1) = xS f i m + f (i + (m : Int))
  | 0, i => by
    show f i + 0 = 0 + f (i + 0)
    rw [Int.add_zero i]; omega
  | m + 1, i => by
    show f i + xS f (i + 1) (m + 1) = f i + xS f (i + 1) m + f (i + ((m + 1 : Nat) : Int))
    rw [xS_snoc f m (i + 1)]
    have e : i + 1 + (m : Int) = i + ((m + 1 : Nat) : Int) := by omega
    rw [e]; omega
theorem xS_app (f : Int → Int) (k : Nat) : ∀ (m : Nat) (i : Int), xS f i (m + k) = xS f i m + xS f (i + (m : Int)) k
  | 0, i => by
    show xS f i (0 + k) = 0 + xS f (i + 0) k
    rw [Int.add_zero, Nat.zero_add]; omega
  | m + 1, i => by
    have e0 : m + 1 + k = (m + k) + 1 := by omega
    rw [e0]
    show f i + xS f (i + 1) (m + k) = f i + xS f (i + 1) m + xS f (i + ((m + 1 : Nat) : Int)) k
    rw [xS_app f k m (i + 1)]
    have e : i + 1 + (m : Int) = i + ((m + 1 : Nat) : Int) := by omega
    rw [e]; omega
theorem xS_le {f g : Int → Int} : ∀ (m : Nat) (i : Int), (∀ p, i ≤ p → p < i + (m : Int) → f p ≤ g p) → xS f i m ≤ xS g i m
  | 0, _, _ => Int.le_refl 0
  | m + 1, i, h => by
    have h1 := h i (by omega) (by omega)
    have h2 := xS_le m (i + 1) (fun p a b => h p (by omega) (by omega))
    show f i + xS f (i + 1) m ≤ g i + xS g (i + 1) m
    omega
theorem xS_zero : ∀ (m : Nat) (i : Int), xS (fun _ => 0) i m = 0
  | 0, _ => rfl
  | m + 1, i => by
    show 0 + xS (fun _ => 0) (i + 1) m = 0
    rw [xS_zero m (i + 1)]; rfl
theorem xS_one : ∀ (m : Nat) (i : Int), xS (fun _ => 1) i m = (m : Int)
  | 0, _ => rfl
  | m + 1, i => by
    show 1 + xS (fun _ => 1) (i + 1) m = _
    rw [xS_one m (i + 1)]; omega
theorem xS_nonneg {f : Int → Int} (m : Nat) (i : Int) (h : ∀ p, i ≤ p → p < i + (m : Int) → 0 ≤ f p) : 0 ≤ xS f i m := by
  have := xS_le (f := fun _ => 0) (g := f) m i h
  rw [xS_zero] at this; exact this
theorem xS_bound {f : Int → Int} (c : Int) : ∀ (m : Nat) (i : Int), (∀ p, i ≤ p → p < i + (m : Int) → f p ≤ c) → xS f i m ≤ c * (m : Int)
  | 0, _, _ => by show (0 : Int) ≤ c * 0; omega
  | m + 1, i, h => by
    have h1 := h i (by omega) (by omega)
    have h2 := xS_bound c m (i + 1) (fun p a b => h p (by omega) (by omega))
    show f i + xS f (i + 1) m ≤ c * ((m + 1 : Nat) : Int)
    have e : c * ((m + 1 : Nat) : Int) = c * (m : Int) + c := by
      rw [show ((m + 1 : Nat) : Int) = (m : Int) + 1 by omega, Int.mul_add, Int.mul_one]
    omega
/-- all are 0 but one -/
theorem xS_point {f : Int → Int} {k : Int} : ∀ (m : Nat) (i : Int), i ≤ k → k < i + (m : Int) → (∀ p, i ≤ p → p < i + (m : Int) → p ≠ k → f p = 0) → xS f i m = f k
  | 0, i, h1, h2, _ => by omega
  | m + 1, i, h1, h2, h => by
    show f i + xS f (i + 1) m = f k
    by_cases q : i = k
    · subst q
      rw [xS_congr (g := fun _ => 0) m (i + 1) (fun p a b => h p (by omega) (by omega) (by omega)), xS_zero]; omega
    · rw [h i (by omega) (by omega) q, xS_point m (i + 1) (by omega) (by omega) (fun p a b c => h p (by omega) (by omega) c)]; omega
/-- one changed -/
theorem xS_up {f : Int → Int} {k v : Int} (m : Nat) (i : Int) (h1 : i ≤ k) (h2 : k < i + (m : Int)) : xS (x_up f k v) i m = xS f i m + (v - f k) := by
  have e : xS (x_up f k v) i m = xS (fun p => f p + (if p = k then v - f k else 0)) i m := xS_congr m i (fun p _ _ => by
    unfold x_up
    by_cases q : p = k
    · rw [if_pos q, if_pos q, q]; omega
    · rw [if_neg q, if_neg q]; omega)
  rw [e, xS_add f (fun p => if p = k then v - f k else 0)]
  rw [xS_point (f := fun p => if p = k then v - f k else 0) (k := k) m i h1 h2 (fun p _ _ q => if_neg q)]
  rw [if_pos rfl]
theorem xS_swap (F : Int → Int → Int) (j : Int) (k : Nat) : ∀ (m : Nat) (a : Int), xS (fun i => xS (fun q => F i q) j k) a m = xS (fun q => xS (fun i => F i q) a m) j k
  | 0, a => by
    show (0 : Int) = xS (fun _ => 0) j k
    rw [xS_zero]
  | m + 1, a => by
    show xS (fun q => F a q) j k + xS (fun i => xS (fun q => F i q) j k) (a + 1) m = xS (fun q => F a q + xS (fun i => F i q) (a + 1) m) j k
    rw [xS_swap F j k m (a + 1), xS_add (fun q => F a q) (fun q => xS (fun i => F i q) (a + 1) m)]
/-- in another order -/
def zPerm (O : Int → Int) (n : Nat) : Prop := (∀ i, 0 ≤ i → i < (n : Int) → 0 ≤ O i ∧ O i < (n : Int)) ∧ (∀ p, 0 ≤ p → p < (n : Int) → ∃ i, 0 ≤ i ∧ i < (n : Int) ∧ O i = p) ∧ (∀ i j, 0 ≤ i → i < (n : Int) → 0 ≤ j → j < (n : Int) → O i = O j → i = j)
theorem zPerm_sum {O : Int → Int} {n : Nat} (h : zPerm O n) (f : Int → Int) : xS (fun i => f (O i)) 0 n = xS f 0 n := by
  have e1 : xS (fun i => f (O i)) 0 n = xS (fun i => xS (fun q => if O i = q then f q else 0) 0 n) 0 n := xS_congr n 0 (fun i a b => by
    have hi := h.1 i a (by omega)
    rw [xS_point (f := fun q => if O i = q then f q else 0) (k := O i) n 0 hi.1 (by omega) (fun p _ _ q => if_neg (fun z => q z.symm))]
    rw [if_pos rfl])
  rw [e1, xS_swap (fun i q => if O i = q then f q else 0) 0 n n 0]
  refine xS_congr n 0 (fun q a b => ?_)
  obtain ⟨i, i0, i1, hi⟩ := h.2.1 q a (by omega)
  rw [xS_point (f := fun i => if O i = q then f q else 0) (k := i) n 0 i0 (by omega) (fun p pa pb hp => if_neg (fun z => hp (h.2.2 p i pa (by omega) i0 i1 (z.trans hi.symm))))]
  rw [if_pos hi]
/-! the order of the parcels; the least of some -/
abbrev zl (K : Int → Int) (p q : Int) : Prop := K p < K q ∨ (K p = K q ∧ p < q)
theorem zl_asym {K : Int → Int} {p q : Int} (h : zl K p q) : ¬ zl K q p := by unfold zl at *; omega
theorem zl_trans {K : Int → Int} {p q r : Int} (h : zl K p q) (g : zl K q r) : zl K p r := by unfold zl at *; omega
theorem zl_tri {K : Int → Int} {p q : Int} (h : ¬ zl K p q) (g : p ≠ q) : zl K q p := by unfold zl at *; omega
theorem zl_irr {K : Int → Int} {p : Int} : ¬ zl K p p := by unfold zl; omega
def zMin (P : Int → Prop) (L : Int → Int → Prop) (n r : Int) : Prop := (r = -1 ∧ ∀ q, 0 ≤ q → q < n → ¬ P q) ∨ (0 ≤ r ∧ r < n ∧ P r ∧ ∀ q, 0 ≤ q → q < n → P q → q = r ∨ L r q)
theorem zMin_0 {P : Int → Prop} {L : Int → Int → Prop} : zMin P L 0 (-1) := Or.inl ⟨rfl, fun q a b => by omega⟩
theorem zMin_uniq {P : Int → Prop} {L : Int → Int → Prop} {n r r' : Int} (asy : ∀ a b, L a b → ¬ L b a) (h : zMin P L n r) (g : zMin P L n r') : r = r' := by
  rcases h with ⟨h1, h2⟩ | ⟨h1, h2, h3, h4⟩ <;> rcases g with ⟨g1, g2⟩ | ⟨g1, g2, g3, g4⟩
  · rw [h1, g1]
  · exact absurd g3 (h2 _ g1 g2)
  · exact absurd h3 (g2 _ h1 h2)
  · rcases h4 _ g1 g2 g3 with q | q
    · exact q.symm
    · rcases g4 _ h1 h2 h3 with z | z
      · exact z
      · exact absurd z (asy _ _ q)
theorem zMin_no {P : Int → Prop} {L : Int → Int → Prop} {i b : Int} (h : zMin P L i b) (hp : ¬ P i) : zMin P L (i + 1) b := by
  rcases h with ⟨h1, h2⟩ | ⟨h1, h2, h3, h4⟩
  · refine Or.inl ⟨h1, fun q a c => ?_⟩
    by_cases e : q = i
    · rw [e]; exact hp
    · exact h2 q a (by omega)
  · refine Or.inr ⟨h1, by omega, h3, fun q a c d => ?_⟩
    by_cases e : q = i
    · rw [e] at d; exact absurd d hp
    · exact h4 q a (by omega) d
theorem zMin_new {P : Int → Prop} {L : Int → Int → Prop} {i : Int} (h0 : 0 ≤ i) (h : zMin P L i (-1)) (hp : P i) : zMin P L (i + 1) i := by
  rcases h with ⟨h1, h2⟩ | ⟨h1, h2, h3, h4⟩
  · refine Or.inr ⟨h0, by omega, hp, fun q a c d => ?_⟩
    by_cases e : q = i
    · exact Or.inl e
    · exact absurd d (h2 q a (by omega))
  · omega
theorem zMin_keep {P : Int → Prop} {L : Int → Int → Prop} {i b : Int} (h : zMin P L i b) (hb : ¬ b = -1) (hl : L b i) : zMin P L (i + 1) b := by
  rcases h with ⟨h1, h2⟩ | ⟨h1, h2, h3, h4⟩
  · exact absurd h1 hb
  · refine Or.inr ⟨h1, by omega, h3, fun q a c d => ?_⟩
    by_cases e : q = i
    · rw [e]; exact Or.inr hl
    · exact h4 q a (by omega) d
theorem zMin_take {P : Int → Prop} {L : Int → Int → Prop} {i b : Int} (tr : ∀ a b c, L a b → L b c → L a c) (h0 : 0 ≤ i) (h : zMin P L i b) (hb : ¬ b = -1) (hp : P i) (hl : L i b) : zMin P L (i + 1) i := by
  rcases h with ⟨h1, h2⟩ | ⟨h1, h2, h3, h4⟩
  · exact absurd h1 hb
  · refine Or.inr ⟨h0, by omega, hp, fun q a c d => ?_⟩
    by_cases e : q = i
    · exact Or.inl e
    · rcases h4 q a (by omega) d with z | z
      · rw [z]; exact Or.inr hl
      · exact Or.inr (tr _ _ _ hl z)
theorem zMin_congr {P P' : Int → Prop} {L : Int → Int → Prop} {n r : Int} (h : zMin P L n r) (e : ∀ q, 0 ≤ q → q < n → (P q ↔ P' q)) : zMin P' L n r := by
  rcases h with ⟨h1, h2⟩ | ⟨h1, h2, h3, h4⟩
  · exact Or.inl ⟨h1, fun q a b c => h2 q a b ((e q a b).mpr c)⟩
  · exact Or.inr ⟨h1, h2, (e _ h1 h2).mp h3, fun q a b c => h4 q a b ((e q a b).mpr c)⟩
theorem zMin_rng {P : Int → Prop} {L : Int → Int → Prop} {n r : Int} (h : zMin P L n r) (hr : ¬ r = -1) : 0 ≤ r ∧ r < n ∧ P r := by
  rcases h with ⟨h1, h2⟩ | ⟨h1, h2, h3, h4⟩
  · exact absurd h1 hr
  · exact ⟨h1, h2, h3⟩
theorem zMin_ge {P : Int → Prop} {L : Int → Int → Prop} {n r : Int} (h : zMin P L n r) : -1 ≤ r ∧ (r = -1 ∨ r < n) := by
  rcases h with ⟨h1, h2⟩ | ⟨h1, h2, h3, h4⟩ <;> omega
theorem zMin_some {P : Int → Prop} {L : Int → Int → Prop} {n r q : Int} (h : zMin P L n r) (h0 : 0 ≤ q) (h1 : q < n) (hq : P q) : ¬ r = -1 := by
  rcases h with ⟨g1, g2⟩ | ⟨g1, g2, g3, g4⟩
  · exact absurd hq (g2 q h0 h1)
  · omega
/-! the first index with a value -/
def zIdx (f : Int → Int) (s v t : Int) : Prop := (t = -1 ∧ ∀ j, 0 ≤ j → j < s → ¬ f j = v) ∨ (0 ≤ t ∧ t < s ∧ f t = v ∧ ∀ j, 0 ≤ j → j < t → ¬ f j = v)
theorem zIdx_uniq {f : Int → Int} {s v t t' : Int} (h : zIdx f s v t) (g : zIdx f s v t') : t = t' := by
  rcases h with ⟨h1, h2⟩ | ⟨h1, h2, h3, h4⟩ <;> rcases g with ⟨g1, g2⟩ | ⟨g1, g2, g3, g4⟩
  · rw [h1, g1]
  · exact absurd g3 (h2 _ g1 g2)
  · exact absurd h3 (g2 _ h1 h2)
  · rcases Int.lt_trichotomy t t' with q | q | q
    · exact absurd h3 (g4 _ h1 q)
    · exact q
    · exact absurd g3 (h4 _ g1 q)
theorem zIdx_at {f : Int → Int} {s t : Int} (inj : ∀ i j, 0 ≤ i → i < j → j < s → f i < f j) (h0 : 0 ≤ t) (h1 : t < s) : zIdx f s (f t) t :=
  Or.inr ⟨h0, h1, rfl, fun j a b c => by have := inj j t a b h1; omega⟩

/-! Rows: what each method of a row does. -/
theorem z_bind2 {α β γ : Type} {o : Option (α × β)} {a : α} {b : β} {f : α × β → Option γ} (h : o = some (a, b)) : o.bind f = f (a, b) := by rw [h]; rfl
theorem z2_get {N : Nat} {r : RowS} {i : Int} (hN : r.1 ≤ (N : Int)) (hb : r.1 ≤ 100000) (h0 : 0 ≤ i) (h1 : i < r.1) : f2_get N r i = some (r.2 i) := by
  unfold f2_get
  rw [z_ltF ⟨by omega, by omega⟩ (by decide) (by omega), z_ltT ⟨by omega, by omega⟩ ⟨by omega, by omega⟩ h1, z_bind (z_ldT h0 (by omega))]
theorem z2_getN {N : Nat} {r : RowS} {i : Int} (h00 : 0 ≤ r.1) (hb : r.1 ≤ 100000) (hi : xin i) (h : i < 0 ∨ r.1 ≤ i) : f2_get N r i = some (-1) := by
  unfold f2_get
  by_cases q : i < 0
  · rw [z_ltT hi (by decide) q]
  · rw [z_ltF hi (by decide) q, z_ltF hi ⟨by omega, by omega⟩ (by omega)]
theorem z2_set {N : Nat} {r : RowS} {i v : Int} (hN : r.1 ≤ (N : Int)) (hb : r.1 ≤ 100000) (h0 : 0 ≤ i) (h1 : i < r.1) : f2_set N r i v = some (r.1, x_up r.2 i v) := by
  unfold f2_set
  rw [z_ltF ⟨by omega, by omega⟩ (by decide) (by omega), z_ltT ⟨by omega, by omega⟩ ⟨by omega, by omega⟩ h1, z_bind (z_stT h0 (by omega))]
theorem z2_inc {N : Nat} {r : RowS} {i v : Int} (hN : r.1 ≤ (N : Int)) (hb : r.1 ≤ 100000) (h0 : 0 ≤ i) (h1 : i < r.1) : f2_increase N r i v = some (r.1, x_up r.2 i (r.2 i + v)) := by
  unfold f2_increase
  rw [z_bind (z2_get hN hb h0 h1), z_bind (z2_set hN hb h0 h1)]
def zIns (f : Int → Int) (i v s : Int) : Int → Int := fun j => if j = i then v else if i < j ∧ j ≤ s then f (j - 1) else f j
theorem z2_insL {N : Nat} {p v s : Int} {f : Int → Int} (hb : s < (N : Int)) (hN : s ≤ 100000) (hp : 0 ≤ p) : ∀ (m fu : Nat) (l : Int), l = p + (m : Int) → l ≤ s → m < fu → f2_insert_L30 N p v fu l (s, fun j => if l < j ∧ j ≤ s then f (j - 1) else f j) = some (s + 1, zIns f p v s)
  | 0, 0, _, _, _, h => by omega
  | m + 1, 0, _, _, _, h => by omega
  | 0, fu + 1, l, hl, hs, _ => by
    unfold f2_insert_L30
    rw [z_ltF ⟨by omega, by omega⟩ ⟨by omega, by omega⟩ (by omega), z_bind (z_stT (by omega) (by omega))]
    refine congrArg some (Prod.ext rfl (funext fun j => ?_))
    show (if j = p then v else if l < j ∧ j ≤ s then f (j - 1) else f j) = zIns f p v s j
    unfold zIns
    have e : l = p := by omega
    rw [e]
  | m + 1, fu + 1, l, hl, hs, h => by
    unfold f2_insert_L30
    rw [z_ltT ⟨by omega, by omega⟩ ⟨by omega, by omega⟩ (by omega), z_bind (z_ldT (by omega) (by omega)), z_bind (z_stT (by omega) (by omega))]
    rw [← z2_insL (v := v) (f := f) hb hN hp m fu (l + (-1)) (by omega) (by omega) (by omega)]
    refine congrArg (f2_insert_L30 N p v fu (l + (-1))) (Prod.ext rfl (funext fun j => ?_))
    show (if j = l then (if l < l - 1 ∧ l - 1 ≤ s then f (l - 1 - 1) else f (l - 1)) else if l < j ∧ j ≤ s then f (j - 1) else f j) = (if l + (-1) < j ∧ j ≤ s then f (j - 1) else f j)
    by_cases q : j = l
    · subst q
      rw [if_pos rfl, if_neg (by omega), if_pos ⟨by omega, by omega⟩]
    · rw [if_neg q]
      by_cases w : l < j ∧ j ≤ s
      · rw [if_pos w, if_pos ⟨by omega, w.2⟩]
      · rw [if_neg w, if_neg (by omega)]
theorem z2_insert {N : Nat} {r : RowS} {i v : Int} (hN : r.1 < (N : Int)) (hb : r.1 < 1000) (hNb : (N : Int) ≤ 1000) (h0 : 0 ≤ i) (h1 : i ≤ r.1) : f2_insert N r i v = some (r.1 + 1, zIns r.2 i v r.1) := by
  unfold f2_insert
  rw [z_ltF ⟨by omega, by omega⟩ (by decide) (by omega), z_ltF ⟨by omega, by omega⟩ ⟨by omega, by omega⟩ (by omega), z_ltT ⟨by omega, by omega⟩ ⟨by omega, by omega⟩ (by omega)]
  rw [← z2_insL (N := N) (p := i) (v := v) (s := r.1) (f := r.2) (by omega) (by omega) h0 (r.1 - i).toNat xFU r.1 (by omega) (by omega) (by unfold xFU; omega)]
  refine congrArg (f2_insert_L30 N i v xFU r.1) (Prod.ext rfl (funext fun j => ?_))
  show r.2 j = if r.1 < j ∧ j ≤ r.1 then r.2 (j - 1) else r.2 j
  rw [if_neg (by omega)]
theorem z2_add {N : Nat} {r : RowS} {v : Int} (h0 : 0 ≤ r.1) (hN : r.1 < (N : Int)) (hb : r.1 < 1000) (hNb : (N : Int) ≤ 1000) : f2_add N r v = some (r.1 + 1, x_up r.2 r.1 v) := by
  unfold f2_add
  rw [z_bind (z2_insert hN hb hNb h0 (by omega))]
  refine congrArg some (Prod.ext rfl (funext fun j => ?_))
  show zIns r.2 r.1 v r.1 j = x_up r.2 r.1 v j
  unfold zIns x_up
  by_cases q : j = r.1
  · rw [if_pos q, if_pos q]
  · rw [if_neg q, if_neg q, if_neg (by omega)]
def zRem (f : Int → Int) (i s : Int) : Int → Int := fun j => if i ≤ j ∧ j < s - 1 then f (j + 1) else f j
theorem z2_remL {N : Nat} {p s : Int} {f : Int → Int} (hb : s ≤ (N : Int)) (hN : s ≤ 100000) (hp : 0 ≤ p) : ∀ (m fu : Nat) (l : Int), p ≤ l → l + (m : Int) = s - 1 → m < fu → f2_remove_L15 N fu l (s, fun j => if p ≤ j ∧ j < l then f (j + 1) else f j) = some (s - 1, zRem f p s)
  | 0, 0, _, _, _, h => by omega
  | m + 1, 0, _, _, _, h => by omega
  | 0, fu + 1, l, hl, hs, _ => by
    unfold f2_remove_L15
    rw [z_ltF ⟨by omega, by omega⟩ ⟨by dsimp only; omega, by dsimp only; omega⟩ (by dsimp only; omega)]
    refine congrArg some (Prod.ext rfl (funext fun j => ?_))
    show (if p ≤ j ∧ j < l then f (j + 1) else f j) = zRem f p s j
    unfold zRem
    have e : l = s - 1 := by omega
    rw [e]
  | m + 1, fu + 1, l, hl, hs, h => by
    unfold f2_remove_L15
    rw [z_ltT ⟨by omega, by omega⟩ ⟨by dsimp only; omega, by dsimp only; omega⟩ (by dsimp only; omega), z_bind (z_ldT (by omega) (by omega)), z_bind (z_stT (by omega) (by omega))]
    rw [← z2_remL (f := f) hb hN hp m fu (l + 1) (by omega) (by omega) (by omega)]
    refine congrArg (f2_remove_L15 N fu (l + 1)) (Prod.ext rfl (funext fun j => ?_))
    show (if j = l then (if p ≤ l + 1 ∧ l + 1 < l then f (l + 1 + 1) else f (l + 1)) else if p ≤ j ∧ j < l then f (j + 1) else f j) = (if p ≤ j ∧ j < l + 1 then f (j + 1) else f j)
    by_cases q : j = l
    · subst q
      rw [if_pos rfl, if_neg (by omega), if_pos ⟨by omega, by omega⟩]
    · rw [if_neg q]
      by_cases w : p ≤ j ∧ j < l
      · rw [if_pos w, if_pos ⟨w.1, by omega⟩]
      · rw [if_neg w, if_neg (by omega)]
theorem z2_remove {N : Nat} {r : RowS} {i : Int} (hN : r.1 ≤ (N : Int)) (hb : r.1 ≤ 1000) (h0 : 0 ≤ i) (h1 : i < r.1) : f2_remove N r i = some (r.1 - 1, zRem r.2 i r.1) := by
  unfold f2_remove
  rw [z_ltF ⟨by omega, by omega⟩ (by decide) (by omega), z_ltT ⟨by omega, by omega⟩ ⟨by omega, by omega⟩ h1]
  rw [← z2_remL (N := N) (p := i) (s := r.1) (f := r.2) hN (by omega) h0 (r.1 - 1 - i).toNat xFU i (by omega) (by omega) (by unfold xFU; omega)]
  refine congrArg (f2_remove_L15 N xFU i) (Prod.ext rfl (funext fun j => ?_))
  show r.2 j = if i ≤ j ∧ j < i then r.2 (j + 1) else r.2 j
  rw [if_neg (by omega)]
theorem z2_idxL {N : Nat} {r : RowS} {v : Int} (hN : r.1 ≤ (N : Int)) (hb : r.1 ≤ 100000) (hv : xin v) (hx : ∀ j, 0 ≤ j → j < r.1 → xin (r.2 j)) : ∀ (m fu : Nat) (l : Int), 0 ≤ l → l + (m : Int) = r.1 → m < fu → (∀ j, 0 ≤ j → j < l → ¬ r.2 j = v) → ∃ t, f2_indexOf_L2 N r v fu l = some t ∧ zIdx r.2 r.1 v t
  | 0, 0, _, _, _, h, _ => by omega
  | m + 1, 0, _, _, _, h, _ => by omega
  | 0, fu + 1, l, h0, hl, _, hn => by
    unfold f2_indexOf_L2
    rw [z_ltF ⟨by omega, by omega⟩ ⟨by omega, by omega⟩ (by omega)]
    exact ⟨-1, rfl, Or.inl ⟨rfl, fun j a b => hn j a (by omega)⟩⟩
  | m + 1, fu + 1, l, h0, hl, hf, hn => by
    unfold f2_indexOf_L2
    rw [z_ltT ⟨by omega, by omega⟩ ⟨by omega, by omega⟩ (by omega), z_bind (z_ldT (by omega) (by omega))]
    by_cases q : r.2 l = v
    · rw [z_eqT (hx l h0 (by omega)) q]
      exact ⟨l, rfl, Or.inr ⟨h0, by omega, q, hn⟩⟩
    · rw [z_eqF (hx l h0 (by omega)) hv q]
      exact z2_idxL hN hb hv hx m fu (l + 1) (by omega) (by omega) (by omega) (fun j a b => by
        by_cases e : j = l
        · rw [e]; exact q
        · exact hn j a (by omega))
theorem z2_idx {N : Nat} {r : RowS} {v : Int} (h0 : 0 ≤ r.1) (hN : r.1 ≤ (N : Int)) (hb : r.1 ≤ 1000) (hv : xin v) (hx : ∀ j, 0 ≤ j → j < r.1 → xin (r.2 j)) : ∃ t, f2_indexOf N r v = some t ∧ zIdx r.2 r.1 v t :=
  z2_idxL hN (by omega) hv hx r.1.toNat xFU 0 (by omega) (by omega) (by unfold xFU; omega) (fun j a b => by omega)
theorem z2_idxAt {N : Nat} {r : RowS} {v t : Int} (h0 : 0 ≤ r.1) (hN : r.1 ≤ (N : Int)) (hb : r.1 ≤ 1000) (hv : xin v) (hx : ∀ j, 0 ≤ j → j < r.1 → xin (r.2 j)) (ht : zIdx r.2 r.1 v t) : f2_indexOf N r v = some t := by
  obtain ⟨t', h1, h2⟩ := z2_idx h0 hN hb hv hx
  rw [h1, zIdx_uniq h2 ht]
def zCpy (f g : Int → Int) (s : Int) : Int → Int := fun j => if 0 ≤ j ∧ j < s then g j else f j
theorem z2_copyL {N M : Nat} {s : Int} {f : Int → Int} {o : RowS} (hb : s ≤ (N : Int)) (hM : s ≤ (M : Int)) (hN : s ≤ 100000) : ∀ (m fu : Nat) (l : Int), 0 ≤ l → l + (m : Int) = s → m < fu → f2_copy_L18 N M o fu l (s, zCpy f o.2 l) = some (s, zCpy f o.2 s)
  | 0, 0, _, _, _, h => by omega
  | m + 1, 0, _, _, _, h => by omega
  | 0, fu + 1, l, hl, hs, _ => by
    unfold f2_copy_L18
    rw [z_ltF ⟨by omega, by omega⟩ ⟨by dsimp only; omega, by dsimp only; omega⟩ (by dsimp only; omega)]
    have e : l = s := by omega
    rw [e]
  | m + 1, fu + 1, l, hl, hs, h => by
    unfold f2_copy_L18
    rw [z_ltT ⟨by omega, by omega⟩ ⟨by dsimp only; omega, by dsimp only; omega⟩ (by dsimp only; omega), z_bind (z_ldT (by omega) (by omega)), z_bind (z_stT (by omega) (by omega))]
    rw [← z2_copyL (f := f) hb hM hN m fu (l + 1) (by omega) (by omega) (by omega)]
    refine congrArg (f2_copy_L18 N M o fu (l + 1)) (Prod.ext rfl (funext fun j => ?_))
    show (if j = l then o.2 l else zCpy f o.2 l j) = zCpy f o.2 (l + 1) j
    unfold zCpy
    by_cases q : j = l
    · subst q
      rw [if_pos rfl, if_pos ⟨by omega, by omega⟩]
    · rw [if_neg q]
      by_cases w : 0 ≤ j ∧ j < l
      · rw [if_pos w, if_pos ⟨w.1, by omega⟩]
      · rw [if_neg w, if_neg (by omega)]
theorem z2_copy {N M : Nat} {r o : RowS} (h0 : 0 ≤ o.1) (hN : o.1 ≤ (N : Int)) (hM : o.1 ≤ (M : Int)) (hb : (N : Int) ≤ 1000) : f2_copy N r M o = some (o.1, zCpy r.2 o.2 o.1) := by
  unfold f2_copy
  rw [z_bind (z_min ⟨by omega, by omega⟩ ⟨by omega, by omega⟩), if_neg (by omega)]
  rw [← z2_copyL (N := N) (M := M) (f := r.2) (o := o) hN hM (by omega) o.1.toNat xFU 0 (by omega) (by omega) (by unfold xFU; omega)]
  refine congrArg (f2_copy_L18 N M o xFU 0) (Prod.ext rfl (funext fun j => ?_))
  show r.2 j = zCpy r.2 o.2 0 j
  unfold zCpy
  rw [if_neg (by omega)]

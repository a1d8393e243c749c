/-! THE ABSTRACT WORLD: ints and longs are mathematical integers in the machine's range, objects and arrays are numbered from 1 on (address: base + number). -/
abbrev AV : Type := Int ⊕ (Int ⊕ Nat)
abbrev vi (x : Int) : AV := .inl x
abbrev vl (x : Int) : AV := .inr (.inl x)
abbrev vr (q : Nat) : AV := .inr (.inr q)
/-- ghosts: class ids and slot numbers; ids of the array classes; base; addresses of what isn't numbered -/
abbrev Gh : Type := va_G × (Nat → ClassId) × Nat × (Nat → Nat)
abbrev gD (G : Gh) : va_G := G.1
abbrev gC (G : Gh) : Nat → ClassId := G.2.1
abbrev gB (G : Gh) : Nat := G.2.2.1
abbrev gA (G : Gh) : Nat → Nat := G.2.2.2
/-- a world: how many cells, their shapes ((0, class) or (kind of array, length)), ints, longs, references -/
abbrev Wo : Type := Nat × (Nat → Nat × Nat) × (Nat → Nat → Int) × (Nat → Nat → Int) × (Nat → Nat → Nat)
def wn (w : Wo) : Nat := w.1
def wsh (w : Wo) (q : Nat) : Nat × Nat := w.2.1 q
def gI (w : Wo) (o k : Nat) : Int := w.2.2.1 o k
def gJ (w : Wo) (o k : Nat) : Int := w.2.2.2.1 o k
def gP (w : Wo) (o k : Nat) : Nat := w.2.2.2.2 o k
def up2 {α : Type} (f : Nat → Nat → α) (o k : Nat) (v : α) : Nat → Nat → α := fun b j => if b = o ∧ j = k then v else f b j
def uI (w : Wo) (o k : Nat) (v : Int) : Wo := (w.1, w.2.1, up2 w.2.2.1 o k v, w.2.2.2.1, w.2.2.2.2)
def uJ (w : Wo) (o k : Nat) (v : Int) : Wo := (w.1, w.2.1, w.2.2.1, up2 w.2.2.2.1 o k v, w.2.2.2.2)
def uP (w : Wo) (o k : Nat) (v : Nat) : Wo := (w.1, w.2.1, w.2.2.1, w.2.2.2.1, up2 w.2.2.2.2 o k v)
def zr2 {α : Type} (f : Nat → Nat → α) (z : α) (o : Nat) : Nat → Nat → α := fun b j => if b = o then z else f b j
/-- one new cell of this shape, its contents 0 -/
def nw (w : Wo) (sh : Nat × Nat) : Wo := (w.1 + 1, (fun q => if q = w.1 + 1 then sh else w.2.1 q), zr2 w.2.2.1 0 (w.1 + 1), zr2 w.2.2.2.1 0 (w.1 + 1), zr2 w.2.2.2.2 0 (w.1 + 1))
theorem gI_uI (w : Wo) (o k b j : Nat) (v : Int) : gI (uI w o k v) b j = if b = o ∧ j = k then v else gI w b j := rfl
theorem gI_uJ (w : Wo) (o k b j : Nat) (v : Int) : gI (uJ w o k v) b j = gI w b j := rfl
theorem gI_uP (w : Wo) (o k b j : Nat) (v : Nat) : gI (uP w o k v) b j = gI w b j := rfl
theorem gJ_uI (w : Wo) (o k b j : Nat) (v : Int) : gJ (uI w o k v) b j = gJ w b j := rfl
theorem gJ_uJ (w : Wo) (o k b j : Nat) (v : Int) : gJ (uJ w o k v) b j = if b = o ∧ j = k then v else gJ w b j := rfl
theorem gJ_uP (w : Wo) (o k b j : Nat) (v : Nat) : gJ (uP w o k v) b j = gJ w b j := rfl
theorem gP_uI (w : Wo) (o k b j : Nat) (v : Int) : gP (uI w o k v) b j = gP w b j := rfl
theorem gP_uJ (w : Wo) (o k b j : Nat) (v : Int) : gP (uJ w o k v) b j = gP w b j := rfl
theorem gP_uP (w : Wo) (o k b j : Nat) (v : Nat) : gP (uP w o k v) b j = if b = o ∧ j = k then v else gP w b j := rfl
abbrev inr32 (x : Int) : Prop := -2147483648 ≤ x ∧ x < 2147483648
abbrev inr64 (x : Int) : Prop := -9223372036854775808 ≤ x ∧ x < 9223372036854775808
def InS (w : Wo) : Prop := (∀ o k, inr32 (gI w o k)) ∧ ∀ o k, inr64 (gJ w o k)
theorem InS.uI {w : Wo} (h : InS w) {o k : Nat} {v : Int} (hv : inr32 v) : InS (uI w o k v) := by
  refine ⟨fun b j => ?_, h.2⟩
  rw [gI_uI]
  split
  · exact hv
  · exact h.1 b j
theorem InS.uJ {w : Wo} (h : InS w) {o k : Nat} {v : Int} (hv : inr64 v) : InS (uJ w o k v) := by
  refine ⟨h.1, fun b j => ?_⟩
  rw [gJ_uJ]
  split
  · exact hv
  · exact h.2 b j
theorem InS.nw {w : Wo} (h : InS w) (sh : Nat × Nat) : InS (nw w sh) := by
  refine ⟨fun b j => ?_, fun b j => ?_⟩
  · show inr32 (zr2 w.2.2.1 0 (w.1 + 1) b j)
    unfold zr2
    split
    · decide
    · exact h.1 b j
  · show inr64 (zr2 w.2.2.2.1 0 (w.1 + 1) b j)
    unfold zr2
    split
    · decide
    · exact h.2 b j
/-- cell q has this shape -/
def oq (w : Wo) (q : Nat) (sh : Nat × Nat) : Prop := 0 < q ∧ q ≤ wn w ∧ wsh w q = sh
/-- cell a is an array of kind t, i is one of its places -/
def inA (w : Wo) (a t : Nat) (i : Int) : Prop := 0 < a ∧ a ≤ wn w ∧ (wsh w a).1 = t ∧ 0 ≤ i ∧ i < (wsh w a).2 ∧ (wsh w a).2 < 2147483648
def okv : AV → Prop
  | .inl x => inr32 x
  | .inr (.inl x) => inr64 x
  | .inr (.inr _) => True
def cr (G : Gh) (q : Nat) : Option Nat := if q = 0 then none else if q ≤ 1000 then some (gB G + q) else some (gA G q)
def cv (G : Gh) : AV → Value
  | .inl x => .int (Int32.ofInt x)
  | .inr (.inl x) => .long (Int64.ofInt x)
  | .inr (.inr q) => va_rf (cr G q)
theorem cr_pos {G : Gh} {q : Nat} (h : 0 < q) (h2 : q ≤ 1000) : cr G q = some (gB G + q) := by
  unfold cr
  rw [if_neg (by omega), if_pos h2]
theorem cv_ref {G : Gh} {q : Nat} (h : 0 < q) (h2 : q ≤ 1000) : cv G (vr q) = .ref (gB G + q) := by
  show va_rf (cr G q) = _
  rw [cr_pos h h2]
  rfl
/-- a field's value as the cell holds it -/
def fv (G : Gh) (w : Wo) (q k : Nat) : Nat → Value
  | 2 => .long (Int64.ofInt (gJ w q k))
  | 5 => va_rf (cr G (gP w q k))
  | _ => .int (Int32.ofInt (gI w q k))
def fsL (G : Gh) (w : Wo) (q : Nat) (ty : Nat → Nat) (n : Nat) : List Value := (List.range n).map (fun k => fv G w q k (ty k))
theorem fsL_get {G : Gh} {w : Wo} {q : Nat} {ty : Nat → Nat} {n k : Nat} (h : k < n) : (fsL G w q ty n)[k]? = some (fv G w q k (ty k)) := by
  simp [fsL, h]
theorem fsL_len {G : Gh} {w : Wo} {q : Nat} {ty : Nat → Nat} {n : Nat} : (fsL G w q ty n).length = n := by simp [fsL]
def cE (G : Gh) (w : Wo) (q : Nat) : va_E := match (wsh w q).1 with
  | 0 => .inr ((wsh w q).2, fsL G w q (fty (wsh w q).2) (nf (wsh w q).2))
  | 2 => .inl (gC G 2, (wsh w q).2, .inr (.inl (fun j => Int64.ofInt (gJ w q j))))
  | 5 => .inl (gC G 5, (wsh w q).2, .inr (.inr (.inr (.inr (fun j => cr G (gP w q j))))))
  | t => .inl (gC G t, (wsh w q).2, .inl (fun j => Int32.ofInt (gI w q j)))
def wL (G : Gh) (w : Wo) : va_W := (List.range (wn w)).map (fun i => (gB G + (i + 1), cE G w (i + 1)))
theorem wL_get {G : Gh} {w : Wo} {q : Nat} (h : 0 < q) (h2 : q ≤ wn w) : (wL G w)[q - 1]? = some (gB G + q, cE G w q) := by
  have h3 : q - 1 < wn w := by omega
  have h4 : q - 1 + 1 = q := by omega
  simp [wL, h3, h4]
theorem wL_at {G : Gh} {w : Wo} {k : Nat} {x : Nat × va_E} (h : (wL G w)[k]? = some x) : k < wn w ∧ x = (gB G + (k + 1), cE G w (k + 1)) := by
  have hk : k < wn w := by
    have := (List.getElem?_eq_some_iff.mp h).1
    simpa [wL] using this
  refine ⟨hk, ?_⟩
  simp [wL, hk] at h
  exact h.symm
theorem wL_len (G : Gh) (w : Wo) : (wL G w).length = wn w := by simp [wL]
/-- what a method may change -/
def fr (B n sz : Nat) : Nat → Prop := fun q => (B < q ∧ q ≤ B + n) ∨ sz ≤ q
theorem wL_D {G : Gh} {w : Wo} {n0 sz : Nat} (h : wn w ≤ n0 ∨ sz ≤ gB G + n0 + 1) : va_D (fr (gB G) n0 sz) (wL G w) := by
  refine ⟨fun i j x y hx hy e => ?_, fun k x hx => ?_⟩
  · obtain ⟨-, rfl⟩ := wL_at hx
    obtain ⟨-, rfl⟩ := wL_at hy
    have e : gB G + (i + 1) = gB G + (j + 1) := e
    omega
  · obtain ⟨hk, rfl⟩ := wL_at hx
    show (_ ∧ _) ∨ _
    show (gB G < gB G + (k + 1) ∧ gB G + (k + 1) ≤ gB G + n0) ∨ sz ≤ gB G + (k + 1)
    omega
theorem cE_congr {G : Gh} {w w' : Wo} {q : Nat} (hs : wsh w' q = wsh w q) (hI : ∀ j, gI w' q j = gI w q j) (hJ : ∀ j, gJ w' q j = gJ w q j) (hP : ∀ j, gP w' q j = gP w q j) : cE G w' q = cE G w q := by
  have hf : ∀ (ty : Nat → Nat) (n : Nat), fsL G w' q ty n = fsL G w q ty n := by
    intro ty n
    unfold fsL
    refine List.map_congr_left (fun k _ => ?_)
    unfold fv
    split
    · rw [hJ]
    · rw [hP]
    · rw [hI]
  unfold cE
  rw [hs]
  split
  · rw [hf]
  · simp only [hJ]
  · simp only [hP]
  · simp only [hI]
/-- a list that is the world's but at one cell is the changed world's -/
theorem wL_set {G : Gh} {w w' : Wo} {q : Nat} {e : va_E} (h : 0 < q) (hn : wn w' = wn w) (he : cE G w' q = e) (ho : ∀ b, b ≠ q → cE G w' b = cE G w b) : (wL G w).set (q - 1) (gB G + q, e) = wL G w' := by
  apply List.ext_getElem?
  intro i
  rw [List.getElem?_set]
  by_cases hi : q - 1 = i
  · subst hi
    rw [if_pos rfl]
    by_cases hl : q ≤ wn w
    · rw [if_pos (by rw [wL_len]; omega), wL_get h (by rw [hn]; exact hl), he]
    · rw [if_neg (by rw [wL_len]; omega)]
      symm
      rw [List.getElem?_eq_none_iff, wL_len]
      omega
  · rw [if_neg hi]
    by_cases hl : i < wn w
    · have h1 := wL_get (G := G) (w := w) (q := i + 1) (by omega) (by omega)
      have h2 := wL_get (G := G) (w := w') (q := i + 1) (by omega) (by omega)
      rw [Nat.add_sub_cancel] at h1 h2
      rw [h1, h2, ho (i + 1) (by omega)]
    · rw [List.getElem?_eq_none (by rw [wL_len]; omega), List.getElem?_eq_none (by rw [wL_len, hn]; omega)]
theorem fsL_set {G : Gh} {w w' : Wo} {q : Nat} {ty : Nat → Nat} {n k : Nat} {v : Value} (hk : k < n) (hv : fv G w' q k (ty k) = v) (ho : ∀ j, j ≠ k → fv G w' q j (ty j) = fv G w q j (ty j)) : (fsL G w q ty n).set k v = fsL G w' q ty n := by
  apply List.ext_getElem?
  intro i
  rw [List.getElem?_set]
  by_cases hi : k = i
  · subst hi
    rw [if_pos rfl, if_pos (by rw [fsL_len]; exact hk), fsL_get hk, hv]
  · rw [if_neg hi]
    by_cases hl : i < n
    · rw [fsL_get hl, fsL_get hl, ho i (fun e => hi e.symm)]
    · rw [List.getElem?_eq_none (by rw [fsL_len]; omega), List.getElem?_eq_none (by rw [fsL_len]; omega)]

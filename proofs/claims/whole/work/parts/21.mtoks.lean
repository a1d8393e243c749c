/-! the reference's tokens: one token, and how it answers to the class's -/
def cN : Nat → Nat → Nat
  | 0, _ => 0
  | f + 1, x => cN f (x / 128) * 256 + x % 128
theorem cN_z : ∀ f, cN f 0 = 0 := by
  intro f
  induction f with
  | zero => rfl
  | succ f ih => show cN f (0 / 128) * 256 + 0 % 128 = 0; rw [Nat.zero_div, ih]
theorem cN_s (f a d : Nat) (h : d < 128) : cN (f + 1) (a * 128 + d) = cN f a * 256 + d := by
  show cN f ((a * 128 + d) / 128) * 256 + (a * 128 + d) % 128 = _
  rw [show (a * 128 + d) / 128 = a by omega, show (a * 128 + d) % 128 = d by omega]
theorem cN_pk {c : Nat → Int} : ∀ (k p a f : Nat), (∀ i, p ≤ i → i < p + k → (c i).toNat < 128) → cN (f + k) (pkT 128 c k p a) = pkT 256 c k p (cN f a) := by
  intro k
  induction k with
  | zero => intro p a f _; rfl
  | succ k ih =>
    intro p a f h
    show cN (f + (k + 1)) (pkT 128 c k (p + 1) (a * 128 + (c p).toNat)) = pkT 256 c k (p + 1) (cN f a * 256 + (c p).toNat)
    rw [show f + (k + 1) = f + 1 + k by omega, ih (p + 1) _ (f + 1) (fun i h1 h2 => h i (by omega) (by omega)), cN_s f a _ (h p (by omega) (by omega))]
theorem cN_inj : ∀ f x y, x < 128 ^ f → y < 128 ^ f → cN f x = cN f y → x = y := by
  intro f
  induction f with
  | zero => intro x y hx hy _; rw [Nat.pow_zero] at hx hy; omega
  | succ f ih =>
    intro x y hx hy h
    rw [Nat.pow_succ] at hx hy
    have h : cN f (x / 128) * 256 + x % 128 = cN f (y / 128) * 256 + y % 128 := h
    have h1 := ih (x / 128) (y / 128) (by omega) (by omega) (by omega)
    omega
theorem cN_lt : ∀ f x, cN f x < 256 ^ f := by
  intro f
  induction f with
  | zero => intro x; exact Nat.zero_lt_one
  | succ f ih =>
    intro x
    have := ih (x / 128)
    show cN f (x / 128) * 256 + x % 128 < _
    rw [Nat.pow_succ]
    omega
/-- a name as the reference packs it, of the class's packing -/
def c8 (x : Int) : Int := (cN 6 x.toNat : Nat)
theorem c8_inj {x y : Int} (hx : 0 ≤ x ∧ x < 4398046511104) (hy : 0 ≤ y ∧ y < 4398046511104) : c8 x = c8 y ↔ x = y := by
  constructor
  · intro h
    have h : ((cN 6 x.toNat : Nat) : Int) = ((cN 6 y.toNat : Nat) : Int) := h
    have := cN_inj 6 x.toNat y.toNat (by omega) (by omega) (by omega)
    omega
  · intro h; rw [h]
theorem c8_rng (x : Int) : 0 ≤ c8 x ∧ c8 x < 281474976710656 := by
  have := cN_lt 6 x.toNat
  unfold c8
  omega
theorem pkT_app {B : Nat} {c : Nat → Int} : ∀ (k p a : Nat), pkT B c (k + 1) p a = pkT B c k p a * B + (c (p + k)).toNat := by
  intro k
  induction k with
  | zero => intro p a; rfl
  | succ k ih =>
    intro p a
    show pkT B c (k + 1) (p + 1) (a * B + (c p).toNat) = pkT B c k (p + 1) (a * B + (c p).toNat) * B + (c (p + (k + 1))).toNat
    rw [ih, show p + 1 + k = p + (k + 1) by omega]
theorem nmA_app {c : Nat → Int} : ∀ (k p a : Nat), nmA c (k + 1) p a = nmA c k p a * 10 + (c (p + k) - 48).toNat := by
  intro k
  induction k with
  | zero => intro p a; rfl
  | succ k ih =>
    intro p a
    show nmA c (k + 1) (p + 1) (a * 10 + (c p - 48).toNat) = nmA c k (p + 1) (a * 10 + (c p - 48).toNat) * 10 + (c (p + (k + 1)) - 48).toNat
    rw [ih, show p + 1 + k = p + (k + 1) by omega]
theorem pkT_lt {B : Nat} {c : Nat → Int} : ∀ (k p : Nat), (∀ i, p ≤ i → i < p + k → (c i).toNat < B) → pkT B c k p 0 < B ^ k := by
  intro k
  induction k with
  | zero => intro p _; exact Nat.zero_lt_one
  | succ k ih =>
    intro p h
    rw [pkT_app, Nat.pow_succ]
    have h1 := ih p (fun i h1 h2 => h i h1 (by omega))
    have h2 := h (p + k) (by omega) (by omega)
    have h3 : (pkT B c k p 0 + 1) * B ≤ B ^ k * B := Nat.mul_le_mul_right B h1
    rw [Nat.succ_mul] at h3
    omega
theorem nmA_lt {c : Nat → Int} : ∀ (k p : Nat), (∀ i, p ≤ i → i < p + k → 48 ≤ c i ∧ c i ≤ 57) → nmA c k p 0 < 10 ^ k := by
  intro k
  induction k with
  | zero => intro p _; exact Nat.zero_lt_one
  | succ k ih =>
    intro p h
    rw [nmA_app, Nat.pow_succ]
    have h1 := ih p (fun i h1 h2 => h i h1 (by omega))
    have h2 := h (p + k) (by omega) (by omega)
    omega
/-- token of the class (kind k, value x) and of the reference (kind mk, code mc, value mv) -/
def TokRel (k x mk mc mv : Int) : Prop :=
  (k = 0 ∧ mk = 0) ∨ (k = 1 ∧ (mk = 6 ∨ mk = 4 ∧ mc = 63)) ∨ (k = 2 ∧ mk = 1 ∧ mv = c8 x ∧ 0 ≤ x ∧ x < 4398046511104) ∨ (k = 3 ∧ mk = 2 ∧ mv = c8 x ∧ 0 ≤ x ∧ x < 268435456) ∨ (k = 4 ∧ mk = 3 ∧ mv = x ∧ 0 ≤ x ∧ x < 1000000000)
  ∨ (k = 5 ∧ mk = 4 ∧ mc = 40) ∨ (k = 6 ∧ mk = 4 ∧ mc = 41) ∨ (k = 7 ∧ mk = 4 ∧ mc = 44) ∨ (k = 8 ∧ mk = 4 ∧ mc = 46) ∨ (k = 9 ∧ mk = 4 ∧ mc = 33) ∨ (k = 10 ∧ mk = 4 ∧ mc = 95) ∨ (k = 11 ∧ mk = 4 ∧ mc = 300) ∨ (k = 12 ∧ mk = 4 ∧ mc = 61)
  ∨ (k = 13 ∧ mk = 4 ∧ (mc = 301 ∨ mc = 302 ∨ mc = 303 ∨ mc = 60 ∨ mc = 62)) ∨ (k = 14 ∧ mk = 4 ∧ mc = 45) ∨ (k = 15 ∧ mk = 4 ∧ (mc = 43 ∨ mc = 42 ∨ mc = 47 ∨ mc = 37)) ∨ (k = 16 ∧ mk = 5 ∧ mc = 1) ∨ (k = 17 ∧ mk = 5 ∧ mc = x + 1 ∧ 1 ≤ x ∧ x ≤ 4)
theorem TR_bad {x mc mv : Int} : TokRel 1 x 6 mc mv := Or.inr (Or.inl ⟨rfl, Or.inl rfl⟩)
theorem TR_nm {x mc mv : Int} (h : mv = c8 x) (h0 : 0 ≤ x ∧ x < 4398046511104) : TokRel 2 x 1 mc mv := Or.inr (Or.inr (Or.inl ⟨rfl, rfl, h, h0⟩))
theorem TR_vr {x mc mv : Int} (h : mv = c8 x) (h0 : 0 ≤ x ∧ x < 268435456) : TokRel 3 x 2 mc mv := Or.inr (Or.inr (Or.inr (Or.inl ⟨rfl, rfl, h, h0⟩)))
theorem TR_nu {x mc mv : Int} (h : mv = x) (h0 : 0 ≤ x ∧ x < 1000000000) : TokRel 4 x 3 mc mv := Or.inr (Or.inr (Or.inr (Or.inr (Or.inl ⟨rfl, rfl, h, h0⟩))))
theorem TR_is {x mv : Int} : TokRel 16 x 5 1 mv := by unfold TokRel; simp
theorem TR_to {x mc mv : Int} (h : mc = x + 1) (h1 : 1 ≤ x ∧ x ≤ 4) : TokRel 17 x 5 mc mv := by unfold TokRel; simp [h, h1.1, h1.2]
theorem TR_sg {x a mv : Int} (h : a = 40 ∨ a = 41 ∨ a = 44 ∨ a = 46 ∨ a = 63 ∨ a = 33 ∨ a = 95 ∨ a = 61 ∨ a = 60 ∨ a = 62 ∨ a = 43 ∨ a = 45 ∨ a = 42 ∨ a = 47 ∨ a = 37) : TokRel (signK a) x 4 a mv := by
  rcases h with h | h | h | h | h | h | h | h | h | h | h | h | h | h | h <;> subst h <;> unfold TokRel signK <;> simp
theorem TR_ns {x a mv : Int} (h : ¬ (a = 40 ∨ a = 41 ∨ a = 44 ∨ a = 46 ∨ a = 63 ∨ a = 33 ∨ a = 95 ∨ a = 61 ∨ a = 60 ∨ a = 62 ∨ a = 43 ∨ a = 45 ∨ a = 42 ∨ a = 47 ∨ a = 37)) : TokRel (signK a) x 6 a mv := by
  simp only [not_or] at h
  have e : signK a = 1 := by
    unfold signK
    simp only [h, if_false]
  rw [e]
  exact TR_bad

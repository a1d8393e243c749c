/-! THE PURE READER: what a run of tokens says -/
abbrev Tks : Type := Nat → Int × Int × Int
abbrev PL : Type := List (Int × Int)
/-- kind, place, asked, equation, terms -/
abbrev Lit : Type := Int × Int × Int × Int × List Int
/-- head, variables, total, the total's place, body -/
abbrev Rul : Type := Int × Int × Int × Int × List Lit
def tK (T : Tks) (i : Nat) : Int := (T i).1
def tP (T : Tks) (i : Nat) : Int := (T i).2.1
def tV (T : Tks) (i : Nat) : Int := (T i).2.2
def tokOK (t : Int × Int × Int) : Prop := 0 ≤ t.1 ∧ t.1 ≤ 17 ∧ (t.1 = 2 → 0 ≤ t.2.2 ∧ t.2.2 < 4398046511104) ∧ (t.1 = 3 → 0 ≤ t.2.2 ∧ t.2.2 < 268435456) ∧ (t.1 = 4 → 0 ≤ t.2.2 ∧ t.2.2 < 1000000000) ∧ (t.1 = 17 → 1 ≤ t.2.2 ∧ t.2.2 ≤ 4)
def TOk (T : Tks) (nb : Nat) : Prop := nb ≤ 600 ∧ (tK T nb = 0 ∨ tK T nb = 1) ∧ (∀ i, i ≤ nb → tokOK (T i)) ∧ (∀ i, i < nb → tP T i < tP T (i + 1)) ∧ 0 ≤ tP T 0 ∧ tP T nb ≤ 600
theorem TOk.lt {T : Tks} {nb a : Nat} (h : TOk T nb) (ha : a ≤ nb) (h0 : tK T a ≠ 0) (h1 : tK T a ≠ 1) : a < nb := by
  by_cases e : a = nb
  · subst e
    rcases h.2.1 with h2 | h2
    · exact absurd h2 h0
    · exact absurd h2 h1
  · omega
theorem TOk.mono {T : Tks} {nb : Nat} (h : TOk T nb) : ∀ j i, i < j → j ≤ nb → tP T i < tP T j := by
  intro j
  induction j with
  | zero => intro i hi _; omega
  | succ j ih =>
    intro i hi hj
    have h1 := h.2.2.2.1 j (by omega)
    by_cases e : i = j
    · rw [e]; exact h1
    · have := ih i (by omega) (by omega)
      omega
theorem TOk.pl {T : Tks} {nb i : Nat} (h : TOk T nb) (hi : i ≤ nb) : 0 ≤ tP T i ∧ tP T i ≤ 600 := by
  have h1 := h.2.2.2.2.1
  have h2 := h.2.2.2.2.2
  by_cases e0 : i = 0
  · subst e0
    by_cases e : 0 = nb
    · rw [← e] at h2; omega
    · have := h.mono nb 0 (by omega) (Nat.le_refl _); omega
  · have h3 := h.mono i 0 (by omega) hi
    by_cases e : i = nb
    · rw [e] at h3 ⊢; omega
    · have := h.mono nb i (by omega) (Nat.le_refl _); omega
/-- the first of this name, or how many there are -/
def fi : PL → Int → Nat
  | [], _ => 0
  | y :: r, x => if y.1 = x then 0 else fi r x + 1
theorem fi_le : ∀ (L : PL) (x : Int), fi L x ≤ L.length := by
  intro L
  induction L with
  | nil => intro x; exact Nat.le_refl _
  | cons y r ih =>
    intro x
    show (if y.1 = x then 0 else fi r x + 1) ≤ r.length + 1
    split
    · omega
    · have := ih x; omega
theorem fi_at : ∀ (L : PL) (x : Int) (i : Nat) (y : Int × Int), (∀ j z, j < i → L[j]? = some z → z.1 ≠ x) → L[i]? = some y → y.1 = x → fi L x = i := by
  intro L
  induction L with
  | nil => intro x i y _ hy _; cases hy
  | cons z r ih =>
    intro x i y hj hy hx
    cases i with
    | zero =>
      have : z = y := by simpa using hy
      subst this
      exact if_pos hx
    | succ i =>
      have h0 := hj 0 z (by omega) rfl
      show (if z.1 = x then 0 else fi r x + 1) = i + 1
      rw [if_neg h0, ih x i y (fun j z' h1 h2 => hj (j + 1) z' (by omega) (by simpa using h2)) (by simpa using hy) hx]
theorem fi_no : ∀ (L : PL) (x : Int), (∀ (j : Nat) (z : Int × Int), L[j]? = some z → z.1 ≠ x) → fi L x = L.length := by
  intro L
  induction L with
  | nil => intro x _; rfl
  | cons z r ih =>
    intro x hj
    show (if z.1 = x then 0 else fi r x + 1) = r.length + 1
    rw [if_neg (hj 0 z rfl), ih x (fun j z' h2 => hj (j + 1) z' (by simpa using h2))]
theorem fi_spec : ∀ (L : PL) (x : Int), (∀ (j : Nat) (z : Int × Int), j < fi L x → L[j]? = some z → z.1 ≠ x) ∧ ∀ y, L[fi L x]? = some y → y.1 = x := by
  intro L
  induction L with
  | nil => intro x; exact ⟨fun j z hj hz => by simp at hz, fun y hy => by simp at hy⟩
  | cons z r ih =>
    intro x
    by_cases h : z.1 = x
    · have e : fi (z :: r) x = 0 := if_pos h
      rw [e]
      exact ⟨fun j z' hj _ => by omega, fun y hy => by have : z = y := by simpa using hy
                                                       rw [← this]; exact h⟩
    · have e : fi (z :: r) x = fi r x + 1 := if_neg h
      rw [e]
      obtain ⟨a, b⟩ := ih x
      refine ⟨fun j z' hj hz => ?_, fun y hy => b y (by simpa using hy)⟩
      cases j with
      | zero =>
        have : z = z' := by simpa using hz
        rw [← this]; exact h
      | succ j => exact a j z' (by omega) (by simpa using hz)
def pVar (V : PL) (x p : Int) : Option (Nat × PL) := if fi V x < V.length then some (fi V x, V) else if V.length < 8 then some (V.length, V ++ [(x, p)]) else none
def pTerm0 (T : Tks) (V : PL) (a : Nat) : Int ⊕ (Int × PL × Nat) :=
  if tK T a = 4 then .inr (tV T a, V, a + 1)
  else if tK T a = 2 then .inr (17592186044416 + tV T a, V, a + 1)
  else if tK T a = 3 then (match pVar V (tV T a) (tP T a) with
    | some (i, V') => .inr (281474976710656 + (i : Int), V', a + 1)
    | none => .inl (tP T a))
  else .inl (tP T a)
def pTerm (T : Tks) (V : PL) (a : Nat) : Int ⊕ (Int × PL × Nat) :=
  if tK T a = 14 then (if tK T (a + 1) = 4 then .inr (- tV T (a + 1), V, a + 2) else .inl (tP T (a + 1)))
  else pTerm0 T V a
def pTot (T : Tks) (V : PL) (a : Nat) : Int ⊕ (Int × PL × Nat) :=
  if tK T (a + 1) = 5 then (if tK T (a + 2) = 3 then (match pVar V (tV T (a + 2)) (tP T (a + 2)) with
    | some (i, V') => if tK T (a + 3) = 6 then .inr (281474976710656 + (i : Int), V', a + 4) else .inl (tP T (a + 3))
    | none => .inl (tP T (a + 2))) else .inl (tP T (a + 2))) else .inl (tP T (a + 1))
/-- one argument: a term, a total (hd), anything (any) -/
def pArg (T : Tks) (hd any : Bool) (V : PL) (tot : Int × Int) (a : Nat) : Int ⊕ (Int × PL × (Int × Int) × Nat) :=
  if tK T a = 17 then (if hd = true ∧ tot.1 ≤ 0 then (match pTot T V a with
    | .inl p => .inl p
    | .inr (t, V', a') => .inr (t, V', (tV T a, tP T a), a')) else .inl (tP T a))
  else if tK T a = 10 then (if any = true then .inr (4503599627370496, V, tot, a + 1) else .inl (tP T a))
  else (match pTerm T V a with
    | .inl p => .inl p
    | .inr (t, V', a') => .inr (t, V', tot, a'))
def pArgs (T : Tks) (hd any : Bool) : Nat → List Int → PL → Int × Int → Nat → Int ⊕ (List Int × PL × (Int × Int) × Nat)
  | 0, _, _, _, a => .inl (tP T a)
  | k + 1, ar, V, tot, a => match pArg T hd any V tot a with
    | .inl p => .inl p
    | .inr (t, V', tot', a') => if tK T a' = 6 then .inr (ar ++ [t], V', tot', a' + 1) else if tK T a' = 7 then pArgs T hd any k (ar ++ [t]) V' tot' (a' + 1) else .inl (tP T a')
def pAtom (T : Tks) (P : PL) (hd any : Bool) (V : PL) (tot : Int × Int) (a : Nat) : Int ⊕ (List Int × PL × (Int × Int) × Nat) :=
  if tK T a = 2 ∧ (fi P (tV T a) < P.length ∨ P.length < 16) then (if tK T (a + 1) = 5 then pArgs T hd any 4 [] V tot (a + 2) else .inl (tP T (a + 1))) else .inl (tP T a)
/-- the predicates with this one, which has s arguments here -/
def rgP (P : PL) (x s : Int) : PL := if fi P x < P.length then P else P ++ [(x, s)]
def szAt (P : PL) (i : Nat) : Int := (P.getD i (0, 0)).2
def nt (f : Int × Int) (k p : Int) : Int × Int := if f.1 = 0 ∨ p < f.2 then (k, p) else f
def ntS (f : Int × Int) (P : PL) (x s p : Int) : Int × Int := if fi P x < P.length ∧ szAt P (fi P x) ≠ s then nt f 2 p else f
/-- a relation or an is -/
def pTest (T : Tks) (V : PL) (a : Nat) : Int ⊕ (Lit × PL × Nat) :=
  match pTerm T V a with
  | .inl p => .inl p
  | .inr (t1, V1, a1) =>
    if tK T a = 3 ∧ tK T a1 = 16 then (match pTerm T V1 (a1 + 1) with
      | .inl p => .inl p
      | .inr (t2, V2, a2) => if tK T a2 = 14 ∨ tK T a2 = 15 then (match pTerm T V2 (a2 + 1) with
        | .inl p => .inl p
        | .inr (t3, V3, a3) => .inr ((3, tP T a, -1, 0, [t1, t2, t3]), V3, a3)) else .inl (tP T a2))
    else if tK T a1 = 12 ∨ tK T a1 = 13 then (match pTerm T V1 (a1 + 1) with
      | .inl p => .inl p
      | .inr (t2, V2, a2) => .inr ((2, tP T a, -1, (if tK T a1 = 12 then 1 else 0), [t1, t2]), V2, a2))
    else .inl (tP T a1)
/-- what is read of a body: literals, predicates, variables, atoms, fault -/
abbrev BSt : Type := List Lit × PL × PL × Nat × (Int × Int)
def pLit (T : Tks) (tot : Int × Int) (s : BSt) (a : Nat) : Int ⊕ (BSt × Nat) :=
  if tK T a = 9 then (match pAtom T s.2.1 false true s.2.2.1 tot (a + 1) with
    | .inl p => .inl p
    | .inr (ar, V', _, a') => .inr ((s.1 ++ [((1 : Int), tP T a, ((fi s.2.1 (tV T (a + 1)) : Nat) : Int), (0 : Int), ar)], rgP s.2.1 (tV T (a + 1)) ar.length, V', s.2.2.2.1, ntS s.2.2.2.2 s.2.1 (tV T (a + 1)) ar.length (tP T (a + 1))), a'))
  else if tK T a = 2 ∧ tK T (a + 1) = 5 then (if s.2.2.2.1 < 3 then (match pAtom T s.2.1 false (decide (tot.1 ≤ 0)) s.2.2.1 tot a with
    | .inl p => .inl p
    | .inr (ar, V', _, a') => .inr ((s.1 ++ [((0 : Int), tP T a, ((fi s.2.1 (tV T a) : Nat) : Int), (0 : Int), ar)], rgP s.2.1 (tV T a) ar.length, V', s.2.2.2.1 + 1, ntS s.2.2.2.2 s.2.1 (tV T a) ar.length (tP T a)), a')) else .inl (tP T a))
  else (match pTest T s.2.2.1 a with
    | .inl p => .inl p
    | .inr (l, V', a') => .inr ((s.1 ++ [l], s.2.1, V', s.2.2.2.1, s.2.2.2.2), a'))
def pBody (T : Tks) (tot : Int × Int) : Nat → BSt → Nat → Int ⊕ (BSt × Nat)
  | 0, _, a => .inl (tP T a)
  | k + 1, s, a => match pLit T tot s a with
    | .inl p => .inl p
    | .inr (s', a') => if tK T a' = 8 then .inr (s', a') else if tK T a' = 7 then pBody T tot k s' (a' + 1) else .inl (tP T a')
/-- where a head without a body is open, if it is -/
def opn (V : PL) (tot : Int × Int) : Option Int := match V with
  | [] => none
  | y :: _ => some (if tot.1 ≤ 0 then y.2 else if y.2 < tot.2 then y.2 else tot.2)

/-! THE PLAN, pure; the class's plan -/
abbrev ANYT : Int := 4503599627370496
def isV (x : Int) : Prop := 281474976710656 ≤ x ∧ x < 4503599627370496
def vbN (x : Int) : Nat := if 281474976710656 ≤ x ∧ x < 4503599627370496 then 2 ^ (x - 281474976710656).toNat else 0
theorem vb_N (x : Int) : vb x = ((vbN x : Nat) : Int) := by
  unfold vb vbN
  split <;> rfl
theorem vbN_lt {t : Int} (h : tmOK t) : vbN t < 256 := by
  unfold vbN
  split
  · rename_i hc
    have h8 : (t - 281474976710656).toNat < 8 := by
      unfold tmOK at h
      omega
    exact Nat.pow_lt_pow_right (show 1 < 2 by decide) h8
  · decide
/-- the term's variable, if it is one, is among hv -/
def sub (t : Int) (hv : Nat) : Bool := if 281474976710656 ≤ t ∧ t < 4503599627370496 then hv.testBit (t - 281474976710656).toNat else true
theorem sub_andn {t : Int} {hv : Nat} : andn (vbN t) hv = 0 ↔ sub t hv = true := by
  rw [andn0]
  unfold vbN sub
  by_cases h : 281474976710656 ≤ t ∧ t < 4503599627370496
  · rw [if_pos h, if_pos h]
    constructor
    · intro k; exact k _ (by rw [Nat.testBit_two_pow_self])
    · intro k i hi
      by_cases e : (t - 281474976710656).toNat = i
      · rw [← e]; exact k
      · rw [Nat.testBit_two_pow_of_ne e] at hi; cases hi
  · rw [if_neg h, if_neg h]
    exact ⟨fun _ => rfl, fun _ i hi => by rw [Nat.zero_testBit] at hi; cases hi⟩
def kno (t : Int) (hv : Nat) : Bool := decide (t ≠ ANYT) && sub t hv
def vmA : List Int → Nat
  | [] => 0
  | t :: r => vbN t ||| vmA r
theorem vmA_lt : ∀ {ar : List Int}, tsOK ar → vmA ar < 256 := by
  intro ar
  induction ar with
  | nil => intro _; decide
  | cons t r ih =>
    intro h
    exact Nat.or_lt_two_pow (n := 8) (vbN_lt (h t (List.mem_cons_self ..))) (ih (fun x hx => h x (List.mem_cons_of_mem _ hx)))
theorem vmA_andn : ∀ {ar : List Int} {hv : Nat}, andn (vmA ar) hv = 0 ↔ ar.all (fun t => sub t hv) = true := by
  intro ar hv
  induction ar with
  | nil => exact ⟨fun _ => rfl, fun _ => by rw [andn0]; intro i hi; rw [show vmA [] = 0 from rfl, Nat.zero_testBit] at hi; cases hi⟩
  | cons t r ih =>
    rw [List.all_cons, Bool.and_eq_true, ← ih, ← sub_andn]
    show andn (vbN t ||| vmA r) hv = 0 ↔ _
    rw [andn0, andn0, andn0]
    constructor
    · intro h
      exact ⟨fun i hi => h i (by rw [Nat.testBit_or, hi]; rfl), fun i hi => h i (by rw [Nat.testBit_or, hi]; simp)⟩
    · intro ⟨h1, h2⟩ i hi
      rw [Nat.testBit_or, Bool.or_eq_true] at hi
      rcases hi with hi | hi
      · exact h1 i hi
      · exact h2 i hi
/-- which arguments are known, as bits -/
def knA : List Int → Nat → Nat
  | [], _ => 0
  | t :: r, hv => (if kno t hv = true then 1 else 0) + 2 * knA r hv
theorem knA_lt : ∀ (ar : List Int) (hv : Nat), knA ar hv < 2 ^ ar.length := by
  intro ar
  induction ar with
  | nil => intro hv; exact Nat.zero_lt_one
  | cons t r ih =>
    intro hv
    have := ih hv
    show (if kno t hv = true then 1 else 0) + 2 * knA r hv < 2 ^ (r.length + 1)
    rw [Nat.pow_succ]
    split <;> omega
theorem knA_app : ∀ (ar : List Int) (t : Int) (hv : Nat), knA (ar ++ [t]) hv = knA ar hv + if kno t hv = true then 2 ^ ar.length else 0 := by
  intro ar
  induction ar with
  | nil => intro t hv; show (if kno t hv = true then 1 else 0) + 2 * 0 = 0 + _; split <;> rfl
  | cons x r ih =>
    intro t hv
    show (if kno x hv = true then 1 else 0) + 2 * knA (r ++ [t]) hv = (if kno x hv = true then 1 else 0) + 2 * knA r hv + if kno t hv = true then 2 ^ (r.length + 1) else 0
    rw [ih t hv, Nat.pow_succ]
    by_cases h1 : kno t hv = true
    · rw [if_pos h1, if_pos h1]; omega
    · rw [if_neg h1, if_neg h1]; omega
def canL (L : Lit) (hv : Nat) : Bool := if L.2.2.2.1 = 0 then ((if L.1 = 3 then L.2.2.2.2.drop 1 else L.2.2.2.2).all (fun t => sub t hv)) else (sub (L.2.2.2.2.getD 0 0) hv || sub (L.2.2.2.2.getD 1 0) hv)
/-- first of the n for which p holds, or n -/
def fT (p : Nat → Bool) : Nat → Nat
  | 0 => 0
  | n + 1 => if fT p n < n then fT p n else if p n = true then n else n + 1
theorem fT_none {p : Nat → Bool} : ∀ n, (∀ j, j < n → p j = false) → fT p n = n := by
  intro n
  induction n with
  | zero => intro _; rfl
  | succ n ih =>
    intro h
    have e := ih (fun j hj => h j (by omega))
    show (if fT p n < n then fT p n else if p n = true then n else n + 1) = n + 1
    rw [e, if_neg (by omega), h n (by omega), if_neg (by decide)]
theorem fT_at {p : Nat → Bool} : ∀ n i, i < n → p i = true → (∀ j, j < i → p j = false) → fT p n = i := by
  intro n
  induction n with
  | zero => intro i hi; omega
  | succ n ih =>
    intro i hi hp hj
    show (if fT p n < n then fT p n else if p n = true then n else n + 1) = i
    by_cases e : i = n
    · subst e
      rw [fT_none i hj, if_neg (by omega), if_pos hp]
    · rw [ih i (by omega) hp hj, if_pos (by omega)]
theorem fT_spec {p : Nat → Bool} (n : Nat) : fT p n ≤ n ∧ (fT p n < n → p (fT p n) = true) ∧ ∀ j, j < fT p n → p j = false := by
  induction n with
  | zero => exact ⟨Nat.le_refl _, fun h => by exact absurd h (Nat.lt_irrefl 0), fun j hj => by exact absurd hj (Nat.not_lt_zero j)⟩
  | succ n ih =>
    obtain ⟨a, b, c⟩ := ih
    have e : fT p (n + 1) = if fT p n < n then fT p n else if p n = true then n else n + 1 := rfl
    by_cases h1 : fT p n < n
    · rw [if_pos h1] at e
      rw [e]
      exact ⟨by omega, fun _ => b h1, c⟩
    · have h2 : fT p n = n := by omega
      rw [h2] at c
      rw [if_neg h1] at e
      by_cases h3 : p n = true
      · rw [if_pos h3] at e
        rw [e]
        exact ⟨by omega, fun _ => h3, c⟩
      · rw [if_neg h3] at e
        rw [e]
        refine ⟨Nat.le_refl _, fun h => by omega, fun j hj => ?_⟩
        by_cases e2 : j = n
        · rw [e2]; simpa using h3
        · exact c j (by omega)
/-- the first of the greatest -/
def bA (g : Nat → Int) : Nat → Int × Int
  | 0 => (-1, -1)
  | n + 1 => if g n ≤ (bA g n).2 then bA g n else ((n : Int), g n)
abbrev dfL : Lit := (0, 0, 0, 0, [])
def gAt (ls : List Lit) (left hv : Nat) (i : Nat) : Int := if left.testBit i = true ∧ (ls.getD i dfL).1 = 0 then ((popc (knA (ls.getD i dfL).2.2.2.2 hv) : Nat) : Int) else -1
def tAt (ls : List Lit) (left hv : Nat) (i : Nat) : Bool := left.testBit i && decide ((ls.getD i dfL).1 ≠ 0) && canL (ls.getD i dfL) hv
def nxt (ls : List Lit) (left hv : Nat) : Int := if fT (tAt ls left hv) ls.length < ls.length then ((fT (tAt ls left hv) ls.length : Nat) : Int) else (bA (gAt ls left hv) ls.length).1
/-- what is valued, what is left, the rows of the plan -/
def plan (ls : List Lit) : Nat → Nat × Nat × List (Int × Int × Int)
  | 0 => (0, 2 ^ ls.length - 1, [])
  | k + 1 => if nxt ls (plan ls k).2.1 (plan ls k).1 < 0 then plan ls k else
    ((plan ls k).1 ||| vmA (ls.getD (nxt ls (plan ls k).2.1 (plan ls k).1).toNat dfL).2.2.2.2,
     andn (plan ls k).2.1 (2 ^ (nxt ls (plan ls k).2.1 (plan ls k).1).toNat),
     (plan ls k).2.2 ++ [(nxt ls (plan ls k).2.1 (plan ls k).1,
       (if (ls.getD (nxt ls (plan ls k).2.1 (plan ls k).1).toNat dfL).1 ≤ 1 then ((knA (ls.getD (nxt ls (plan ls k).2.1 (plan ls k).1).toNat dfL).2.2.2.2 (plan ls k).1 : Nat) : Int) else 0),
       ((popc ((plan ls k).1 ||| vmA (ls.getD (nxt ls (plan ls k).2.1 (plan ls k).1).toNat dfL).2.2.2.2) : Nat) : Int))])
def ubd (V : PL) (hv : Nat) : Int := if fT (fun i => !hv.testBit i) V.length < V.length then (V.getD (fT (fun i => !hv.testBit i) V.length) (0, 0)).2 else -1
def litOK (L : Lit) : Prop := tsOK L.2.2.2.2 ∧ L.2.2.2.2.length ≤ 4 ∧ ((L.1 = 0 ∨ L.1 = 1) ∧ 0 ≤ L.2.2.1 ∧ L.2.2.1 < 16 ∧ L.2.2.2.1 = 0 ∧ 1 ≤ L.2.2.2.2.length ∨ L.1 = 2 ∧ L.2.2.1 = -1 ∧ (L.2.2.2.1 = 0 ∨ L.2.2.2.1 = 1) ∧ L.2.2.2.2.length = 2 ∧ (∀ t ∈ L.2.2.2.2, t ≠ ANYT) ∨ L.1 = 3 ∧ L.2.2.1 = -1 ∧ L.2.2.2.1 = 0 ∧ L.2.2.2.2.length = 3 ∧ ∀ t ∈ L.2.2.2.2, t ≠ ANYT)
def lisOK (ls : List Lit) : Prop := ∀ L ∈ ls, litOK L
theorem s_Lt_isAtom {l : Nat} {k p ask eq : Int} {ar : List Int} {w : Wo} {K : Int → Wo → Prop} (hl : isLt l) (hL : LiC l k p ask eq ar w) (h1 : (k = 0 ∨ k = 1) → K 1 w) (h0 : ¬ (k = 0 ∨ k = 1) → K 0 w) : MetI m_Lt_isAtom [vr l] w K := by
  have k0 := hL.1
  refine met_of (by decide) rfl (Nat.le_of_ble_eq_true rfl) (t_Lt_isAtom_0 hl ?_)
  rw [k0]
  exact ⟨fun z => kI (h1 (Or.inl z)), fun z => ⟨fun z2 => kI (h0 (by omega)), fun z2 => kI (h1 (Or.inr z2))⟩⟩
theorem s_Lt_variablesFrom {l : Nat} {k p ask eq : Int} {ar : List Int} {w : Wo} {i0 : Nat} {K : Int → Wo → Prop} (hl : isLt l) (hL : LiC l k p ask eq ar w) (hok : tsOK ar) (h : K ((vmA (ar.drop i0) : Nat) : Int) w) : MetI m_Lt_variablesFrom [vr l, vi (i0 : Int)] w K := by
  obtain ⟨g0, g1, g2, g3, g4, g5, g6⟩ := hL
  have lp : ∀ (m i acc : Nat), ar.length - i ≤ m → acc < 256 → acc ||| vmA (ar.drop i) = vmA (ar.drop i0) → Wp m_Lt_variablesFrom 4 [(0, vr l), (2, vi (acc : Int)), (3, vi (i : Int))] [] (0, 0) w (fun r w' => ∃ y, r = some (vi y) ∧ K y w') := by
    intro m
    induction m with
    | zero =>
      intro i acc hm ha he
      refine t_Lt_variablesFrom_4 hl ⟨fun _ => kI ?_, fun z => by omega⟩
      rw [List.drop_eq_nil_of_le (by omega), show vmA [] = 0 from rfl, Nat.or_zero] at he
      rw [he]; exact h
    | succ m ih =>
      intro i acc hm ha he
      by_cases hi : i < ar.length
      · refine t_Lt_variablesFrom_4 hl ⟨fun z => by omega, fun _ => ⟨⟨by omega, by omega⟩, ⟨by omega, by omega⟩, ?_⟩⟩
        have hg : ar[i]? = some ar[i] := List.getElem?_eq_getElem hi
        have hv := (g6 i _ hg).2
        have hlt := vbN_lt (hok ar[i] (List.getElem_mem hi))
        rw [show ((i : Int)).toNat = i from rfl, hv, vb_N, b_ior_n (by omega) (by omega)]
        refine ih (i + 1) _ (by omega) (Nat.or_lt_two_pow (n := 8) ha hlt) ?_
        rw [← he, List.drop_eq_getElem_cons hi]
        show acc ||| vbN ar[i] ||| vmA (ar.drop (i + 1)) = acc ||| (vbN ar[i] ||| vmA (ar.drop (i + 1)))
        rw [Nat.or_assoc]
      · exact ih i acc (by omega) ha he
  exact met_of (by decide) rfl (Nat.le_of_ble_eq_true rfl) (t_Lt_variablesFrom_0 hl (lp ar.length i0 0 (by omega) (by decide) (by rw [Nat.zero_or])))
theorem s_Lt_knownArguments {l : Nat} {k p ask eq : Int} {ar : List Int} {w : Wo} {hv : Nat} {K : Int → Wo → Prop} (hl : isLt l) (hL : LiC l k p ask eq ar w) (hok : tsOK ar) (hh : hv < 256) (h : K ((knA ar hv : Nat) : Int) w) : MetI m_Lt_knownArguments [vr l, vi (hv : Int)] w K := by
  obtain ⟨g0, g1, g2, g3, g4, g5, g6⟩ := hL
  have lp : ∀ (m i : Nat), ar.length - i ≤ m → i ≤ ar.length → Wp m_Lt_knownArguments 4 [(0, vr l), (1, vi (hv : Int)), (2, vi ((knA (ar.take i) hv : Nat) : Int)), (3, vi (i : Int))] [] (0, 0) w (fun r w' => ∃ y, r = some (vi y) ∧ K y w') := by
    intro m
    induction m with
    | zero =>
      intro i hm hi
      refine t_Lt_knownArguments_4 hl ⟨fun _ => kI ?_, fun z => by omega⟩
      rw [List.take_of_length_le (by omega)]; exact h
    | succ m ih =>
      intro i hm hi
      by_cases hil : i < ar.length
      · have hg : ar[i]? = some ar[i] := List.getElem?_eq_getElem hil
        obtain ⟨v1, v2⟩ := g6 i _ hg
        have hlt := vbN_lt (hok ar[i] (List.getElem_mem hil))
        have hk := knA_lt (ar.take i) hv
        rw [List.length_take, Nat.min_eq_left (by omega)] at hk
        have h16 : 2 ^ i ≤ 16 := Nat.pow_le_pow_right (show 2 > 0 by decide) (show i ≤ 4 by omega)
        have e1 := knA_app (ar.take i) ar[i] hv
        rw [List.length_take, Nat.min_eq_left (by omega), ← List.take_succ_eq_append_getElem hil] at e1
        have nxt := ih (i + 1) (by omega) (by omega)
        refine t_Lt_knownArguments_4 hl ⟨fun z => by omega, fun _ => ⟨⟨by omega, by omega⟩, ?_⟩⟩
        rw [show ((i : Int)).toNat = i from rfl, v1, v2, lcmp0, vb_N, b_iandn_n (by omega) (by omega)]
        refine ⟨fun z => ⟨⟨by omega, by omega⟩, ?_⟩, fun z => ⟨⟨by omega, by omega⟩, fun z2 => ⟨⟨by omega, by omega⟩, ?_⟩, fun z2 => ⟨⟨by omega, by omega⟩, ?_⟩⟩⟩
        · rw [if_neg (by unfold kno; simp [z])] at e1
          have e1 : knA (ar.take (i + 1)) hv = knA (ar.take i) hv := e1
          rw [← e1]; exact nxt
        · rw [if_neg (by
            unfold kno
            rw [Bool.and_eq_true, ← sub_andn]
            intro q
            exact z2 (by rw [q.2]; rfl))] at e1
          have e1 : knA (ar.take (i + 1)) hv = knA (ar.take i) hv := e1
          rw [← e1]; exact nxt
        · rw [if_pos (by
            unfold kno
            rw [Bool.and_eq_true, ← sub_andn]
            exact ⟨by simpa using z, by omega⟩)] at e1
          rw [b_ishl_1 i (by omega), b_ior_n (by omega) (by omega)]
          have e2 : knA (ar.take i) hv ||| 2 ^ i = knA (ar.take i) hv + 2 ^ i := by
            have := Nat.two_pow_add_eq_or_of_lt (i := i) (b := knA (ar.take i) hv) hk 1
            rw [Nat.mul_one] at this
            rw [Nat.or_comm, ← this, Nat.add_comm]
          rw [e2, ← e1]; exact nxt
      · exact ih i (by omega) hi
  exact met_of (by decide) rfl (Nat.le_of_ble_eq_true rfl) (t_Lt_knownArguments_0 hl (lp ar.length 0 (by omega) (Nat.zero_le _)))
theorem s_Lt_canBeAsked {l : Nat} {L : Lit} {w : Wo} {hv : Nat} {K : Int → Wo → Prop} (hl : isLt l) (hL : LiL l L w) (hok : litOK L) (hh : hv < 256) (h1 : canL L hv = true → K 1 w) (h0 : canL L hv = false → K 0 w) : MetI m_Lt_canBeAsked [vr l, vi (hv : Int)] w K := by
  obtain ⟨g0, g1, g2, g3, g4, g5, g6⟩ := id hL
  obtain ⟨hts, -, hcs⟩ := hok
  refine met_of (by decide) rfl (Nat.le_of_ble_eq_true rfl) (t_Lt_canBeAsked_0 hl ?_)
  rw [g3, g0]
  unfold canL at h1 h0
  refine ⟨fun z => ⟨fun z2 => ?_, fun z2 => ?_⟩, fun z => ?_⟩
  · rw [if_pos z, if_neg z2] at h1 h0
    refine s_Lt_variablesFrom (i0 := 0) hl hL hts ?_
    rw [List.drop_zero, b_iandn_n (by have := vmA_lt hts; omega) (by omega)]
    refine ⟨fun q => kI (h0 ?_), fun q => kI (h1 ?_)⟩
    · rw [← Bool.not_eq_true, ← vmA_andn]
      intro q2; exact q (by rw [q2]; rfl)
    · rw [← vmA_andn]; omega
  · rw [if_pos z, if_pos z2] at h1 h0
    refine s_Lt_variablesFrom (i0 := 1) hl hL hts ?_
    have hd : tsOK (L.2.2.2.2.drop 1) := fun t ht => hts t (List.mem_of_mem_drop ht)
    rw [b_iandn_n (by have := vmA_lt hd; omega) (by omega)]
    refine ⟨fun q => kI (h0 ?_), fun q => kI (h1 ?_)⟩
    · rw [← Bool.not_eq_true, ← vmA_andn]
      intro q2; exact q (by rw [q2]; rfl)
    · rw [← vmA_andn]; omega
  · rw [if_neg z] at h1 h0
    have hlen : L.2.2.2.2.length = 2 := by
      rcases hcs with hc | hc | hc
      · exact absurd hc.2.2.2.1 z
      · exact hc.2.2.2.1
      · exact absurd hc.2.2.1 z
    have x0 : L.2.2.2.2[0]? = some (L.2.2.2.2.getD 0 0) := by
      rw [List.getD_eq_getElem?_getD, List.getElem?_eq_getElem (by omega)]; rfl
    have x1 : L.2.2.2.2[1]? = some (L.2.2.2.2.getD 1 0) := by
      rw [List.getD_eq_getElem?_getD, List.getElem?_eq_getElem (by omega)]; rfl
    have y0 := (g6 0 _ x0).2
    have y1 := (g6 1 _ x1).2
    have b0 := vbN_lt (hts _ (List.mem_of_getElem? x0))
    have b1 := vbN_lt (hts _ (List.mem_of_getElem? x1))
    rw [y0, y1, vb_N, vb_N, b_iandn_n (by omega) (by omega), b_iandn_n (by omega) (by omega)]
    refine ⟨fun q => kI (h1 ?_), fun q => ⟨fun q2 => kI (h0 ?_), fun q2 => kI (h1 ?_)⟩⟩
    · rw [Bool.or_eq_true, ← sub_andn]; exact Or.inl (by omega)
    · rw [← Bool.not_eq_true, Bool.or_eq_true, ← sub_andn, ← sub_andn]
      rintro (r | r)
      · exact q (by rw [r]; rfl)
      · exact q2 (by rw [r]; rfl)
    · rw [Bool.or_eq_true, ← sub_andn, ← sub_andn]; exact Or.inr (by omega)

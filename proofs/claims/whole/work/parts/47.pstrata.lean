/-! who hangs on whom; strata: pure -/
def wst (m : Nat) (E : Nat → Nat → Bool) (a b : Nat) : Bool := E a b || (E a m && E m b)
def war (E : Nat → Nat → Bool) : Nat → Nat → Nat → Bool
  | 0 => E
  | m + 1 => wst m (war E m)
theorem wst_t {m : Nat} {E : Nat → Nat → Bool} {a b : Nat} : wst m E a b = true ↔ E a b = true ∨ E a m = true ∧ E m b = true := by
  unfold wst
  rw [Bool.or_eq_true, Bool.and_eq_true]
theorem war_in {E : Nat → Nat → Bool} : ∀ (m : Nat) {a b : Nat}, E a b = true → war E m a b = true := by
  intro m
  induction m with
  | zero => intro a b h; exact h
  | succ m ih => intro a b h; exact wst_t.mpr (Or.inl (ih h))
theorem war_tr {E : Nat → Nat → Bool} : ∀ (m k a b : Nat), k < m → war E m a k = true → war E m k b = true → war E m a b = true := by
  intro m
  induction m with
  | zero => intro k a b hk; omega
  | succ m ih =>
    intro k a b hk h1 h2
    have h1 := wst_t.mp h1
    have h2 := wst_t.mp h2
    refine wst_t.mpr ?_
    by_cases e : k = m
    · subst e
      have p1 : war E k a k = true := by
        rcases h1 with h | h
        · exact h
        · exact h.1
      have p2 : war E k k b = true := by
        rcases h2 with h | h
        · exact h
        · exact h.2
      exact Or.inr ⟨p1, p2⟩
    · have hk : k < m := by omega
      rcases h1 with h1 | h1
      · rcases h2 with h2 | h2
        · exact Or.inl (ih k a b hk h1 h2)
        · exact Or.inr ⟨ih k a m hk h1 h2.1, h2.2⟩
      · rcases h2 with h2 | h2
        · exact Or.inr ⟨h1.1, ih k m b hk h1.2 h2⟩
        · exact Or.inr ⟨h1.1, h2.2⟩
theorem war_rng {E : Nat → Nat → Bool} {n : Nat} (h : ∀ a b, E a b = true → a < n ∧ b < n) : ∀ (m : Nat) (a b : Nat), war E m a b = true → a < n ∧ b < n := by
  intro m
  induction m with
  | zero => intro a b; exact h a b
  | succ m ih =>
    intro a b hw
    rcases wst_t.mp hw with q | q
    · exact ih a b q
    · exact ⟨(ih a m q.1).1, (ih m b q.2).2⟩
theorem war_more {E : Nat → Nat → Bool} {n : Nat} (h : ∀ a b, E a b = true → a < n ∧ b < n) : ∀ (j : Nat) (a b : Nat), war E (n + j) a b = war E n a b := by
  intro j
  induction j with
  | zero => intro a b; rfl
  | succ j ih =>
    intro a b
    show wst (n + j) (war E (n + j)) a b = _
    unfold wst
    have : war E (n + j) a (n + j) = false := by
      cases e : war E (n + j) a (n + j) with
      | false => rfl
      | true => have := (war_rng h (n + j) _ _ e).2; omega
    rw [this, ih a b]
    simp
theorem war_ext {E E' : Nat → Nat → Bool} (h : ∀ a b, E a b = E' a b) : ∀ (m a b : Nat), war E m a b = war E' m a b := by
  have : E = E' := by funext a b; exact h a b
  subst this
  intro m a b; rfl
/-- one step's edge: head, asked, waits -/
abbrev Edg : Type := Nat × Nat × Nat
def upS (S : Nat → Int) (e : Edg) : Nat → Int := fun p => if p = e.1 then (if S e.1 < S e.2.1 + e.2.2 then S e.2.1 + e.2.2 else S e.1) else S p
def rnd (L : List Edg) (S : Nat → Int) : Nat → Int := L.foldl upS S
def itr (L : List Edg) : Nat → Nat → Int
  | 0 => fun _ => 0
  | k + 1 => rnd L (itr L k)
theorem upS_ge {S : Nat → Int} {e : Edg} (p : Nat) : S p ≤ upS S e p := by
  unfold upS
  split
  · rename_i h
    rw [h]
    split <;> omega
  · exact Int.le_refl _
theorem rnd_ge : ∀ (L : List Edg) (S : Nat → Int) (p : Nat), S p ≤ rnd L S p := by
  intro L
  induction L with
  | nil => intro S p; exact Int.le_refl _
  | cons e L ih => intro S p; exact Int.le_trans (upS_ge p) (ih (upS S e) p)
/-- u is closed under the edges -/
def clo (L : List Edg) (u : Nat → Int) : Prop := ∀ e ∈ L, u e.2.1 + e.2.2 ≤ u e.1
theorem upS_le {S u : Nat → Int} {e : Edg} (h : ∀ p, S p ≤ u p) (he : u e.2.1 + e.2.2 ≤ u e.1) (p : Nat) : upS S e p ≤ u p := by
  have h1 := h e.1
  have h2 := h e.2.1
  have h3 := h p
  unfold upS
  split
  · rename_i h4
    rw [h4]
    split <;> omega
  · exact h3
theorem rnd_le : ∀ (L : List Edg) (S u : Nat → Int), (∀ p, S p ≤ u p) → clo L u → ∀ p, rnd L S p ≤ u p := by
  intro L
  induction L with
  | nil => intro S u h _; exact h
  | cons e L ih =>
    intro S u h hc
    exact ih (upS S e) u (upS_le h (hc e (List.mem_cons_self ..))) (fun x hx => hc x (List.mem_cons_of_mem _ hx))
theorem itr_le {L : List Edg} {u : Nat → Int} (h0 : ∀ p, 0 ≤ u p) (hc : clo L u) : ∀ k p, itr L k p ≤ u p := by
  intro k
  induction k with
  | zero => exact h0
  | succ k ih => exact rnd_le L _ u ih hc
theorem rnd_edge : ∀ (L : List Edg) (S : Nat → Int) (e : Edg), e ∈ L → S e.2.1 + e.2.2 ≤ rnd L S e.1 := by
  intro L
  induction L with
  | nil => intro S e he; cases he
  | cons x L ih =>
    intro S e he
    rcases List.mem_cons.mp he with rfl | he
    · refine Int.le_trans ?_ (rnd_ge L (upS S e) e.1)
      unfold upS
      rw [if_pos rfl]
      split <;> omega
    · have := ih (upS S x) e he
      have h2 := upS_ge (S := S) (e := x) e.2.1
      exact Int.le_trans (by omega) this
theorem itr_0 {L : List Edg} : ∀ k p, 0 ≤ itr L k p := by
  intro k
  induction k with
  | zero => intro p; exact Int.le_refl _
  | succ k ih => intro p; exact Int.le_trans (ih p) (rnd_ge L _ p)
theorem itr_mono {L : List Edg} : ∀ j k p, itr L k p ≤ itr L (k + j) p := by
  intro j
  induction j with
  | zero => intro k p; exact Int.le_refl _
  | succ j ih => intro k p; exact Int.le_trans (ih k p) (rnd_ge L _ p)
theorem rnd_out : ∀ (L : List Edg) (S : Nat → Int) (n : Nat), (∀ e ∈ L, e.1 < n) → ∀ p, n ≤ p → rnd L S p = S p := by
  intro L
  induction L with
  | nil => intro S n _ p _; rfl
  | cons e L ih =>
    intro S n h p hp
    have h1 := h e (List.mem_cons_self ..)
    show rnd L (upS S e) p = S p
    rw [ih (upS S e) n (fun x hx => h x (List.mem_cons_of_mem _ hx)) p hp]
    exact if_neg (by omega)
theorem itr_out {L : List Edg} {n : Nat} (h : ∀ e ∈ L, e.1 < n) : ∀ k p, n ≤ p → itr L k p = 0 := by
  intro k
  induction k with
  | zero => intro p _; rfl
  | succ k ih => intro p hp; exact (rnd_out L _ n h p hp).trans (ih p hp)
theorem itr_fix {L : List Edg} {k : Nat} (h : rnd L (itr L k) = itr L k) : ∀ j, itr L (k + j) = itr L k := by
  intro j
  induction j with
  | zero => rfl
  | succ j ih => show rnd L (itr L (k + j)) = _; rw [ih, h]
def sumN (S : Nat → Int) : Nat → Int
  | 0 => 0
  | n + 1 => sumN S n + S n
theorem sumN_le {S S' : Nat → Int} : ∀ n, (∀ p, p < n → S p ≤ S' p) → sumN S n ≤ sumN S' n := by
  intro n
  induction n with
  | zero => intro _; exact Int.le_refl _
  | succ n ih =>
    intro h
    have h1 := ih (fun p hp => h p (by omega))
    have h2 := h n (by omega)
    show sumN S n + S n ≤ sumN S' n + S' n
    omega
theorem sumN_lt {S S' : Nat → Int} {q : Nat} : ∀ n, q < n → (∀ p, p < n → S p ≤ S' p) → S q < S' q → sumN S n + 1 ≤ sumN S' n := by
  intro n
  induction n with
  | zero => intro h; omega
  | succ n ih =>
    intro hq h hlt
    have h2 := h n (by omega)
    show sumN S n + S n + 1 ≤ sumN S' n + S' n
    by_cases e : q = n
    · have h1 := sumN_le n (fun p hp => h p (by omega))
      rw [e] at hlt
      omega
    · have h1 := ih (by omega) (fun p hp => h p (by omega)) hlt
      omega
/-- a fixed point is reached -/
theorem itr_ex {L : List Edg} {n : Nat} {u : Nat → Int} (h : ∀ e ∈ L, e.1 < n) (h0 : ∀ p, 0 ≤ u p) (hc : clo L u) : ∃ M, rnd L (itr L M) = itr L M := by
  have hs : ∀ (m : Nat) (k : Nat), sumN u n - sumN (itr L k) n ≤ (m : Int) → ∃ M, rnd L (itr L M) = itr L M := by
    intro m
    induction m with
    | zero =>
      intro k hk
      refine ⟨k, ?_⟩
      funext p
      by_cases hp : p < n
      · by_cases e : rnd L (itr L k) p = itr L k p
        · exact e
        · have h1 := sumN_lt (S := itr L k) (S' := rnd L (itr L k)) (q := p) n hp (fun p _ => rnd_ge L _ p) (by have := rnd_ge L (itr L k) p; omega)
          have h2 := sumN_le (S := rnd L (itr L k)) (S' := u) n (fun p _ => itr_le h0 hc (k + 1) p)
          omega
      · exact rnd_out L _ n h p (by omega)
    | succ m ih =>
      intro k hk
      by_cases e : ∀ p, p < n → rnd L (itr L k) p = itr L k p
      · refine ⟨k, ?_⟩
        funext p
        by_cases hp : p < n
        · exact e p hp
        · exact rnd_out L _ n h p (by omega)
      · obtain ⟨p, hp⟩ := Classical.not_forall.mp e
        obtain ⟨hp1, hp2⟩ := Classical.not_imp.mp hp
        have h1 := sumN_lt (S := itr L k) (S' := rnd L (itr L k)) (q := p) n hp1 (fun p _ => rnd_ge L _ p) (by have := rnd_ge L (itr L k) p; omega)
        refine ih (k + 1) ?_
        show sumN u n - sumN (rnd L (itr L k)) n ≤ (m : Int)
        omega
  exact hs (sumN u n - sumN (itr L 0) n).toNat 0 (by omega)
theorem cnt_mono {p q : Nat → Bool} : ∀ n, (∀ i, i < n → p i = true → q i = true) → cnt p n ≤ cnt q n := by
  intro n
  induction n with
  | zero => intro _; exact Nat.le_refl _
  | succ n ih =>
    intro h
    have h1 := ih (fun i hi => h i (by omega))
    have h2 := h n (by omega)
    show cnt p n + (if p n = true then 1 else 0) ≤ cnt q n + (if q n = true then 1 else 0)
    by_cases hp : p n = true
    · rw [if_pos hp, if_pos (h2 hp)]; omega
    · rw [if_neg hp]
      split <;> omega
theorem cnt_str {p q : Nat → Bool} {j : Nat} (hp : p j = false) (hq : q j = true) : ∀ n, j < n → (∀ i, i < n → p i = true → q i = true) → cnt p n + 1 ≤ cnt q n := by
  intro n
  induction n with
  | zero => intro h; omega
  | succ n ih =>
    intro hj h
    have h2 := h n (by omega)
    show cnt p n + (if p n = true then 1 else 0) + 1 ≤ cnt q n + (if q n = true then 1 else 0)
    by_cases e : j = n
    · subst e
      have h1 := cnt_mono j (fun i hi => h i (by omega))
      rw [hp, hq, if_neg (by decide), if_pos rfl]
      omega
    · have h1 := ih (by omega) (fun i hi => h i (by omega))
      by_cases hpn : p n = true
      · rw [if_pos hpn, if_pos (h2 hpn)]; omega
      · rw [if_neg hpn]
        split <;> omega
/-- as many rounds as predicates are enough -/
theorem itr_n {L : List Edg} {n : Nat} {u : Nat → Int} (h : ∀ e ∈ L, e.1 < n ∧ e.2.1 < n) (h0 : ∀ p, 0 ≤ u p) (hc : clo L u) : rnd L (itr L n) = itr L n := by
  obtain ⟨M, hM⟩ := itr_ex (fun e he => (h e he).1) h0 hc
  have hD : ∀ k p, itr L k p ≤ itr L M p := by
    intro k p
    by_cases hk : k ≤ M
    · have := itr_mono (L := L) (M - k) k p
      rw [show k + (M - k) = M by omega] at this
      exact this
    · have := itr_fix hM (k - M)
      rw [show M + (k - M) = k by omega] at this
      rw [this]; exact Int.le_refl _
  have hDc : clo L (itr L M) := fun e he => by
    have := rnd_edge L (itr L M) e he
    rw [hM] at this
    exact this
  have step : ∀ k, (∀ p, itr L k p = itr L M p) ∨ k + 0 ≤ cnt (fun p => decide (itr L k p = itr L M p)) n := by
    intro k
    induction k with
    | zero => exact Or.inr (Nat.zero_le _)
    | succ k ih =>
      rcases ih with ih | ih
      · refine Or.inl (fun p => ?_)
        have e : itr L k = itr L M := by funext p; exact ih p
        show rnd L (itr L k) p = _
        rw [e, hM]
      · by_cases hall : ∃ j, j < n ∧ itr L k j ≠ itr L M j ∧ itr L (k + 1) j = itr L M j
        · obtain ⟨j, j1, j2, j3⟩ := hall
          refine Or.inr ?_
          have := cnt_str (p := fun p => decide (itr L k p = itr L M p)) (q := fun p => decide (itr L (k + 1) p = itr L M p)) (j := j) (decide_eq_false j2) (decide_eq_true j3) n j1 (fun i hi hp => by
            have hp := of_decide_eq_true hp
            refine decide_eq_true ?_
            have q1 := hD (k + 1) i
            have q2 := itr_mono (L := L) 1 k i
            omega)
          omega
        · refine Or.inl ?_
          have hno : ∀ j, j < n → itr L (k + 1) j = itr L M j → itr L k j = itr L M j := fun j j1 j2 => by
            by_cases e : itr L k j = itr L M j
            · exact e
            · exact absurd ⟨j, j1, e, j2⟩ hall
          have hu := itr_le (L := L) (u := fun p => if itr L (k + 1) p = itr L M p then itr L M p else itr L M p - 1) (fun p => by
            show 0 ≤ if itr L (k + 1) p = itr L M p then itr L M p else itr L M p - 1
            have q1 := hD (k + 1) p
            have q2 := itr_0 (L := L) (k + 1) p
            split <;> omega) (fun e he => by
            have q1 := hDc e he
            have q2 := rnd_edge L (itr L k) e he
            have q2 : itr L k e.2.1 + e.2.2 ≤ itr L (k + 1) e.1 := q2
            have q3 := hno e.2.1 (h e he).2
            have q4 := hD (k + 1) e.1
            show (if itr L (k + 1) e.2.1 = itr L M e.2.1 then itr L M e.2.1 else itr L M e.2.1 - 1) + (e.2.2 : Int) ≤ (if itr L (k + 1) e.1 = itr L M e.1 then itr L M e.1 else itr L M e.1 - 1)
            by_cases c1 : itr L (k + 1) e.1 = itr L M e.1
            · rw [if_pos c1]
              split <;> omega
            · rw [if_neg c1]
              by_cases c2 : itr L (k + 1) e.2.1 = itr L M e.2.1
              · rw [if_pos c2]
                have := q3 c2
                omega
              · rw [if_neg c2]; omega) M
          intro p
          have q := hu p
          have q : itr L M p ≤ if itr L (k + 1) p = itr L M p then itr L M p else itr L M p - 1 := q
          by_cases c : itr L (k + 1) p = itr L M p
          · exact c
          · rw [if_neg c] at q; omega
  have hall : ∀ p, itr L n p = itr L M p := by
    rcases step n with s | s
    · exact s
    · intro p
      by_cases hp : p < n
      · have hc1 := cnt_le (p := fun p => decide (itr L n p = itr L M p)) n
        by_cases e : itr L n p = itr L M p
        · exact e
        · have := cnt_str (p := fun p => decide (itr L n p = itr L M p)) (q := fun _ => true) (j := p) (decide_eq_false e) rfl n hp (fun _ _ _ => rfl)
          have := cnt_le (p := fun _ => true) n
          omega
      · have hh : ∀ e ∈ L, e.1 < n := fun e he => (h e he).1
        rw [itr_out hh n p (by omega), itr_out hh M p (by omega)]
  have e : itr L n = itr L M := by funext p; exact hall p
  rw [e, hM]
/-- what a predicate hangs on and that does not hang on it -/
def lvl (W : Nat → Nat → Bool) (n p : Nat) : Int := ((cnt (fun q => W p q && !W q p) n : Nat) : Int)
theorem lvl_clo {L : List Edg} {W : Nat → Nat → Bool} {n : Nat} (hL : ∀ e ∈ L, e.1 < n ∧ e.2.1 < n ∧ W e.1 e.2.1 = true ∧ e.2.2 ≤ 1 ∧ (e.2.2 = 1 → e.2.1 ≠ e.1 ∧ W e.2.1 e.1 = false)) (ht : ∀ k a b, k < n → W a k = true → W k b = true → W a b = true) : clo L (lvl W n) := by
  intro e he
  obtain ⟨h1, h2, h3, h4, h5⟩ := hL e he
  have sub1 : ∀ i, i < n → (W e.2.1 i && !W i e.2.1) = true → (W e.1 i && !W i e.1) = true := by
    intro i hi hw
    rw [Bool.and_eq_true] at hw ⊢
    refine ⟨ht e.2.1 e.1 i h2 h3 hw.1, ?_⟩
    cases c : W i e.1 with
    | false => rfl
    | true =>
      have := ht e.1 i e.2.1 h1 c h3
      rw [this] at hw
      cases hw.2
  show lvl W n e.2.1 + (e.2.2 : Int) ≤ lvl W n e.1
  unfold lvl
  by_cases c : e.2.2 = 1
  · obtain ⟨c1, c2⟩ := h5 c
    have := cnt_str (p := fun q => W e.2.1 q && !W q e.2.1) (q := fun q => W e.1 q && !W q e.1) (j := e.2.1) (by cases W e.2.1 e.2.1 <;> rfl) (by show (W e.1 e.2.1 && !W e.2.1 e.1) = true; rw [h3, c2]; rfl) n h2 sub1
    omega
  · have := cnt_mono (p := fun q => W e.2.1 q && !W q e.2.1) (q := fun q => W e.1 q && !W q e.1) n sub1
    omega

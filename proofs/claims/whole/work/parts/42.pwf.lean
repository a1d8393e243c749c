/-! a plan without unbound variables is whole; programs that are well formed -/
def cnt (p : Nat → Bool) : Nat → Nat
  | 0 => 0
  | n + 1 => cnt p n + if p n = true then 1 else 0
theorem cnt_ext {p q : Nat → Bool} : ∀ n, (∀ i, i < n → p i = q i) → cnt p n = cnt q n := by
  intro n
  induction n with
  | zero => intro _; rfl
  | succ n ih =>
    intro h
    show cnt p n + _ = cnt q n + _
    rw [ih (fun i hi => h i (by omega)), h n (by omega)]
theorem cnt_le {p : Nat → Bool} : ∀ n, cnt p n ≤ n := by
  intro n
  induction n with
  | zero => exact Nat.le_refl _
  | succ n ih =>
    show cnt p n + (if p n = true then 1 else 0) ≤ n + 1
    split <;> omega
theorem cnt_all {p : Nat → Bool} : ∀ n, (∀ i, i < n → p i = true) → cnt p n = n := by
  intro n
  induction n with
  | zero => intro _; rfl
  | succ n ih =>
    intro h
    show cnt p n + (if p n = true then 1 else 0) = n + 1
    rw [ih (fun i hi => h i (by omega)), if_pos (h n (by omega))]
theorem cnt_pos {p : Nat → Bool} : ∀ n, 0 < cnt p n → ∃ i, i < n ∧ p i = true := by
  intro n
  induction n with
  | zero => intro h; exact absurd h (Nat.lt_irrefl 0)
  | succ n ih =>
    intro h
    by_cases hp : p n = true
    · exact ⟨n, by omega, hp⟩
    · have h : 0 < cnt p n + (if p n = true then 1 else 0) := h
      rw [if_neg hp] at h
      obtain ⟨i, hi, hpi⟩ := ih h
      exact ⟨i, by omega, hpi⟩
theorem cnt_rm {p q : Nat → Bool} {i : Nat} (hq : q i = false) (hp : p i = true) : ∀ n, i < n → (∀ j, j ≠ i → q j = p j) → cnt q n + 1 = cnt p n := by
  intro n
  induction n with
  | zero => intro h; omega
  | succ n ih =>
    intro hi hj
    show cnt q n + (if q n = true then 1 else 0) + 1 = cnt p n + (if p n = true then 1 else 0)
    by_cases e : i = n
    · subst e
      rw [hq, hp, cnt_ext i (fun j hj2 => hj j (by omega))]
      rfl
    · have := ih (by omega) hj
      rw [hj n (fun z => e z.symm)]
      omega
theorem plan_cnt {ls : List Lit} : ∀ k, cnt (fun i => (plan ls k).2.1.testBit i) ls.length + (plan ls k).2.2.length = ls.length := by
  intro k
  induction k with
  | zero =>
    show cnt (fun i => (2 ^ ls.length - 1).testBit i) ls.length + 0 = ls.length
    rw [cnt_all]
    · rfl
    · intro i hi
      show (2 ^ ls.length - 1).testBit i = true
      rw [Nat.testBit_two_pow_sub_one]
      simpa using hi
  | succ k ih =>
    rw [plan]
    split
    · exact ih
    · rename_i hn
      rcases nxt_rng (ls := ls) (left := (plan ls k).2.1) (hv := (plan ls k).1) with e | ⟨e1, e2, e3⟩
      · omega
      · have := cnt_rm (p := fun i => (plan ls k).2.1.testBit i) (q := fun i => (andn (plan ls k).2.1 (2 ^ (nxt ls (plan ls k).2.1 (plan ls k).1).toNat)).testBit i) (i := (nxt ls (plan ls k).2.1 (plan ls k).1).toNat) (by show (andn _ _).testBit _ = false; rw [andn_bit, Nat.testBit_two_pow_self]; simp) e3 ls.length (by omega) (fun j hj => by show (andn _ _).testBit _ = _; rw [andn_bit, Nat.testBit_two_pow_of_ne (fun z => hj z.symm)]; simp)
        show cnt (fun i => (andn (plan ls k).2.1 (2 ^ (nxt ls (plan ls k).2.1 (plan ls k).1).toNat)).testBit i) ls.length + ((plan ls k).2.2 ++ [_]).length = ls.length
        rw [List.length_append]
        show _ + ((plan ls k).2.2.length + 1) = _
        omega
theorem sub_full {n hv : Nat} {t : Int} (ht : tmN n t) (hf : ∀ i, i < n → hv.testBit i = true) : sub t hv = true := by
  unfold sub
  split
  · rename_i hc
    have := ht.2 hc.1 hc.2
    exact hf _ (by omega)
  · rfl
theorem canL_full {n np hv : Nat} {L : Lit} (hL : litN n np L) (hf : ∀ i, i < n → hv.testBit i = true) : canL L hv = true := by
  have ha : ∀ t ∈ L.2.2.2.2, sub t hv = true := fun t ht => sub_full (hL.2.1 t ht) hf
  unfold canL
  split
  · split
    · rw [List.all_eq_true]
      exact fun t ht => ha t (List.mem_of_mem_drop ht)
    · rw [List.all_eq_true]
      exact ha
  · rename_i hc
    have hlen : L.2.2.2.2.length = 2 := by
      rcases hL.1.2.2 with q | q | q
      · exact absurd q.2.2.2.1 hc
      · exact q.2.2.2.1
      · exact absurd q.2.2.1 hc
    have x0 : L.2.2.2.2[0]? = some (L.2.2.2.2.getD 0 0) := by
      rw [List.getD_eq_getElem?_getD, List.getElem?_eq_getElem (by omega)]; rfl
    rw [ha _ (List.mem_of_getElem? x0)]
    rfl
theorem plan_whole {n np : Nat} {ls : List Lit} (hls : ∀ L ∈ ls, litN n np L) (hf : ∀ i, i < n → (plan ls ls.length).1.testBit i = true) : (plan ls ls.length).2.2.length = ls.length := by
  have hall : ∀ k, k ≤ ls.length → (plan ls k).2.2.length = k := by
    intro k
    induction k with
    | zero => intro _; rfl
    | succ k ih =>
      intro hk
      have hk2 := ih (by omega)
      by_cases hn : nxt ls (plan ls k).2.1 (plan ls k).1 < 0
      · exfalso
        have hst := plan_stuck hn ls.length (by omega)
        rw [hst] at hf
        have hc := plan_cnt (ls := ls) k
        obtain ⟨i, hi, hb⟩ := cnt_pos (p := fun i => (plan ls k).2.1.testBit i) ls.length (by omega)
        have hb : (plan ls k).2.1.testBit i = true := hb
        have hg := getD_at hi
        have hL := hls _ (List.mem_of_getElem? hg)
        unfold nxt at hn
        by_cases h0 : (ls.getD i dfL).1 = 0
        · split at hn
          · omega
          · have bs := bA_spec (g := gAt ls (plan ls k).2.1 (plan ls k).1) (fun i => gAt_rng) ls.length
            have h2 := bs.2.1 i hi
            have h3 : 0 ≤ gAt ls (plan ls k).2.1 (plan ls k).1 i := by
              unfold gAt
              rw [if_pos ⟨hb, h0⟩]
              omega
            rcases bs.1 with q | ⟨j, q1, q2, q3, q4⟩
            · omega
            · omega
        · have ht : tAt ls (plan ls k).2.1 (plan ls k).1 i = true := by
            unfold tAt
            rw [hb, canL_full hL hf, decide_eq_true h0]
            rfl
          have fs := fT_spec (p := tAt ls (plan ls k).2.1 (plan ls k).1) ls.length
          by_cases hlt : fT (tAt ls (plan ls k).2.1 (plan ls k).1) ls.length < ls.length
          · rw [if_pos hlt] at hn; omega
          · have := fs.2.2 i (by omega)
            rw [ht] at this
            cases this
      · rw [plan, if_neg hn]
        show ((plan ls k).2.2 ++ [_]).length = k + 1
        rw [List.length_append]
        show (plan ls k).2.2.length + 1 = k + 1
        omega
  exact hall ls.length (Nat.le_refl _)
theorem ubd_full {T : Tks} {V : PL} {a hv : Nat} (hV : VOk T V a) (h : ubd V hv = -1) : ∀ i, i < V.length → hv.testBit i = true := by
  unfold ubd at h
  split at h
  · rename_i hc
    have hg : V[fT (fun i => !hv.testBit i) V.length]? = some (V.getD (fT (fun i => !hv.testBit i) V.length) (0, 0)) := by
      rw [List.getD_eq_getElem?_getD, List.getElem?_eq_getElem hc]; rfl
    have := (hV.2.1 _ (List.mem_of_getElem? hg)).1
    omega
  · rename_i hc
    intro i hi
    have := (fT_spec (p := fun i => !hv.testBit i) V.length).2.2 i (by omega)
    simpa using this
def RuOK (np : Nat) (r : Rul) : Prop := 0 ≤ r.1 ∧ r.1 < np ∧ 0 ≤ r.2.1 ∧ r.2.1 ≤ 8 ∧ 0 ≤ r.2.2.1 ∧ r.2.2.1 ≤ 4 ∧ 0 ≤ r.2.2.2.1 ∧ r.2.2.2.1 ≤ 600 ∧ 1 ≤ r.2.2.2.2.length ∧ r.2.2.2.2.length ≤ 6 ∧ (∀ L ∈ r.2.2.2.2, litN r.2.1.toNat np L) ∧ r.2.2.2.2.Pairwise (fun x y => x.2.1 < y.2.1) ∧ ∀ L ∈ r.2.2.2.2, 0 ≤ L.2.1 ∧ L.2.1 ≤ 600 ∧ (0 < r.2.2.1 → r.2.2.2.1 < L.2.1)
theorem RuOK.mono {n m : Nat} {r : Rul} (h : RuOK n r) (hm : n ≤ m) : RuOK m r := by
  obtain ⟨a1, a2, a3, a4, a5, a6, a7, a8, a9, a10, a11, a12⟩ := h
  exact ⟨a1, by omega, a3, a4, a5, a6, a7, a8, a9, a10, fun L hL => (a11 L hL).mono (Nat.le_refl _) hm, a12⟩
def valT (t : Int) : Prop := tmOK t ∧ t < 281474976710656
def FaOK (P : PL) (x : Fct) : Prop := 0 ≤ x.1 ∧ x.1 < P.length ∧ (x.2.length : Int) = szAt P x.1.toNat ∧ ∀ t ∈ x.2, valT t
def WfS (s : PSt) (a : Nat) : Prop := POk s.1 ∧ fOK s.2.2.2 ∧ s.2.1.length ≤ 30 ∧ (∀ r ∈ s.2.1, RuOK s.1.length r) ∧ (s.2.2.2.1 = 0 → ∀ x ∈ s.2.2.1, FaOK s.1 x) ∧ s.2.2.1.length * 5 ≤ a ∧ (s.2.2.2.1 = 0 → ∀ r ∈ s.2.1, (plan r.2.2.2.2 r.2.2.2.2.length).2.2.length = r.2.2.2.2.length)
theorem sz_rg {P : PL} {x s : Int} {i : Nat} (hi : i < P.length) : szAt (rgP P x s) i = szAt P i := by
  unfold rgP
  split
  · rfl
  · unfold szAt
    rw [List.getD_eq_getElem?_getD, List.getD_eq_getElem?_getD, List.getElem?_append_left hi]
theorem sz_rgn {P : PL} {x s : Int} (h : fi P x < P.length → szAt P (fi P x) = s) : szAt (rgP P x s) (fi P x) = s := by
  have hle := fi_le P x
  unfold rgP
  split
  · rename_i hc; exact h hc
  · unfold szAt
    rw [List.getD_eq_getElem?_getD, List.getElem?_append_right (by omega), show fi P x - P.length = 0 by omega]
    rfl
theorem FaOK.rg {P : PL} {x : Fct} {y s : Int} (h : FaOK P x) : FaOK (rgP P y s) x := by
  obtain ⟨a, b, c, d⟩ := h
  have := rg_len (P := P) (x := y) (s := s)
  exact ⟨a, by omega, by rw [sz_rg (by omega)]; exact c, d⟩
theorem opn_none {V : PL} {tot : Int × Int} (h : opn V tot = none) : V = [] := by
  cases V with
  | nil => rfl
  | cons y r => cases h
theorem ntU_ok {f : Int × Int} {u : Int} (h : fOK f) (hu : u = -1 ∨ 0 ≤ u ∧ u ≤ 600) : fOK (ntU f u) ∧ ((ntU f u).1 = 0 → f.1 = 0 ∧ u = -1) := by
  unfold ntU
  split
  · rename_i e; exact ⟨h, fun q => ⟨q, e⟩⟩
  · obtain ⟨a, b⟩ := nt_ok (k := 3) (p := u) h (by decide) (by omega)
    exact ⟨a, fun q => absurd q b⟩
theorem ubd_rng {T : Tks} {nb : Nat} {V : PL} {a hv : Nat} (hT : TOk T nb) (hV : VOk T V a) (ha : a ≤ nb) : ubd V hv = -1 ∨ 0 ≤ ubd V hv ∧ ubd V hv ≤ 600 := by
  unfold ubd
  split
  · rename_i hc
    have hg : V[fT (fun i => !hv.testBit i) V.length]? = some (V.getD (fT (fun i => !hv.testBit i) V.length) (0, 0)) := by
      rw [List.getD_eq_getElem?_getD, List.getElem?_eq_getElem hc]; rfl
    have := hV.2.1 _ (List.mem_of_getElem? hg)
    have := hT.pl ha
    exact Or.inr ⟨by omega, by omega⟩
  · exact Or.inl rfl
theorem VOk_nil {T : Tks} {a : Nat} : VOk T [] a := by
  refine ⟨Nat.zero_le _, ?_, List.Pairwise.nil, ?_⟩
  · intro x hx; cases hx
  · intro x hx; cases hx
theorem ttOK_0 {T : Tks} {a : Nat} : ttOK T (0, 0) a := ⟨Int.le_refl _, by decide, Int.le_refl _, by decide, fun q => absurd q (by decide)⟩
theorem pLit_f0 {T : Tks} {tot : Int × Int} {s s' : BSt} {a a' : Nat} (h : pLit T tot s a = .inr (s', a')) : (s'.2.2.2.2.1 = 0 → s.2.2.2.2.1 = 0) ∧ ∀ x, FaOK s.2.1 x → FaOK s'.2.1 x := by
  have key : ∀ (f : Int × Int) (P : PL) (x s p : Int), (ntS f P x s p).1 = 0 → f.1 = 0 := by
    intro f P x s p q
    unfold ntS at q
    split at q
    · unfold nt at q
      split at q
      · have q : (2 : Int) = 0 := q
        exact absurd q (by decide)
      · exact q
    · exact q
  unfold pLit at h
  split at h
  · split at h
    · cases h
    · injection h with h
      injection h with e1 e2
      subst e1
      exact ⟨key _ _ _ _ _, fun x hx => hx.rg⟩
  · split at h
    · split at h
      · split at h
        · cases h
        · injection h with h
          injection h with e1 e2
          subst e1
          exact ⟨key _ _ _ _ _, fun x hx => hx.rg⟩
      · cases h
    · split at h
      · cases h
      · injection h with h
        injection h with e1 e2
        subst e1
        exact ⟨id, fun x hx => hx⟩
theorem pBody_f0' {T : Tks} {tot : Int × Int} : ∀ (k : Nat) (s s' : BSt) (a a' : Nat), pBody T tot k s a = .inr (s', a') → (s'.2.2.2.2.1 = 0 → s.2.2.2.2.1 = 0) ∧ ∀ x, FaOK s.2.1 x → FaOK s'.2.1 x := by
  intro k
  induction k with
  | zero => intro s s' a a' h; cases h
  | succ k ih =>
    intro s s' a a' h
    cases hp : pLit T tot s a with
    | inl q => rw [pBody_f hp] at h; cases h
    | inr r =>
      obtain ⟨s1, a1⟩ := r
      obtain ⟨x1, x2⟩ := pLit_f0 hp
      rw [pBody_s hp] at h
      split at h
      · injection h with h
        injection h with e1 e2
        subst e1
        exact ⟨x1, x2⟩
      · split at h
        · obtain ⟨y1, y2⟩ := ih _ _ _ _ h
          exact ⟨fun q => x1 (y1 q), fun x hx => y2 x (x2 x hx)⟩
        · cases h
theorem pBody_f0 {T : Tks} {tot : Int × Int} {k : Nat} {s s' : BSt} {a a' : Nat} (h : pBody T tot k s a = .inr (s', a')) (h0 : s'.2.2.2.2.1 = 0) : s.2.2.2.2.1 = 0 := (pBody_f0' k s s' a a' h).1 h0
theorem pBody_fa {T : Tks} {tot : Int × Int} {k : Nat} {s s' : BSt} {a a' : Nat} (h : pBody T tot k s a = .inr (s', a')) {x : Fct} (hx : FaOK s.2.1 x) : FaOK s'.2.1 x := (pBody_f0' k s s' a a' h).2 x hx
theorem pClause_wf {T : Tks} {nb a a' : Nat} {s s' : PSt} (hT : TOk T nb) (h : WfS s a) (ha : a ≤ nb) (hp : pClause T s a = .inr (s', a')) : WfS s' a' ∧ a + 5 ≤ a' ∧ a' ≤ nb := by
  obtain ⟨w1, w2, w3, w4, w5, w6, w7⟩ := h
  unfold pClause at hp
  split at hp
  · cases hp
  · rename_i ar V tot a1 e
    obtain ⟨x1, x2, x3, x4, x5, x6, x7, x8, x9, x10, x11, x12, x13⟩ := pAtom_ok hT w1 VOk_nil ttOK_0 ha e
    obtain ⟨n1, n2⟩ := ntS_ok (f := s.2.2.2) (P := s.1) (x := tV T a) (s := (ar.length : Int)) (p := tP T a) w2 (hT.pl ha)
    split at hp
    · rename_i h8
      have hlt := hT.lt x6 (by omega) (by omega)
      split at hp
      · cases hp
      · rename_i ho
        have hV := opn_none ho
        injection hp with hp
        injection hp with e1 e2
        subst e1 e2
        have l1 := rg_len (P := s.1) (x := tV T a) (s := (ar.length : Int))
        refine ⟨⟨x11, n1, w3, fun r hr => (w4 r hr).mono l1, fun q x hx => ?_, ?_, fun q => w7 (n2 q).1⟩, by omega, by omega⟩
        · obtain ⟨q1, q2⟩ := n2 q
          have hx : x ∈ adF s.2.2.1 (((fi s.1 (tV T a) : Nat) : Int), ar) := hx
          unfold adF at hx
          have hnew : FaOK (rgP s.1 (tV T a) ar.length) (((fi s.1 (tV T a) : Nat) : Int), ar) := by
            refine ⟨by show (0 : Int) ≤ ((fi s.1 (tV T a) : Nat) : Int); omega, by show ((fi s.1 (tV T a) : Nat) : Int) < _; omega, ?_, fun t ht => ?_⟩
            · show (ar.length : Int) = szAt _ (fi s.1 (tV T a))
              rw [sz_rgn q2]
            · have y := x3 t ht
              rw [hV] at y
              refine ⟨y.1, ?_⟩
              have y2 := y.2
              have y3 := x4 rfl t ht
              have y1 := y.1
              unfold tmOK at y1
              have z : ([] : PL).length = 0 := rfl
              rw [z] at y2
              unfold ANYT at y3
              by_cases hge : 281474976710656 ≤ t
              · have := y2 hge
                omega
              · omega
          split at hx
          · exact (w5 q1 x hx).rg
          · rcases List.mem_append.mp hx with hx | hx
            · exact (w5 q1 x hx).rg
            · rw [List.mem_singleton.mp hx]; exact hnew
        · show (adF s.2.2.1 _).length * 5 ≤ a1 + 1
          unfold adF
          split
          · omega
          · rw [List.length_append]; show (s.2.2.1.length + 1) * 5 ≤ a1 + 1; omega
    · split at hp
      · rename_i h11
        have hlt := hT.lt x6 (by omega) (by omega)
        split at hp
        · rename_i h30
          unfold pRule at hp
          split at hp
          · cases hp
          · rename_i s2 a2 e2
            have hm0 := hT.mono (a1 + 1) a (by omega) (by omega)
            obtain ⟨b1, b2, b3, b4, b5, b6, b7⟩ := pBody_ok (lo := if 0 < tot.1 then tot.2 + 1 else 0) hT 6 _ _ s2 a2 ⟨x1.mono hT (show a1 ≤ a1 + 1 by omega) (by omega), x11, n1, (fun L hL => by cases hL), List.Pairwise.nil, (fun L hL => by cases hL), (by
              have y := (x2.mono hT (show a1 ≤ a1 + 1 by omega) (by omega)).2.2.2.2
              have := hT.pl (i := a1 + 1) (by omega)
              split
              · rename_i q; have := y q; omega
              · omega)⟩ (x2.mono hT (show a1 ≤ a1 + 1 by omega) (by omega)) (by omega) e2
            obtain ⟨c1, c2, c3, c4, c5, c6, c7⟩ := b1
            have hlt2 := hT.lt b3 (by omega) (by omega)
            have b5 : s2.1.length ≤ 0 + 6 := b5
            have b6 : 0 < s2.1.length := b6
            obtain ⟨u1, u2⟩ := ntU_ok (u := ubd s2.2.2.1 (plan s2.1 s2.1.length).1) c3 (ubd_rng hT c1 b3)
            injection hp with hp
            injection hp with e3 e4
            subst e3 e4
            have l1 := rg_len (P := s.1) (x := tV T a) (s := (ar.length : Int))
            have l2 : (rgP s.1 (tV T a) (ar.length : Int)).length ≤ s2.2.1.length := b7
            have hV8 := c1.1
            obtain ⟨t1, t2, t3, t4, -⟩ := x2
            have hpl2 := hT.pl (i := a2) b3
            have hn0 : ∀ q : (ntU s2.2.2.2.2 (ubd s2.2.2.1 (plan s2.1 s2.1.length).1)).1 = 0, s.2.2.2.1 = 0 := by
              intro q
              have h1 := (u2 q).1
              have h2 := pBody_f0 e2 h1
              exact (n2 h2).1
            refine ⟨⟨c2, u1, ?_, fun r hr => ?_, fun q x hx => ?_, by show s.2.2.1.length * 5 ≤ a2 + 1; omega, fun q r hr => ?_⟩, by omega, by omega⟩
            · show (s.2.1 ++ [_]).length ≤ 30
              rw [List.length_append]; show s.2.1.length + 1 ≤ 30; omega
            · rcases List.mem_append.mp hr with hr | hr
              · exact (w4 r hr).mono (Nat.le_trans l1 l2)
              · rw [List.mem_singleton.mp hr]
                refine ⟨by show (0 : Int) ≤ ((fi s.1 (tV T a) : Nat) : Int); omega, by show ((fi s.1 (tV T a) : Nat) : Int) < (s2.2.1.length : Int); omega, by show (0 : Int) ≤ (s2.2.2.1.length : Int); omega, by show (s2.2.2.1.length : Int) ≤ 8; omega, t1, t2, t3, t4, b6, by show s2.1.length ≤ 6; omega, c4, c5, fun L hL => ?_⟩
                have y := c6 L hL
                refine ⟨?_, by omega, fun q => ?_⟩
                · have y1 := y.1
                  split at y1
                  · omega
                  · omega
                · have q : 0 < tot.1 := q
                  have y1 := y.1
                  rw [if_pos q] at y1
                  show tot.2 < L.2.1
                  omega
            · have h0 := w5 (hn0 q) x hx
              exact pBody_fa e2 h0.rg
            · rcases List.mem_append.mp hr with hr | hr
              · exact w7 (hn0 q) r hr
              · rw [List.mem_singleton.mp hr]
                exact plan_whole c4 (ubd_full c1 (u2 q).2)
        · cases hp
      · cases hp

/-! literals, bodies, clauses: pure -/
def fOK (f : Int × Int) : Prop := 0 ≤ f.1 ∧ f.1 ≤ 4 ∧ f.1 ≠ 1 ∧ 0 ≤ f.2 ∧ f.2 ≤ 600 ∧ (f.1 = 0 → f.2 = 0)
theorem nt_ok {f : Int × Int} {k p : Int} (h : fOK f) (hk : 2 ≤ k ∧ k ≤ 4) (hp : 0 ≤ p ∧ p ≤ 600) : fOK (nt f k p) ∧ (nt f k p).1 ≠ 0 := by
  unfold nt
  split
  · exact ⟨⟨by show 0 ≤ k; omega, by show k ≤ 4; omega, by show k ≠ 1; omega, hp.1, hp.2, fun q => by have q : k = 0 := q; omega⟩, by show k ≠ 0; omega⟩
  · rename_i hc
    exact ⟨h, by omega⟩
theorem ntS_ok {f : Int × Int} {P : PL} {x s p : Int} (h : fOK f) (hp : 0 ≤ p ∧ p ≤ 600) : fOK (ntS f P x s p) ∧ ((ntS f P x s p).1 = 0 → f.1 = 0 ∧ (fi P x < P.length → szAt P (fi P x) = s)) := by
  unfold ntS
  split
  · obtain ⟨a, b⟩ := nt_ok h (show 2 ≤ (2 : Int) ∧ (2 : Int) ≤ 4 by decide) hp
    exact ⟨a, fun q => absurd q b⟩
  · rename_i hc
    refine ⟨h, fun q => ⟨q, fun q2 => ?_⟩⟩
    by_cases e : szAt P (fi P x) = s
    · exact e
    · exact absurd ⟨q2, e⟩ hc
def litN (n np : Nat) (L : Lit) : Prop := litOK L ∧ tsN n L.2.2.2.2 ∧ L.2.2.1 < np
theorem litN.mono {n np m mp : Nat} {L : Lit} (h : litN n np L) (h1 : n ≤ m) (h2 : np ≤ mp) : litN m mp L := ⟨h.1, h.2.1.mono h1, by have := h.2.2; omega⟩
theorem pTest_ok {T : Tks} {nb a a' np : Nat} {V V' : PL} {L : Lit} (hT : TOk T nb) (h : VOk T V a) (ha : a ≤ nb) (hp : pTest T V a = .inr (L, V', a')) : VOk T V' a' ∧ litN V'.length np L ∧ L.2.1 = tP T a ∧ a < a' ∧ a' ≤ nb ∧ V <+: V' := by
  unfold pTest at hp
  cases e1 : pTerm T V a with
  | inl q => rw [e1] at hp; cases hp
  | inr r1 =>
    obtain ⟨t1, V1, a1⟩ := r1
    rw [e1] at hp
    obtain ⟨x1, x2, x3, x4, x5, x6⟩ := pTerm_ok hT h ha e1
    have hp : (if tK T a = 3 ∧ tK T a1 = 16 then (match pTerm T V1 (a1 + 1) with
      | .inl p => .inl p
      | .inr (t2, V2, a2) => if tK T a2 = 14 ∨ tK T a2 = 15 then (match pTerm T V2 (a2 + 1) with
        | .inl p => .inl p
        | .inr (t3, V3, a3) => .inr ((3, tP T a, -1, 0, [t1, t2, t3]), V3, a3)) else .inl (tP T a2))
      else if tK T a1 = 12 ∨ tK T a1 = 13 then (match pTerm T V1 (a1 + 1) with
      | .inl p => .inl p
      | .inr (t2, V2, a2) => .inr ((2, tP T a, -1, (if tK T a1 = 12 then 1 else 0), [t1, t2]), V2, a2))
      else .inl (tP T a1) : Int ⊕ (Lit × PL × Nat)) = .inr (L, V', a') := hp
    split at hp
    · rename_i hc
      have hlt := hT.lt x5 (by omega) (by omega)
      cases e2 : pTerm T V1 (a1 + 1) with
      | inl q => rw [e2] at hp; cases hp
      | inr r2 =>
        obtain ⟨t2, V2, a2⟩ := r2
        rw [e2] at hp
        obtain ⟨y1, y2, y3, y4, y5, y6⟩ := pTerm_ok hT (x1.mono hT (show a1 ≤ a1 + 1 by omega) (by omega)) (by omega) e2
        have hp : (if tK T a2 = 14 ∨ tK T a2 = 15 then (match pTerm T V2 (a2 + 1) with
          | .inl p => .inl p
          | .inr (t3, V3, a3) => .inr ((3, tP T a, -1, 0, [t1, t2, t3]), V3, a3)) else .inl (tP T a2) : Int ⊕ (Lit × PL × Nat)) = .inr (L, V', a') := hp
        split at hp
        · rename_i hc2
          have hlt2 := hT.lt y5 (by omega) (by omega)
          cases e3 : pTerm T V2 (a2 + 1) with
          | inl q => rw [e3] at hp; cases hp
          | inr r3 =>
            obtain ⟨t3, V3, a3⟩ := r3
            rw [e3] at hp
            obtain ⟨z1, z2, z3, z4, z5, z6⟩ := pTerm_ok hT (y1.mono hT (show a2 ≤ a2 + 1 by omega) (by omega)) (by omega) e3
            injection hp with hp
            injection hp with f1 f2
            injection f2 with f2 f3
            subst f1 f2 f3
            have l1 := pre_len z6
            have l2 := pre_len y6
            have hts : tsN V3.length [t1, t2, t3] := by
              intro t ht
              have ht : t = t1 ∨ t = t2 ∨ t = t3 := by simpa using ht
              rcases ht with rfl | rfl | rfl
              · exact x2.mono (by omega)
              · exact y2.mono (by omega)
              · exact z2
            refine ⟨z1, ⟨⟨hts.ok, by show 3 ≤ 4; decide, Or.inr (Or.inr ⟨rfl, rfl, rfl, rfl, fun t ht => ?_⟩)⟩, hts, by show (-1 : Int) < np; omega⟩, rfl, by omega, z5, (x6.trans y6).trans z6⟩
            have ht : t = t1 ∨ t = t2 ∨ t = t3 := by simpa using ht
            rcases ht with rfl | rfl | rfl
            · exact x3
            · exact y3
            · exact z3
        · cases hp
    · split at hp
      · rename_i hc
        have hlt := hT.lt x5 (by omega) (by omega)
        cases e2 : pTerm T V1 (a1 + 1) with
        | inl q => rw [e2] at hp; cases hp
        | inr r2 =>
          obtain ⟨t2, V2, a2⟩ := r2
          rw [e2] at hp
          obtain ⟨y1, y2, y3, y4, y5, y6⟩ := pTerm_ok hT (x1.mono hT (show a1 ≤ a1 + 1 by omega) (by omega)) (by omega) e2
          injection hp with hp
          injection hp with f1 f2
          injection f2 with f2 f3
          subst f1 f2 f3
          have l2 := pre_len y6
          have hts : tsN V2.length [t1, t2] := by
            intro t ht
            have ht : t = t1 ∨ t = t2 := by simpa using ht
            rcases ht with rfl | rfl
            · exact x2.mono (by omega)
            · exact y2
          refine ⟨y1, ⟨⟨hts.ok, by show 2 ≤ 4; decide, Or.inr (Or.inl ⟨rfl, rfl, ?_, rfl, fun t ht => ?_⟩)⟩, hts, by show (-1 : Int) < np; omega⟩, rfl, by omega, y5, x6.trans y6⟩
          · show (if tK T a1 = 12 then (1 : Int) else 0) = 0 ∨ (if tK T a1 = 12 then (1 : Int) else 0) = 1
            split
            · exact Or.inr rfl
            · exact Or.inl rfl
          · have ht : t = t1 ∨ t = t2 := by simpa using ht
            rcases ht with rfl | rfl
            · exact x3
            · exact y3
      · cases hp
/-- the state of a body is well formed -/
def BOk (T : Tks) (lo : Int) (s : BSt) (a : Nat) : Prop := VOk T s.2.2.1 a ∧ POk s.2.1 ∧ fOK s.2.2.2.2 ∧ (∀ L ∈ s.1, litN s.2.2.1.length s.2.1.length L) ∧ s.1.Pairwise (fun x y => x.2.1 < y.2.1) ∧ (∀ L ∈ s.1, lo ≤ L.2.1 ∧ L.2.1 < tP T a) ∧ lo ≤ tP T a
theorem BOk.mono {T : Tks} {nb a a' : Nat} {lo : Int} {s : BSt} (hT : TOk T nb) (h : BOk T lo s a) (h1 : a ≤ a') (h2 : a' ≤ nb) : BOk T lo s a' := by
  have hm : tP T a ≤ tP T a' := by
    by_cases e : a = a'
    · rw [e]; exact Int.le_refl _
    · exact Int.le_of_lt (hT.mono a' a (by omega) h2)
  exact ⟨h.1.mono hT h1 h2, h.2.1, h.2.2.1, h.2.2.2.1, h.2.2.2.2.1, fun L hL => by have := h.2.2.2.2.2.1 L hL; omega, by have := h.2.2.2.2.2.2; omega⟩
theorem BOk.add {T : Tks} {nb a a' : Nat} {lo : Int} {s : BSt} {L : Lit} {P' V' : PL} {ato : Nat} {f' : Int × Int} (hT : TOk T nb) (h : BOk T lo s a) (h1 : a < a') (h2 : a' ≤ nb) (hV : VOk T V' a') (hVl : s.2.2.1.length ≤ V'.length) (hP : POk P') (hPl : s.2.1.length ≤ P'.length) (hf : fOK f') (hL : litN V'.length P'.length L) (hLp : L.2.1 = tP T a) : BOk T lo (s.1 ++ [L], P', V', ato, f') a' := by
  obtain ⟨-, -, -, b4, b5, b6, b7⟩ := h
  have hm := hT.mono a' a h1 h2
  refine ⟨hV, hP, hf, fun y hy => ?_, ?_, fun y hy => ?_, by omega⟩
  · rcases List.mem_append.mp hy with hy | hy
    · exact (b4 y hy).mono hVl hPl
    · rw [List.mem_singleton.mp hy]; exact hL
  · show (s.1 ++ [L]).Pairwise _
    rw [List.pairwise_append]
    refine ⟨b5, List.pairwise_singleton _ _, fun x hx y hy => ?_⟩
    rw [List.mem_singleton.mp hy, hLp]
    exact (b6 x hx).2
  · rcases List.mem_append.mp hy with hy | hy
    · have := b6 y hy; omega
    · rw [List.mem_singleton.mp hy, hLp]; exact ⟨b7, hm⟩
theorem pLit_ok {T : Tks} {nb a a' : Nat} {lo : Int} {tot : Int × Int} {s s' : BSt} (hT : TOk T nb) (h : BOk T lo s a) (ht : ttOK T tot a) (ha : a ≤ nb) (hp : pLit T tot s a = .inr (s', a')) : BOk T lo s' a' ∧ a < a' ∧ a' ≤ nb ∧ (∃ L, s'.1 = s.1 ++ [L]) ∧ s.2.1.length ≤ s'.2.1.length := by
  obtain ⟨b1, b2, b3, -⟩ := id h
  unfold pLit at hp
  split at hp
  · rename_i h9
    have hlt := hT.lt ha (by omega) (by omega)
    split at hp
    · cases hp
    · rename_i ar V' tt a2 e
      obtain ⟨x1, x2, x3, x4, x5, x6, x7, x8, x9, x10, x11, x12, x13⟩ := pAtom_ok hT b2 (b1.mono hT (show a ≤ a + 1 by omega) (by omega)) (ht.mono hT (show a ≤ a + 1 by omega) (by omega)) (by omega) e
      injection hp with hp
      injection hp with e1 e2
      subst e1 e2
      have l16 := x11.1
      refine ⟨h.add hT (by omega) x6 x1 (pre_len x9) x11 rg_len (ntS_ok b3 (hT.pl (by omega))).1 ⟨⟨x3.ok, x8, Or.inl ⟨Or.inr rfl, by show (0 : Int) ≤ ((fi s.2.1 (tV T (a + 1)) : Nat) : Int); omega, by show ((fi s.2.1 (tV T (a + 1)) : Nat) : Int) < 16; omega, rfl, x7⟩⟩, x3, by show ((fi s.2.1 (tV T (a + 1)) : Nat) : Int) < _; omega⟩ rfl, by omega, x6, ⟨_, rfl⟩, rg_len⟩
  · split at hp
    · rename_i h2
      have hlt := hT.lt ha (by omega) (by omega)
      split at hp
      · split at hp
        · cases hp
        · rename_i ar V' tt a2 e
          obtain ⟨x1, x2, x3, x4, x5, x6, x7, x8, x9, x10, x11, x12, x13⟩ := pAtom_ok hT b2 b1 ht (by omega) e
          injection hp with hp
          injection hp with e1 e2
          subst e1 e2
          have l16 := x11.1
          refine ⟨h.add hT (by omega) x6 x1 (pre_len x9) x11 rg_len (ntS_ok b3 (hT.pl (by omega))).1 ⟨⟨x3.ok, x8, Or.inl ⟨Or.inl rfl, by show (0 : Int) ≤ ((fi s.2.1 (tV T a) : Nat) : Int); omega, by show ((fi s.2.1 (tV T a) : Nat) : Int) < 16; omega, rfl, x7⟩⟩, x3, by show ((fi s.2.1 (tV T a) : Nat) : Int) < _; omega⟩ rfl, by omega, x6, ⟨_, rfl⟩, rg_len⟩
      · cases hp
    · split at hp
      · cases hp
      · rename_i L V' a2 e
        obtain ⟨x1, x2, x3, x4, x5, x6⟩ := pTest_ok (np := s.2.1.length) hT b1 ha e
        injection hp with hp
        injection hp with e1 e2
        subst e1 e2
        exact ⟨h.add hT x4 x5 x1 (pre_len x6) b2 (Nat.le_refl _) b3 x2 x3, x4, x5, ⟨_, rfl⟩, Nat.le_refl _⟩
theorem pBody_ok {T : Tks} {nb : Nat} {lo : Int} {tot : Int × Int} (hT : TOk T nb) : ∀ (k : Nat) (s : BSt) (a : Nat) s' a', BOk T lo s a → ttOK T tot a → a ≤ nb → pBody T tot k s a = .inr (s', a') → BOk T lo s' a' ∧ a < a' ∧ a' ≤ nb ∧ tK T a' = 8 ∧ s'.1.length ≤ s.1.length + k ∧ s.1.length < s'.1.length ∧ s.2.1.length ≤ s'.2.1.length := by
  intro k
  induction k with
  | zero => intro s a s' a' _ _ _ h; cases h
  | succ k ih =>
    intro s a s' a' hB ht ha h
    cases hp : pLit T tot s a with
    | inl q => rw [pBody_f hp] at h; cases h
    | inr r =>
      obtain ⟨s1, a1⟩ := r
      obtain ⟨x1, x2, x3, ⟨L, x4⟩, x5⟩ := pLit_ok hT hB ht ha hp
      have hl : s1.1.length = s.1.length + 1 := by rw [x4, List.length_append]; rfl
      rw [pBody_s hp] at h
      split at h
      · rename_i h8
        injection h with h
        injection h with e1 e2
        subst e1 e2
        exact ⟨x1, x2, x3, h8, by omega, by omega, x5⟩
      · split at h
        · rename_i h7
          have hlt := hT.lt x3 (by omega) (by omega)
          obtain ⟨y1, y2, y3, y4, y5, y6, y7⟩ := ih s1 (a1 + 1) s' a' (x1.mono hT (by omega) (by omega)) (ht.mono hT (show a ≤ a1 + 1 by omega) (by omega)) (by omega) h
          exact ⟨y1, by omega, y3, y4, by omega, by omega, by omega⟩
        · cases h
/-- predicate and values -/
abbrev Fct : Type := Int × List Int
/-- predicates, rules, facts, fault -/
abbrev PSt : Type := PL × List Rul × List Fct × (Int × Int)
def ntU (f : Int × Int) (u : Int) : Int × Int := if u = -1 then f else nt f 3 u
def adF (F : List Fct) (x : Fct) : List Fct := if x ∈ F then F else F ++ [x]
def pRule (T : Tks) (s : PSt) (a : Nat) (ar : List Int) (V : PL) (tot : Int × Int) (a1 : Nat) : Int ⊕ (PSt × Nat) :=
  match pBody T tot 6 ([], rgP s.1 (tV T a) ar.length, V, 0, ntS s.2.2.2 s.1 (tV T a) ar.length (tP T a)) (a1 + 1) with
  | .inl q => .inl q
  | .inr (s', a2) => .inr ((s'.2.1, s.2.1 ++ [(((fi s.1 (tV T a) : Nat) : Int), (s'.2.2.1.length : Int), tot.1, tot.2, s'.1)], s.2.2.1, ntU s'.2.2.2.2 (ubd s'.2.2.1 (plan s'.1 s'.1.length).1)), a2 + 1)
def pClause (T : Tks) (s : PSt) (a : Nat) : Int ⊕ (PSt × Nat) :=
  match pAtom T s.1 true false [] (0, 0) a with
  | .inl q => .inl q
  | .inr (ar, V, tot, a1) =>
    if tK T a1 = 8 then (match opn V tot with
      | some q => .inl q
      | none => .inr ((rgP s.1 (tV T a) ar.length, s.2.1, adF s.2.2.1 (((fi s.1 (tV T a) : Nat) : Int), ar), ntS s.2.2.2 s.1 (tV T a) ar.length (tP T a)), a1 + 1))
    else if tK T a1 = 11 then (if s.2.1.length < 30 then pRule T s a ar V tot a1 else .inl (tP T a))
    else .inl (tP T a1)

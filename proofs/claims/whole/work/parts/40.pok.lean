/-! what the pure reader leaves is well formed -/
def VOk (T : Tks) (V : PL) (a : Nat) : Prop := V.length ≤ 8 ∧ (∀ x ∈ V, 0 ≤ x.2 ∧ x.2 < tP T a) ∧ V.Pairwise (fun x y => x.2 < y.2) ∧ ∀ x ∈ V, 0 ≤ x.1 ∧ x.1 < 268435456
theorem VOk.mono {T : Tks} {nb : Nat} {V : PL} {a a' : Nat} (hT : TOk T nb) (h : VOk T V a) (h1 : a ≤ a') (h2 : a' ≤ nb) : VOk T V a' := by
  refine ⟨h.1, fun x hx => ?_, h.2.2⟩
  have := h.2.1 x hx
  by_cases e : a = a'
  · rw [← e]; exact this
  · have := hT.mono a' a (by omega) h2
    omega
theorem pVar_ok {T : Tks} {nb a a2 i : Nat} {V V' : PL} (hT : TOk T nb) (h : VOk T V a) (ha : a ≤ a2) (ha2 : a2 < nb) (hk : tK T a2 = 3) (hp : pVar V (tV T a2) (tP T a2) = some (i, V')) : VOk T V' (a2 + 1) ∧ i < V'.length ∧ V.length ≤ V'.length ∧ V <+: V' := by
  have hv := h.mono hT (Nat.le_trans ha (Nat.le_of_lt ha2)) (Nat.le_refl nb)
  have hv2 := h.mono hT (show a ≤ a2 + 1 by omega) (by omega)
  have hva := h.mono hT ha (by omega)
  obtain ⟨-, -, -, r3, -⟩ := hT.2.2.1 a2 (by omega)
  have r3 : 0 ≤ tV T a2 ∧ tV T a2 < 268435456 := r3 hk
  unfold pVar at hp
  split at hp
  · rename_i hc
    injection hp with hp
    injection hp with e1 e2
    subst e1 e2
    exact ⟨hv2, hc, Nat.le_refl _, List.prefix_refl _⟩
  · split at hp
    · rename_i hc hl
      injection hp with hp
      injection hp with e1 e2
      subst e1 e2
      have hlt := hT.mono (a2 + 1) a2 (by omega) (by omega)
      have hpl := hT.pl (i := a2) (by omega)
      refine ⟨⟨by rw [List.length_append]; show V.length + 1 ≤ 8; omega, fun x hx => ?_, ?_, fun x hx => ?_⟩, by rw [List.length_append]; show V.length < V.length + 1; omega, by rw [List.length_append]; omega, List.prefix_append _ _⟩
      · rcases List.mem_append.mp hx with hx | hx
        · exact hv2.2.1 x hx
        · rw [List.mem_singleton.mp hx]; exact ⟨hpl.1, hlt⟩
      · rw [List.pairwise_append]
        refine ⟨h.2.2.1, List.pairwise_singleton _ _, fun x hx y hy => ?_⟩
        rw [List.mem_singleton.mp hy]
        exact (hva.2.1 x hx).2
      · rcases List.mem_append.mp hx with hx | hx
        · exact h.2.2.2 x hx
        · rw [List.mem_singleton.mp hx]; exact r3
    · cases hp
/-- a term of a clause with n variables -/
def tmN (n : Nat) (t : Int) : Prop := tmOK t ∧ (281474976710656 ≤ t → t < 4503599627370496 → t < 281474976710656 + n)
theorem tmN.mono {n m : Nat} {t : Int} (h : tmN n t) (hm : n ≤ m) : tmN m t := ⟨h.1, fun a b => by have := h.2 a b; omega⟩
theorem pTerm_ok {T : Tks} {nb a a' : Nat} {V V' : PL} {t : Int} (hT : TOk T nb) (h : VOk T V a) (ha : a ≤ nb) (hp : pTerm T V a = .inr (t, V', a')) : VOk T V' a' ∧ tmN V'.length t ∧ t ≠ ANYT ∧ a < a' ∧ a' ≤ nb ∧ V <+: V' := by
  unfold pTerm at hp
  split at hp
  · rename_i h14
    have hlt := hT.lt ha (by omega) (by omega)
    split at hp
    · rename_i h4
      have hlt2 := hT.lt (a := a + 1) (by omega) (by omega) (by omega)
      obtain ⟨-, -, -, -, r4, -⟩ := hT.2.2.1 (a + 1) (by omega)
      have r4 : 0 ≤ tV T (a + 1) ∧ tV T (a + 1) < 1000000000 := r4 h4
      injection hp with hp
      injection hp with e1 e2
      injection e2 with e2 e3
      subst e1 e2 e3
      exact ⟨h.mono hT (by omega) (by omega), ⟨Or.inl ⟨by omega, by omega⟩, fun q => by omega⟩, by unfold ANYT; omega, by omega, by omega, List.prefix_refl _⟩
    · cases hp
  · unfold pTerm0 at hp
    split at hp
    · rename_i h4
      have hlt := hT.lt ha (by omega) (by omega)
      obtain ⟨-, -, -, -, r4, -⟩ := hT.2.2.1 a (by omega)
      have r4 : 0 ≤ tV T a ∧ tV T a < 1000000000 := r4 h4
      injection hp with hp
      injection hp with e1 e2
      injection e2 with e2 e3
      subst e1 e2 e3
      exact ⟨h.mono hT (by omega) (by omega), ⟨Or.inl ⟨by omega, by omega⟩, fun q => by omega⟩, by unfold ANYT; omega, by omega, by omega, List.prefix_refl _⟩
    · split at hp
      · rename_i h2
        have hlt := hT.lt ha (by omega) (by omega)
        obtain ⟨-, -, r2, -⟩ := hT.2.2.1 a (by omega)
        have r2 : 0 ≤ tV T a ∧ tV T a < 4398046511104 := r2 h2
        injection hp with hp
        injection hp with e1 e2
        injection e2 with e2 e3
        subst e1 e2 e3
        exact ⟨h.mono hT (by omega) (by omega), ⟨Or.inr (Or.inl ⟨by omega, by omega⟩), fun q => by omega⟩, by unfold ANYT; omega, by omega, by omega, List.prefix_refl _⟩
      · split at hp
        · rename_i h3
          have hlt := hT.lt ha (by omega) (by omega)
          split at hp
          · rename_i i V2 hv
            obtain ⟨x1, x2, x3, x4⟩ := pVar_ok hT h (Nat.le_refl _) hlt h3 hv
            have x8 := x1.1
            injection hp with hp
            injection hp with e1 e2
            injection e2 with e2 e3
            subst e1 e2 e3
            exact ⟨x1, ⟨Or.inr (Or.inr (Or.inl ⟨by omega, by omega⟩)), fun q1 q2 => by omega⟩, by unfold ANYT; omega, by omega, by omega, x4⟩
          · cases hp
        · cases hp
theorem pTot_ok {T : Tks} {nb a a' : Nat} {V V' : PL} {t : Int} (hT : TOk T nb) (h : VOk T V a) (ha : a < nb) (hp : pTot T V a = .inr (t, V', a')) : VOk T V' a' ∧ (tmN V'.length t ∧ t ≠ ANYT) ∧ a < a' ∧ a' ≤ nb ∧ V <+: V' := by
  unfold pTot at hp
  split at hp
  · rename_i h5
    have hlt := hT.lt (a := a + 1) (by omega) (by omega) (by omega)
    split at hp
    · rename_i h3
      have hlt2 := hT.lt (a := a + 2) (by omega) (by omega) (by omega)
      split at hp
      · rename_i i V2 hv
        obtain ⟨x1, x2, x3, x4⟩ := pVar_ok hT h (show a ≤ a + 2 by omega) hlt2 h3 hv
        have x8 := x1.1
        split at hp
        · rename_i h6
          have hlt3 := hT.lt (a := a + 3) (by omega) (by omega) (by omega)
          injection hp with hp
          injection hp with e1 e2
          injection e2 with e2 e3
          subst e1 e2 e3
          exact ⟨x1.mono hT (by omega) (by omega), ⟨⟨Or.inr (Or.inr (Or.inl ⟨by omega, by omega⟩)), fun q1 q2 => by omega⟩, by unfold ANYT; omega⟩, by omega, by omega, x4⟩
        · cases hp
      · cases hp
    · cases hp
  · cases hp
/-- the total and its place -/
def ttOK (T : Tks) (tot : Int × Int) (a : Nat) : Prop := 0 ≤ tot.1 ∧ tot.1 ≤ 4 ∧ 0 ≤ tot.2 ∧ tot.2 ≤ 600 ∧ (0 < tot.1 → tot.2 < tP T a)
theorem ttOK.mono {T : Tks} {nb : Nat} {tot : Int × Int} {a a' : Nat} (hT : TOk T nb) (h : ttOK T tot a) (h1 : a ≤ a') (h2 : a' ≤ nb) : ttOK T tot a' := by
  refine ⟨h.1, h.2.1, h.2.2.1, h.2.2.2.1, fun q => ?_⟩
  have := h.2.2.2.2 q
  by_cases e : a = a'
  · rw [← e]; exact this
  · have := hT.mono a' a (by omega) h2
    omega
theorem pArg_ok {T : Tks} {nb a a' : Nat} {hd any : Bool} {V V' : PL} {t : Int} {tot tot' : Int × Int} (hT : TOk T nb) (h : VOk T V a) (ht : ttOK T tot a) (ha : a ≤ nb) (hp : pArg T hd any V tot a = .inr (t, V', tot', a')) : VOk T V' a' ∧ ttOK T tot' a' ∧ tmN V'.length t ∧ (any = false → t ≠ ANYT) ∧ a < a' ∧ a' ≤ nb ∧ V <+: V' ∧ (hd = false → tot' = tot) := by
  unfold pArg at hp
  split at hp
  · rename_i h17
    have hlt := hT.lt ha (by omega) (by omega)
    obtain ⟨-, -, -, -, -, r17⟩ := hT.2.2.1 a (by omega)
    have r17 : 1 ≤ tV T a ∧ tV T a ≤ 4 := r17 h17
    split at hp
    · rename_i hc
      split at hp
      · cases hp
      · rename_i t2 V2 a2 he
        obtain ⟨x1, x2, x3, x4, x5⟩ := pTot_ok hT h hlt he
        injection hp with hp
        injection hp with e1 e2
        injection e2 with e2 e3
        injection e3 with e3 e4
        subst e1 e2 e3 e4
        have hpl := hT.pl (i := a) (by omega)
        have := hT.mono a2 a x3 x4
        exact ⟨x1, ⟨by omega, by omega, by omega, by omega, fun _ => this⟩, x2.1, fun _ => x2.2, x3, x4, x5, fun q => by rw [q] at hc; exact absurd hc.1 (by decide)⟩
    · cases hp
  · split at hp
    · rename_i h10
      have hlt := hT.lt ha (by omega) (by omega)
      split at hp
      · rename_i hany
        injection hp with hp
        injection hp with e1 e2
        injection e2 with e2 e3
        injection e3 with e3 e4
        subst e1 e2 e3 e4
        exact ⟨h.mono hT (by omega) (by omega), ht.mono hT (by omega) (by omega), ⟨Or.inr (Or.inr (Or.inr rfl)), fun q1 q2 => by omega⟩, fun q => by rw [q] at hany; exact absurd hany (by decide), by omega, by omega, List.prefix_refl _, fun _ => rfl⟩
      · cases hp
    · split at hp
      · cases hp
      · rename_i t2 V2 a2 he
        obtain ⟨x1, x2, x3, x4, x5, x6⟩ := pTerm_ok hT h ha he
        injection hp with hp
        injection hp with e1 e2
        injection e2 with e2 e3
        injection e3 with e3 e4
        subst e1 e2 e3 e4
        exact ⟨x1, ht.mono hT (by omega) x5, x2, fun _ => x3, x4, x5, x6, fun _ => rfl⟩
def tsN (n : Nat) (ar : List Int) : Prop := ∀ t ∈ ar, tmN n t
theorem tsN.ok {n : Nat} {ar : List Int} (h : tsN n ar) : tsOK ar := fun t ht => (h t ht).1
theorem tsN.mono {n m : Nat} {ar : List Int} (h : tsN n ar) (hm : n ≤ m) : tsN m ar := fun t ht => (h t ht).mono hm
theorem pre_len {V V' : PL} (h : V <+: V') : V.length ≤ V'.length := h.length_le
theorem pArgs_ok {T : Tks} {nb : Nat} {hd any : Bool} (hT : TOk T nb) : ∀ (k : Nat) (ar : List Int) (V : PL) (tot : Int × Int) (a : Nat) ar' V' tot' a', VOk T V a → ttOK T tot a → a ≤ nb → tsN V.length ar → (any = false → ∀ t ∈ ar, t ≠ ANYT) → pArgs T hd any k ar V tot a = .inr (ar', V', tot', a') → VOk T V' a' ∧ ttOK T tot' a' ∧ tsN V'.length ar' ∧ (any = false → ∀ t ∈ ar', t ≠ ANYT) ∧ a < a' ∧ a' ≤ nb ∧ ar'.length ≤ ar.length + k ∧ V <+: V' ∧ (hd = false → tot' = tot) := by
  intro k
  induction k with
  | zero => intro ar V tot a ar' V' tot' a' _ _ _ _ _ h; cases h
  | succ k ih =>
    intro ar V tot a ar' V' tot' a' hV ht ha hts hany h
    cases hp : pArg T hd any V tot a with
    | inl q => rw [pArgs_f hp] at h; cases h
    | inr r =>
      obtain ⟨t, V1, tot1, a1⟩ := r
      obtain ⟨x1, x2, x3, x4, x5, x6, x7, x8⟩ := pArg_ok hT hV ht ha hp
      have hl := pre_len x7
      have hts1 : tsN V1.length (ar ++ [t]) := by
        intro y hy
        rcases List.mem_append.mp hy with hy | hy
        · exact (hts y hy).mono hl
        · rw [List.mem_singleton.mp hy]; exact x3
      have hany1 : any = false → ∀ y ∈ ar ++ [t], y ≠ ANYT := by
        intro q y hy
        rcases List.mem_append.mp hy with hy | hy
        · exact hany q y hy
        · rw [List.mem_singleton.mp hy]; exact x4 q
      rw [pArgs_s hp] at h
      split at h
      · rename_i h6
        have hlt := hT.lt x6 (by omega) (by omega)
        injection h with h
        injection h with e1 e2
        injection e2 with e2 e3
        injection e3 with e3 e4
        subst e1 e2 e3 e4
        exact ⟨x1.mono hT (by omega) (by omega), x2.mono hT (by omega) (by omega), hts1, hany1, by omega, by omega, by rw [List.length_append]; show ar.length + 1 ≤ _; omega, x7, x8⟩
      · split at h
        · rename_i h7
          have hlt := hT.lt x6 (by omega) (by omega)
          obtain ⟨y1, y2, y3, y4, y5, y6, y7, y8, y9⟩ := ih _ _ _ _ _ _ _ _ (x1.mono hT (show a1 ≤ a1 + 1 by omega) (by omega)) (x2.mono hT (show a1 ≤ a1 + 1 by omega) (by omega)) (by omega) hts1 hany1 h
          refine ⟨y1, y2, y3, y4, by omega, y6, ?_, x7.trans y8, fun q => (y9 q).trans (x8 q)⟩
          rw [List.length_append] at y7
          have y7 : ar'.length ≤ ar.length + 1 + k := y7
          omega
        · cases h
def POk (P : PL) : Prop := P.length ≤ 16 ∧ ∀ x ∈ P, 0 ≤ x.1 ∧ x.1 < 4398046511104 ∧ 1 ≤ x.2 ∧ x.2 ≤ 4
theorem POk.rg {P : PL} {x s : Int} (h : POk P) (hx : 0 ≤ x ∧ x < 4398046511104) (hs : 1 ≤ s ∧ s ≤ 4) (hor : fi P x < P.length ∨ P.length < 16) : POk (rgP P x s) ∧ fi P x < (rgP P x s).length := by
  have hle := fi_le P x
  unfold rgP
  split
  · rename_i hc; exact ⟨h, hc⟩
  · rename_i hc
    refine ⟨⟨by rw [List.length_append]; show P.length + 1 ≤ 16; omega, fun y hy => ?_⟩, by rw [List.length_append]; show fi P x < P.length + 1; omega⟩
    rcases List.mem_append.mp hy with hy | hy
    · exact h.2 y hy
    · rw [List.mem_singleton.mp hy]; exact ⟨hx.1, hx.2, hs.1, hs.2⟩
theorem pAtom_ok {T : Tks} {nb a a' : Nat} {P V V' : PL} {hd any : Bool} {tot tot' : Int × Int} {ar : List Int} (hT : TOk T nb) (hP : POk P) (h : VOk T V a) (ht : ttOK T tot a) (ha : a ≤ nb) (hp : pAtom T P hd any V tot a = .inr (ar, V', tot', a')) : VOk T V' a' ∧ ttOK T tot' a' ∧ tsN V'.length ar ∧ (any = false → ∀ t ∈ ar, t ≠ ANYT) ∧ a + 4 ≤ a' ∧ a' ≤ nb ∧ 1 ≤ ar.length ∧ ar.length ≤ 4 ∧ V <+: V' ∧ (hd = false → tot' = tot) ∧ POk (rgP P (tV T a) ar.length) ∧ fi P (tV T a) < (rgP P (tV T a) ar.length).length ∧ tK T a = 2 := by
  obtain ⟨n1, n2, n3, n4⟩ := pAtom_ne hp
  obtain ⟨-, -, r2, -⟩ := hT.2.2.1 a ha
  have r2 : 0 ≤ tV T a ∧ tV T a < 4398046511104 := r2 n3
  unfold pAtom at hp
  split at hp
  · split at hp
    · rename_i h5
      have hlt := hT.lt ha (by omega) (by omega)
      have hlt2 := hT.lt (a := a + 1) (by omega) (by omega) (by omega)
      obtain ⟨y1, y2, y3, y4, y5, y6, y7, y8, y9⟩ := pArgs_ok hT _ _ _ _ _ _ _ _ _ (h.mono hT (show a ≤ a + 2 by omega) (by omega)) (ht.mono hT (show a ≤ a + 2 by omega) (by omega)) (by omega) (fun t ht => by cases ht) (fun _ t ht => by cases ht) hp
      have y7 : ar.length ≤ 0 + 4 := y7
      obtain ⟨z1, z2⟩ := hP.rg (s := (ar.length : Int)) r2 ⟨by omega, by omega⟩ n4
      exact ⟨y1, y2, y3, y4, n2, y6, n1, by omega, y8, y9, z1, z2, n3⟩
    · cases hp
  · cases hp

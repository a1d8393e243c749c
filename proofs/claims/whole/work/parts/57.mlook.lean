/-! the reference: lookBound -/
def atmA : List Lit → Nat
  | [] => 0
  | L :: r => (if L.1 = 0 then vmA L.2.2.2.2 else 0) ||| atmA r
theorem atmA_app (ls : List Lit) (L : Lit) : atmA (ls ++ [L]) = atmA ls ||| (if L.1 = 0 then vmA L.2.2.2.2 else 0) := by
  induction ls with
  | nil => show (if L.1 = 0 then vmA L.2.2.2.2 else 0) ||| 0 = 0 ||| _; rw [Nat.or_zero, Nat.zero_or]
  | cons x ls ih =>
    show _ ||| atmA (ls ++ [L]) = (_ ||| atmA ls) ||| _
    rw [ih, Nat.or_assoc]
theorem vmA_app (ar : List Int) (t : Int) : vmA (ar ++ [t]) = vmA ar ||| vbN t := by
  induction ar with
  | nil => show vbN t ||| 0 = 0 ||| vbN t; rw [Nat.or_zero, Nat.zero_or]
  | cons x ar ih =>
    show _ ||| vmA (ar ++ [t]) = (_ ||| vmA ar) ||| _
    rw [ih, Nat.or_assoc]
theorem atmA_in {ls : List Lit} : ∀ L ∈ ls, L.1 = 0 → ∀ t ∈ L.2.2.2.2, sub t (atmA ls) = true := by
  induction ls with
  | nil => intro L hL; cases hL
  | cons x ls ih =>
    intro L hL h0 t ht
    show sub t ((if x.1 = 0 then vmA x.2.2.2.2 else 0) ||| atmA ls) = true
    rcases List.mem_cons.mp hL with hL | hL
    · subst hL
      rw [if_pos h0]
      exact sub_mono sle_l (vmA_sle.mp (fun _ z => z) t ht)
    · exact sub_mono sle_r (ih L hL h0 t ht)
theorem atmA_sle {ls : List Lit} {D : Nat} (h : ∀ L ∈ ls, L.1 = 0 → ∀ t ∈ L.2.2.2.2, sub t D = true) : sle (atmA ls) D := by
  induction ls with
  | nil => intro i hi; rw [show atmA [] = 0 from rfl, Nat.zero_testBit] at hi; cases hi
  | cons x ls ih =>
    refine or_sle ?_ (ih (fun L hL => h L (List.mem_cons_of_mem _ hL)))
    split
    · rename_i h0
      exact vmA_sle.mpr (h x (List.mem_cons_self ..) h0)
    · intro i hi; rw [Nat.zero_testBit] at hi; cases hi
theorem b01_inj {a b : Bool} (h : b01 a = b01 b) : a = b := by
  cases a <;> cases b
  · rfl
  · exact absurd h (by decide)
  · exact absurd h (by decide)
  · rfl
abbrev tmA (L : Lit) (k : Nat) : Int := L.2.2.2.2.getD k 0
def satL (L : Lit) (B : Nat) : Prop := (L.1 = 3 → ¬ (kno (tmA L 0) B = false ∧ kno (tmA L 1) B = true ∧ kno (tmA L 2) B = true)) ∧ (L.1 = 2 → L.2.2.2.1 = 1 → kno (tmA L 0) B = kno (tmA L 1) B)
theorem getD_in {ar : List Int} {k : Nat} (h : k < ar.length) : ar[k]? = some (ar.getD k 0) := by
  rw [List.getD_eq_getElem?_getD, List.getElem?_eq_getElem h]; rfl
theorem kno_sub {t : Int} {B : Nat} (h : t ≠ ANYT) : kno t B = sub t B := by
  unfold kno
  rw [decide_eq_true h, Bool.true_and]
theorem all3 {ar : List Int} (h : ar.length = 3) {p : Int → Prop} (h0 : p (ar.getD 0 0)) (h1 : p (ar.getD 1 0)) (h2 : p (ar.getD 2 0)) : ∀ t ∈ ar, p t := by
  match ar, h with
  | [a, b, c], _ =>
    intro t ht
    have ht : t = a ∨ t = b ∨ t = c := by simpa using ht
    rcases ht with rfl | rfl | rfl
    · exact h0
    · exact h1
    · exact h2
theorem all2 {ar : List Int} (h : ar.length = 2) {p : Int → Prop} (h0 : p (ar.getD 0 0)) (h1 : p (ar.getD 1 0)) : ∀ t ∈ ar, p t := by
  match ar, h with
  | [a, b], _ =>
    intro t ht
    have ht : t = a ∨ t = b := by simpa using ht
    rcases ht with rfl | rfl
    · exact h0
    · exact h1
theorem drop1 {ar : List Int} (h : ar.length = 3) {p : Int → Prop} : (∀ t ∈ ar.drop 1, p t) ↔ p (ar.getD 1 0) ∧ p (ar.getD 2 0) := by
  match ar, h with
  | [a, b, c], _ => simp
theorem litOK.k3 {L : Lit} (h : litOK L) (hk : L.1 = 3) : L.2.2.2.1 = 0 ∧ L.2.2.2.2.length = 3 ∧ ∀ t ∈ L.2.2.2.2, t ≠ ANYT := by
  rcases h.2.2 with q | q | q
  · omega
  · omega
  · exact ⟨q.2.2.1, q.2.2.2.1, q.2.2.2.2⟩
theorem litOK.k2 {L : Lit} (h : litOK L) (hk : L.1 = 2) : (L.2.2.2.1 = 0 ∨ L.2.2.2.1 = 1) ∧ L.2.2.2.2.length = 2 ∧ ∀ t ∈ L.2.2.2.2, t ≠ ANYT := by
  rcases h.2.2 with q | q | q
  · omega
  · exact ⟨q.2.2.1, q.2.2.2.1, q.2.2.2.2⟩
  · omega
theorem litOK.kd {L : Lit} (h : litOK L) : L.1 = 0 ∨ L.1 = 1 ∨ L.1 = 2 ∨ L.1 = 3 := by
  rcases h.2.2 with q | q | q
  · omega
  · omega
  · omega
theorem can3 {L : Lit} (h : litOK L) (hk : L.1 = 3) {D : Nat} : canL L D = true ↔ sub (tmA L 1) D = true ∧ sub (tmA L 2) D = true := by
  obtain ⟨h1, h2, h3⟩ := h.k3 hk
  unfold canL
  rw [if_pos h1, if_pos hk, List.all_eq_true]
  exact drop1 h2
theorem can2 {L : Lit} (he : L.2.2.2.1 = 1) {D : Nat} : canL L D = true ↔ sub (tmA L 0) D = true ∨ sub (tmA L 1) D = true := by
  unfold canL
  rw [if_neg (by omega), Bool.or_eq_true]
theorem sat_cl {ls : List Lit} {B : Nat} (hok : ∀ L ∈ ls, litOK L) (h0 : ∀ L ∈ ls, L.1 = 0 → ∀ t ∈ L.2.2.2.2, sub t B = true) (hs : ∀ L ∈ ls, satL L B) : clsd ls B := by
  intro L hL hk
  have ho := hok L hL
  have hsat := hs L hL
  rcases ho.kd with k | k | k | k
  · exact h0 L hL k
  · have hc : canL L B = true := by
      rcases hk with q | q
      · omega
      · exact q
    have he : L.2.2.2.1 = 0 := by
      rcases ho.2.2 with q | q | q
      · exact q.2.2.2.1
      · omega
      · omega
    unfold canL at hc
    rw [if_pos he, if_neg (by omega), List.all_eq_true] at hc
    exact hc
  · have hc : canL L B = true := by
      rcases hk with q | q
      · omega
      · exact q
    obtain ⟨h1, h2, h3⟩ := ho.k2 k
    by_cases he : L.2.2.2.1 = 1
    · have hq := hsat.2 k he
      have a0 : tmA L 0 ≠ ANYT := h3 _ (List.mem_of_getElem? (getD_in (by omega)))
      have a1 : tmA L 1 ≠ ANYT := h3 _ (List.mem_of_getElem? (getD_in (by omega)))
      rw [kno_sub a0, kno_sub a1] at hq
      have := (can2 he).mp hc
      refine all2 h2 ?_ ?_
      · rcases this with q | q
        · exact q
        · exact hq.trans q
      · rcases this with q | q
        · exact hq.symm.trans q
        · exact q
    · unfold canL at hc
      rw [if_pos (by omega), if_neg (by omega), List.all_eq_true] at hc
      exact hc
  · have hc : canL L B = true := by
      rcases hk with q | q
      · omega
      · exact q
    obtain ⟨h1, h2, h3⟩ := ho.k3 k
    have a0 : tmA L 0 ≠ ANYT := h3 _ (List.mem_of_getElem? (getD_in (by omega)))
    have a1 : tmA L 1 ≠ ANYT := h3 _ (List.mem_of_getElem? (getD_in (by omega)))
    have a2 : tmA L 2 ≠ ANYT := h3 _ (List.mem_of_getElem? (getD_in (by omega)))
    obtain ⟨c1, c2⟩ := (can3 ho k).mp hc
    refine all3 h2 ?_ c1 c2
    cases e : sub (tmA L 0) B with
    | true => rfl
    | false => exact absurd ⟨by rw [kno_sub a0]; exact e, by rw [kno_sub a1]; exact c1, by rw [kno_sub a2]; exact c2⟩ (hsat.1 k)
/-- what the loop keeps -/
def bInv (ls : List Lit) (B : Nat) : Prop := (∀ L ∈ ls, L.1 = 0 → ∀ t ∈ L.2.2.2.2, sub t B = true) ∧ ∀ D, clsd ls D → sle B D
theorem bInv3 {ls : List Lit} {B : Nat} {L : Lit} (h : bInv ls B) (hL : L ∈ ls) (ho : litOK L) (hk : L.1 = 3) (c1 : kno (tmA L 1) B = true) (c2 : kno (tmA L 2) B = true) : bInv ls (B ||| vbN (tmA L 0)) := by
  obtain ⟨h1, h2, h3⟩ := ho.k3 hk
  have a1 : tmA L 1 ≠ ANYT := h3 _ (List.mem_of_getElem? (getD_in (by omega)))
  have a2 : tmA L 2 ≠ ANYT := h3 _ (List.mem_of_getElem? (getD_in (by omega)))
  rw [kno_sub a1] at c1
  rw [kno_sub a2] at c2
  refine ⟨fun L' hL' q t ht => sub_mono sle_l (h.1 L' hL' q t ht), fun D hD => or_sle (h.2 D hD) (vbN_sle.mpr ?_)⟩
  have hb := h.2 D hD
  exact hD L hL (Or.inr ((can3 ho hk).mpr ⟨sub_mono hb c1, sub_mono hb c2⟩)) _ (List.mem_of_getElem? (getD_in (by omega)))
theorem bInv2 {ls : List Lit} {B : Nat} {L : Lit} (h : bInv ls B) (hL : L ∈ ls) (ho : litOK L) (hk : L.1 = 2) (he : L.2.2.2.1 = 1) (c : ¬ kno (tmA L 0) B = kno (tmA L 1) B) : bInv ls (B ||| vbN (tmA L 0) ||| vbN (tmA L 1)) := by
  obtain ⟨h1, h2, h3⟩ := ho.k2 hk
  have a0 : tmA L 0 ≠ ANYT := h3 _ (List.mem_of_getElem? (getD_in (by omega)))
  have a1 : tmA L 1 ≠ ANYT := h3 _ (List.mem_of_getElem? (getD_in (by omega)))
  rw [kno_sub a0, kno_sub a1] at c
  have hor : sub (tmA L 0) B = true ∨ sub (tmA L 1) B = true := by
    cases e0 : sub (tmA L 0) B with
    | true => exact Or.inl rfl
    | false =>
      cases e1 : sub (tmA L 1) B with
      | true => exact Or.inr rfl
      | false => exact absurd (e0.trans e1.symm) c
  refine ⟨fun L' hL' q t ht => sub_mono sle_l (sub_mono sle_l (h.1 L' hL' q t ht)), fun D hD => ?_⟩
  have hb := h.2 D hD
  have hall := hD L hL (Or.inr ((can2 he).mpr (hor.elim (fun q => Or.inl (sub_mono hb q)) (fun q => Or.inr (sub_mono hb q)))))
  exact or_sle (or_sle hb (vbN_sle.mpr (hall _ (List.mem_of_getElem? (getD_in (by omega)))))) (vbN_sle.mpr (hall _ (List.mem_of_getElem? (getD_in (by omega)))))
theorem cnt_add {B B' : Nat} {t : Int} (ht : tmOK t) (h : sle B B') (h0 : sub t B = false) (h1 : sub t B' = true) : cnt (fun i => B.testBit i) 8 + 1 ≤ cnt (fun i => B'.testBit i) 8 := by
  rcases rk_c ht with ⟨r1, r2, r3⟩ | ⟨r1, r2, r3, r4, r5, r6, r7⟩ | ⟨r1, r2, r3, r4⟩
  · rw [sub_mono (fun i hi => by rw [Nat.zero_testBit] at hi; cases hi) r3] at h0; cases h0
  · rw [r6] at h0 h1
    exact cnt_str h0 h1 8 r5 (fun i _ q => h i q)
  · rw [r3] at h0; cases h0
theorem nt_nt {f : Int × Int} {p q : Int} (h : p < q) : nt (nt f 3 p) 3 q = nt f 3 p := by
  by_cases c : f.1 = 0 ∨ p < f.2
  · have e : nt f 3 p = (3, p) := if_pos c
    rw [e]
    exact if_neg (by show ¬ ((3 : Int) = 0 ∨ q < p); omega)
  · have e : nt f 3 p = f := if_neg c
    rw [e]
    exact if_neg (by omega)
theorem s_M_lookBound {T : Tks} {nb a c np : Nat} {V : PL} {f : Int × Int} {ls : List Lit} {w : Wo} {K : Wo → Prop} (hs : MS T nb a c V f w) (hl : LsM c ls w) (h6 : ls.length ≤ 6) (hok : ∀ L ∈ ls, litN V.length np L) (hV : V.Pairwise (fun x y => x.2 < y.2)) (hVp : ∀ x ∈ V, 0 ≤ x.2) (h : ∀ w', MS T nb a c V (ntU f (ubd V (plan ls ls.length).1)) w' → FX (fun o k => o = 105 ∨ (o = 78 ∧ (k = 3 ∨ k = 4))) o0 w w' → K w') : MetV m_M_lookBound [vr 78] w K := by
  obtain ⟨t1, t2, t3, ⟨t4, t5⟩, ⟨v1, v2, v3, v4⟩, t6, t7, t8⟩ := id hs
  have lo : ∀ L ∈ ls, litOK L := fun L hL => (hok L hL).1
  have lsw : ∀ w1, FX o5 o0 w w1 → LsM c ls w1 := fun w1 F => hl.fx F (fun o k z => by unfold o5 at z; unfold lsI; omega) (fun o k z => z.elim)
  have msw : ∀ w1, FX o5 o0 w w1 → MS T nb a c V f w1 := fun w1 F => hs.fx F (fun o k z => by unfold o5 at z; unfold msI; omega) (fun o k z => z.elim)
  -- the notes
  have notes : ∀ (B : Nat), (∀ i, (plan ls ls.length).1.testBit i = B.testBit i) → ∀ (m v : Nat) (w1 : Wo), V.length - v ≤ m → v ≤ V.length → MS T nb a c V (if fT (fun i => !B.testBit i) v < v then nt f 3 (V.getD (fT (fun i => !B.testBit i) v) (0, 0)).2 else f) w1 → BdM B w1 → FX (fun o k => o = 105 ∨ (o = 78 ∧ (k = 3 ∨ k = 4))) o0 w w1 → Wp m_M_lookBound 224 [(0, vr 78), (4, vi (v : Int))] [] (0, 0) w1 (fun r w' => r = none ∧ K w') := by
    intro B hB m
    induction m with
    | zero =>
      intro v w1 hm hv m1 b1 F1
      have e : v = V.length := by omega
      subst e
      obtain ⟨q1, q2, q3, ⟨q4, q5⟩, ⟨q6, -⟩, -⟩ := id m1
      refine t_M_lookBound_224 ?_
      rw [q4, show ((c : Int)).toNat = c from rfl, q6]
      refine ⟨⟨by omega, by omega⟩, fun _ => ⟨rfl, h w1 ?_ F1⟩, fun z => by omega⟩
      have ef : (fun i => !(plan ls ls.length).1.testBit i) = (fun i => !B.testBit i) := by funext i; rw [hB i]
      have eu : ntU f (ubd V (plan ls ls.length).1) = (if fT (fun i => !B.testBit i) V.length < V.length then nt f 3 (V.getD (fT (fun i => !B.testBit i) V.length) (0, 0)).2 else f) := by
        unfold ubd
        rw [ef]
        by_cases c1 : fT (fun i => !B.testBit i) V.length < V.length
        · rw [if_pos c1, if_pos c1]
          have hg : V[fT (fun i => !B.testBit i) V.length]? = some (V.getD (fT (fun i => !B.testBit i) V.length) (0, 0)) := by
            rw [List.getD_eq_getElem?_getD, List.getElem?_eq_getElem c1]; rfl
          have := hVp _ (List.mem_of_getElem? hg)
          exact if_neg (by omega)
        · rw [if_neg c1, if_neg c1]
          exact if_pos rfl
      rw [eu]; exact m1
    | succ m ih =>
      intro v w1 hm hv m1 b1 F1
      by_cases hvl : v < V.length
      · obtain ⟨q1, q2, q3, ⟨q4, q5⟩, ⟨q6, q7, q8, q9⟩, -⟩ := id m1
        obtain ⟨x, hx⟩ : ∃ x, V[v]? = some x := ⟨_, List.getElem?_eq_getElem hvl⟩
        have ex : V.getD v (0, 0) = x := by rw [List.getD_eq_getElem?_getD, hx]; rfl
        have pl : gI w1 104 v = x.2 := (q9 v x hx).2
        have fs := fT_spec (p := fun i => !B.testBit i) v
        have fst : fT (fun i => !B.testBit i) (v + 1) = if fT (fun i => !B.testBit i) v < v then fT (fun i => !B.testBit i) v else if (!B.testBit v) = true then v else v + 1 := rfl
        refine t_M_lookBound_224 ?_
        rw [q4, show ((c : Int)).toNat = c from rfl, q6, show ((v : Int)).toNat = v from rfl, b1 v (by omega), pl]
        refine ⟨⟨by omega, by omega⟩, fun z => by omega, fun _ => ⟨⟨by omega, by omega⟩, fun z => ⟨⟨by omega, by omega⟩, ?_⟩, fun z => ⟨⟨by omega, by omega⟩, ?_⟩⟩⟩
        · have eb : B.testBit v = true := by
            cases e : B.testBit v with
            | true => rfl
            | false => rw [e] at z; exact absurd rfl z
          refine ih (v + 1) w1 (by omega) (by omega) ?_ b1 F1
          by_cases c1 : fT (fun i => !B.testBit i) v < v
          · rw [if_pos c1] at m1 fst
            rw [fst, if_pos (by omega)]; exact m1
          · rw [if_neg c1] at m1 fst
            rw [eb] at fst
            have fst : fT (fun i => !B.testBit i) (v + 1) = v + 1 := fst
            rw [fst, if_neg (Nat.lt_irrefl _)]; exact m1
        · have eb : B.testBit v = false := b01_0.mp z
          refine s_M_note m1 (by decide) (fun w4 m4 F4 => ⟨⟨by omega, by omega⟩, ih (v + 1) w4 (by omega) (by omega) ?_ (fun u hu => by rw [F4.1 105 u (by unfold oF; omega)]; exact b1 u hu) (F1.tr (F4.sub (fun o k z => Or.inr z) (fun o k z => z)))⟩)
          by_cases c1 : fT (fun i => !B.testBit i) v < v
          · rw [if_pos c1] at m4 fst
            rw [fst, if_pos (by omega)]
            have hg : V[fT (fun i => !B.testBit i) v]? = some (V.getD (fT (fun i => !B.testBit i) v) (0, 0)) := by
              rw [List.getD_eq_getElem?_getD, List.getElem?_eq_getElem (by omega)]; rfl
            have hlt : (V.getD (fT (fun i => !B.testBit i) v) (0, 0)).2 < x.2 := by
              obtain ⟨g1, g2⟩ := List.getElem?_eq_some_iff.mp hg
              obtain ⟨g3, g4⟩ := List.getElem?_eq_some_iff.mp hx
              have := List.pairwise_iff_getElem.mp hV _ _ g1 g3 c1
              rw [g2, g4] at this
              exact this
            rw [nt_nt hlt] at m4; exact m4
          · rw [if_neg c1] at m4 fst
            rw [eb] at fst
            have fst : fT (fun i => !B.testBit i) (v + 1) = v := fst
            rw [fst, if_pos (by omega), ex]; exact m4
      · exact ih v w1 (by omega) hv m1 b1 F1
  have done : ∀ (B : Nat) (w1 : Wo), bInv ls B → (∀ L ∈ ls, satL L B) → BdM B w1 → FX o5 o0 w w1 → Wp m_M_lookBound 224 [(0, vr 78), (4, vi 0)] [] (0, 0) w1 (fun r w' => r = none ∧ K w') := by
    intro B w1 hI hS b1 F1
    refine notes B (plan_end (sat_cl lo hI.1 hS) hI.2) V.length 0 w1 (by omega) (Nat.zero_le _) ?_ b1 (F1.sub (fun o k z => Or.inl z) (fun o k z => z))
    rw [if_neg (by omega)]
    exact msw w1 F1
  -- the passes
  have pass : ∀ (B : Nat), (∀ (B' : Nat) (w1 : Wo), bInv ls B' → cnt (fun i => B.testBit i) 8 < cnt (fun i => B'.testBit i) 8 → BdM B' w1 → FX o5 o0 w w1 → Wp m_M_lookBound 91 [(0, vr 78), (1, vi (6 * (c : Int))), (2, vi (6 * (c : Int) + (ls.length : Int))), (3, vi 1)] [] (0, 0) w1 (fun r w' => r = none ∧ K w')) → ∀ (m i : Nat) (B' : Nat) (mo : Bool) (w1 : Wo), ls.length - i ≤ m → i ≤ ls.length → bInv ls B' → (mo = false → B' = B ∧ ∀ j L, j < i → ls[j]? = some L → satL L B) → (mo = true → cnt (fun i => B.testBit i) 8 < cnt (fun i => B'.testBit i) 8) → BdM B' w1 → FX o5 o0 w w1 → Wp m_M_lookBound 100 [(0, vr 78), (1, vi (6 * (c : Int))), (2, vi (6 * (c : Int) + (ls.length : Int))), (3, vi (b01 mo)), (4, vi (6 * (c : Int) + (i : Int)))] [] (0, 0) w1 (fun r w' => r = none ∧ K w') := by
    intro B hnext m
    induction m with
    | zero =>
      intro i B' mo w1 hm hi hI hf ht b1 F1
      have e : i = ls.length := by omega
      refine t_M_lookBound_100 ⟨fun _ => ?_, fun z => by omega⟩
      cases mo with
      | true => exact hnext B' w1 hI (ht rfl) b1 F1
      | false =>
        obtain ⟨e1, e2⟩ := hf rfl
        refine t_M_lookBound_91 ⟨fun _ => done B' w1 hI (fun L hL => ?_) b1 F1, fun z => absurd rfl z⟩
        obtain ⟨j, hj⟩ := List.getElem?_of_mem hL
        rw [e1]
        exact e2 j L (by have := (List.getElem?_eq_some_iff.mp hj).1; omega) hj
    | succ m ih =>
      intro i B' mo w1 hm hi hI hf ht b1 F1
      by_cases hil : i < ls.length
      · obtain ⟨L, hL⟩ : ∃ L, ls[i]? = some L := ⟨_, List.getElem?_eq_getElem hil⟩
        have hLm := List.mem_of_getElem? hL
        have ho := lo L hLm
        have tok : ∀ k, k < L.2.2.2.2.length → tmOK (tmA L k) := fun k hk => ho.1 _ (List.mem_of_getElem? (getD_in hk))
        have nx : ∀ (B2 : Nat) (mo2 : Bool) (w2 : Wo), bInv ls B2 → (mo2 = false → B2 = B ∧ (∀ j L, j < i → ls[j]? = some L → satL L B) ∧ satL L B) → (mo2 = true → cnt (fun i => B.testBit i) 8 < cnt (fun i => B2.testBit i) 8) → BdM B2 w2 → FX o5 o0 w w2 → Wp m_M_lookBound 100 [(0, vr 78), (1, vi (6 * (c : Int))), (2, vi (6 * (c : Int) + (ls.length : Int))), (3, vi (b01 mo2)), (4, vi (6 * (c : Int) + (i : Int) + 1))] [] (0, 0) w2 (fun r w' => r = none ∧ K w') := by
          intro B2 mo2 w2 hI2 hf2 ht2 b2 F2
          rw [show 6 * (c : Int) + (i : Int) + 1 = 6 * (c : Int) + ((i + 1 : Nat) : Int) by omega]
          refine ih (i + 1) B2 mo2 w2 (by omega) (by omega) hI2 (fun q => ?_) ht2 b2 F2
          obtain ⟨g1, g2, g3⟩ := hf2 q
          refine ⟨g1, fun j L' hj hL' => ?_⟩
          by_cases ej : j = i
          · subst ej
            rw [hL] at hL'
            injection hL' with hL'
            rw [← hL']; exact g3
          · exact g2 j L' (by omega) hL'
        have at156 : ∀ (B2 : Nat) (mo2 : Bool) (w2 : Wo), bInv ls B2 → (mo2 = false → B2 = B ∧ (∀ j L, j < i → ls[j]? = some L → satL L B) ∧ (L.1 = 3 → satL L B)) → (mo2 = true → cnt (fun i => B.testBit i) 8 < cnt (fun i => B2.testBit i) 8) → BdM B2 w2 → FX o5 o0 w w2 → Wp m_M_lookBound 156 [(0, vr 78), (1, vi (6 * (c : Int))), (2, vi (6 * (c : Int) + (ls.length : Int))), (3, vi (b01 mo2)), (4, vi (6 * (c : Int) + (i : Int)))] [] (0, 0) w2 (fun r w' => r = none ∧ K w') := by
          intro B2 mo2 w2 hI2 hf2 ht2 b2 F2
          obtain ⟨i1, i2, i3, i4, i5, i6⟩ := (lsw w2 F2).2 i L hL
          refine t_M_lookBound_156 ?_
          rw [show (6 * (c : Int) + (i : Int)).toNat = 6 * c + i by omega, i1]
          refine ⟨⟨by omega, by omega⟩, fun z => ⟨⟨by omega, by omega⟩, nx B2 mo2 w2 hI2 (fun q => ?_) ht2 b2 F2⟩, fun z => ⟨⟨by omega, by omega⟩, fun z2 => ⟨⟨by omega, by omega⟩, nx B2 mo2 w2 hI2 (fun q => ?_) ht2 b2 F2⟩, fun z2 => ?_⟩⟩
          · obtain ⟨g1, g2, g3⟩ := hf2 q
            refine ⟨g1, g2, ?_⟩
            by_cases k3 : L.1 = 3
            · exact g3 k3
            · exact ⟨fun q => absurd q k3, fun q => absurd q z⟩
          · obtain ⟨g1, g2, g3⟩ := hf2 q
            exact ⟨g1, g2, ⟨fun q => by omega, fun _ q => absurd ((i4 z).mpr q) z2⟩⟩
          · have he := (i4 z).mp z2
            obtain ⟨u1, u2, u3⟩ := ho.k2 z
            have T0 : TmM (6 * c + i) 0 (tmA L 0) w2 := i6 0 _ (getD_in (by omega))
            have T1 : TmM (6 * c + i) 1 (tmA L 1) w2 := i6 1 _ (getD_in (by omega))
            rw [show 6 * (c : Int) + (i : Int) = ((6 * c + i : Nat) : Int) by omega]
            refine s_M_isBound (k := 0) (by omega) (by decide) (tok 0 (by omega)) T0 b2 (s_M_isBound (k := 1) (by omega) (by decide) (tok 1 (by omega)) T1 b2 ⟨fun z3 => ?_, fun z3 => ?_⟩)
            · have e : kno (tmA L 0) B2 = kno (tmA L 1) B2 := b01_inj z3
              refine ⟨⟨by omega, by omega⟩, ?_⟩
              rw [show ((6 * c + i : Nat) : Int) + 1 = 6 * (c : Int) + (i : Int) + 1 by omega]
              refine nx B2 mo2 w2 hI2 (fun q => ?_) ht2 b2 F2
              obtain ⟨g1, g2, g3⟩ := hf2 q
              refine ⟨g1, g2, ⟨fun q => by omega, fun _ _ => ?_⟩⟩
              rw [← g1]; exact e
            · have hne : ¬ kno (tmA L 0) B2 = kno (tmA L 1) B2 := fun q => z3 (by rw [q])
              refine s_M_bind (k := 0) (by omega) (by decide) (tok 0 (by omega)) T0 b2 (fun w7 b7 F7 => s_M_bind (k := 1) (by omega) (by decide) (tok 1 (by omega)) (T1.fx F7 (by unfold o5; omega) (fun q => q)) b7 (fun w8 b8 F8 => ⟨⟨by omega, by omega⟩, ?_⟩))
              rw [show ((6 * c + i : Nat) : Int) + 1 = 6 * (c : Int) + (i : Int) + 1 by omega]
              refine nx (B2 ||| vbN (tmA L 0) ||| vbN (tmA L 1)) true w8 (bInv2 hI2 hLm ho z he hne) (fun q => by cases q) (fun _ => ?_) b8 ((F2.tr F7).tr F8)
              have a0 : tmA L 0 ≠ ANYT := u3 _ (List.mem_of_getElem? (getD_in (by omega)))
              have a1 : tmA L 1 ≠ ANYT := u3 _ (List.mem_of_getElem? (getD_in (by omega)))
              rw [kno_sub a0, kno_sub a1] at hne
              have base : cnt (fun i => B.testBit i) 8 ≤ cnt (fun i => B2.testBit i) 8 := by
                cases mo2 with
                | true => exact Nat.le_of_lt (ht2 rfl)
                | false => rw [(hf2 rfl).1]; exact Nat.le_refl _
              have big : sle B2 (B2 ||| vbN (tmA L 0) ||| vbN (tmA L 1)) := fun i hi => sle_l i (sle_l i hi)
              have s0' : sub (tmA L 0) (B2 ||| vbN (tmA L 0) ||| vbN (tmA L 1)) = true := vbN_sle.mp (fun i hi => sle_l i (sle_r i hi))
              have s1' : sub (tmA L 1) (B2 ||| vbN (tmA L 0) ||| vbN (tmA L 1)) = true := vbN_sle.mp (fun i hi => sle_r i hi)
              cases q0 : sub (tmA L 0) B2 with
              | false =>
                have := cnt_add (tok 0 (by omega)) big q0 s0'
                omega
              | true =>
                cases q1 : sub (tmA L 1) B2 with
                | false =>
                  have := cnt_add (tok 1 (by omega)) big q1 s1'
                  omega
                | true => exact absurd (q0.trans q1.symm) hne
        obtain ⟨i1, i2, i3, i4, i5, i6⟩ := (lsw w1 F1).2 i L hL
        refine t_M_lookBound_100 ⟨fun z => by omega, fun _ => ?_⟩
        rw [show (6 * (c : Int) + (i : Int)).toNat = 6 * c + i by omega, i1]
        refine ⟨⟨by omega, by omega⟩, fun z => at156 B' mo w1 hI (fun q => ?_) ht b1 F1, fun z => ?_⟩
        · obtain ⟨g1, g2⟩ := hf q
          exact ⟨g1, g2, fun q => absurd q z⟩
        · obtain ⟨u1, u2, u3⟩ := ho.k3 z
          have T0 : TmM (6 * c + i) 0 (tmA L 0) w1 := i6 0 _ (getD_in (by omega))
          have T1 : TmM (6 * c + i) 1 (tmA L 1) w1 := i6 1 _ (getD_in (by omega))
          have T2 : TmM (6 * c + i) 2 (tmA L 2) w1 := i6 2 _ (getD_in (by omega))
          have keep : ¬ (kno (tmA L 0) B' = false ∧ kno (tmA L 1) B' = true ∧ kno (tmA L 2) B' = true) → Wp m_M_lookBound 156 [(0, vr 78), (1, vi (6 * (c : Int))), (2, vi (6 * (c : Int) + (ls.length : Int))), (3, vi (b01 mo)), (4, vi (6 * (c : Int) + (i : Int)))] [] (0, 0) w1 (fun r w' => r = none ∧ K w') := by
            intro hn
            refine at156 B' mo w1 hI (fun q => ?_) ht b1 F1
            obtain ⟨g1, g2⟩ := hf q
            refine ⟨g1, g2, fun _ => ⟨fun _ => ?_, fun q => by omega⟩⟩
            rw [← g1]; exact hn
          rw [show 6 * (c : Int) + (i : Int) = ((6 * c + i : Nat) : Int) by omega] at keep ⊢
          refine s_M_isBound (k := 0) (by omega) (by decide) (tok 0 (by omega)) T0 b1 ⟨fun z3 => keep (fun q => z3 (by rw [q.1]; rfl)), fun z3 => ?_⟩
          refine s_M_isBound (k := 1) (by omega) (by decide) (tok 1 (by omega)) T1 b1 ⟨fun z5 => keep (fun q => by rw [q.2.1] at z5; exact absurd z5 (by decide)), fun z5 => ?_⟩
          refine s_M_isBound (k := 2) (by omega) (by decide) (tok 2 (by omega)) T2 b1 ⟨fun z7 => keep (fun q => by rw [q.2.2] at z7; exact absurd z7 (by decide)), fun z7 => ?_⟩
          have k0 : kno (tmA L 0) B' = false := b01_0.mp z3
          have k1 : kno (tmA L 1) B' = true := by
            cases q : kno (tmA L 1) B' with
            | true => rfl
            | false => rw [q] at z5; exact absurd rfl z5
          have k2 : kno (tmA L 2) B' = true := by
            cases q : kno (tmA L 2) B' with
            | true => rfl
            | false => rw [q] at z7; exact absurd rfl z7
          refine s_M_bind (k := 0) (by omega) (by decide) (tok 0 (by omega)) T0 b1 (fun w8 b8 F8 => ?_)
          rw [show ((6 * c + i : Nat) : Int) = 6 * (c : Int) + (i : Int) by omega]
          refine at156 (B' ||| vbN (tmA L 0)) true w8 (bInv3 hI hLm ho z k1 k2) (fun q => by cases q) (fun _ => ?_) b8 (F1.tr F8)
          have a0 : tmA L 0 ≠ ANYT := u3 _ (List.mem_of_getElem? (getD_in (by omega)))
          rw [kno_sub a0] at k0
          have := cnt_add (tok 0 (by omega)) (show sle B' (B' ||| vbN (tmA L 0)) from sle_l) k0 (vbN_sle.mp sle_r)
          have base : cnt (fun i => B.testBit i) 8 ≤ cnt (fun i => B'.testBit i) 8 := by
            cases mo with
            | true => exact Nat.le_of_lt (ht rfl)
            | false => rw [(hf rfl).1]; exact Nat.le_refl _
          omega
      · exact ih i B' mo w1 (by omega) hi hI hf ht b1 F1
  have whl : ∀ (M : Nat) (B : Nat) (w1 : Wo), 8 - cnt (fun i => B.testBit i) 8 ≤ M → bInv ls B → BdM B w1 → FX o5 o0 w w1 → Wp m_M_lookBound 91 [(0, vr 78), (1, vi (6 * (c : Int))), (2, vi (6 * (c : Int) + (ls.length : Int))), (3, vi 1)] [] (0, 0) w1 (fun r w' => r = none ∧ K w') := by
    intro M
    induction M with
    | zero =>
      intro B w1 hM hI b1 F1
      refine t_M_lookBound_91 ⟨fun z => absurd z (by decide), fun _ => ?_⟩
      have := pass B (fun B' w2 hI2 hlt b2 F2 => by have := cnt_le (p := fun i => B'.testBit i) 8; omega) ls.length 0 B false w1 (by omega) (Nat.zero_le _) hI (fun _ => ⟨rfl, fun j L hj => by omega⟩) (fun q => by cases q) b1 F1
      rw [show 6 * (c : Int) + ((0 : Nat) : Int) = 6 * (c : Int) by omega] at this
      exact this
    | succ M ih =>
      intro B w1 hM hI b1 F1
      refine t_M_lookBound_91 ⟨fun z => absurd z (by decide), fun _ => ?_⟩
      have := pass B (fun B' w2 hI2 hlt b2 F2 => ih B' w2 (by omega) hI2 b2 F2) ls.length 0 B false w1 (by omega) (Nat.zero_le _) hI (fun _ => ⟨rfl, fun j L hj => by omega⟩) (fun q => by cases q) b1 F1
      rw [show 6 * (c : Int) + ((0 : Nat) : Int) = 6 * (c : Int) by omega] at this
      exact this
  -- the atoms
  have atoms : ∀ (m i : Nat) (w1 : Wo), ls.length - i ≤ m → i ≤ ls.length → BdM (atmA (ls.take i)) w1 → FX o5 o0 w w1 → Wp m_M_lookBound 43 [(0, vr 78), (1, vi (6 * (c : Int))), (2, vi (6 * (c : Int) + (ls.length : Int))), (3, vi (6 * (c : Int) + (i : Int)))] [] (0, 0) w1 (fun r w' => r = none ∧ K w') := by
    intro m
    induction m with
    | zero =>
      intro i w1 hm hi b1 F1
      have e : i = ls.length := by omega
      rw [e, List.take_length] at b1
      refine t_M_lookBound_43 ⟨fun _ => whl 8 (atmA ls) w1 (by omega) ⟨atmA_in, fun D hD => atmA_sle (fun L hL h0 => hD L hL (Or.inl h0))⟩ b1 F1, fun z => by omega⟩
    | succ m ih =>
      intro i w1 hm hi b1 F1
      by_cases hil : i < ls.length
      · obtain ⟨L, hL⟩ : ∃ L, ls[i]? = some L := ⟨_, List.getElem?_eq_getElem hil⟩
        have hLm := List.mem_of_getElem? hL
        have ho := lo L hLm
        have htk := take_s hL
        obtain ⟨i1, i2, i3, i4, i5, i6⟩ := (lsw w1 F1).2 i L hL
        refine t_M_lookBound_43 ⟨fun z => by omega, fun _ => ?_⟩
        rw [show (6 * (c : Int) + (i : Int)).toNat = 6 * c + i by omega, i1]
        refine ⟨⟨by omega, by omega⟩, fun z => ⟨⟨by omega, by omega⟩, ?_⟩, fun z => ?_⟩
        · rw [show 6 * (c : Int) + (i : Int) + 1 = 6 * (c : Int) + ((i + 1 : Nat) : Int) by omega]
          refine ih (i + 1) w1 (by omega) (by omega) ?_ F1
          rw [htk, atmA_app, if_neg z, Nat.or_zero]; exact b1
        · have inner : ∀ (m2 k : Nat) (w2 : Wo), L.2.2.2.2.length - k ≤ m2 → k ≤ L.2.2.2.2.length → BdM (atmA (ls.take i) ||| vmA (L.2.2.2.2.take k)) w2 → FX o5 o0 w w2 → Wp m_M_lookBound 60 [(0, vr 78), (1, vi (6 * (c : Int))), (2, vi (6 * (c : Int) + (ls.length : Int))), (3, vi (6 * (c : Int) + (i : Int))), (4, vi (k : Int))] [] (0, 0) w2 (fun r w' => r = none ∧ K w') := by
            intro m2
            induction m2 with
            | zero =>
              intro k w2 hm2 hk b2 F2
              have ek : k = L.2.2.2.2.length := by omega
              obtain ⟨j1, j2, j3, j4, j5, j6⟩ := (lsw w2 F2).2 i L hL
              refine t_M_lookBound_60 (met_of (by decide) rfl (Nat.le_of_ble_eq_true rfl) (t_M_predicateSizeOf_0 ?_))
              rw [show (6 * (c : Int) + (i : Int)).toNat = 6 * c + i by omega, (j3 (Or.inl z)).2]
              refine ⟨⟨by omega, by omega⟩, ⟨_, rfl, fun _ => ⟨⟨by omega, by omega⟩, ?_⟩, fun q => by omega⟩⟩
              rw [show 6 * (c : Int) + (i : Int) + 1 = 6 * (c : Int) + ((i + 1 : Nat) : Int) by omega]
              refine ih (i + 1) w2 (by omega) (by omega) ?_ F2
              rw [htk, atmA_app, if_pos z]
              rw [ek, List.take_length] at b2
              exact b2
            | succ m2 ih2 =>
              intro k w2 hm2 hk b2 F2
              by_cases hkl : k < L.2.2.2.2.length
              · obtain ⟨j1, j2, j3, j4, j5, j6⟩ := (lsw w2 F2).2 i L hL
                have ht := getD_in hkl
                refine t_M_lookBound_60 (met_of (by decide) rfl (Nat.le_of_ble_eq_true rfl) (t_M_predicateSizeOf_0 ?_))
                rw [show (6 * (c : Int) + (i : Int)).toNat = 6 * c + i by omega, (j3 (Or.inl z)).2]
                refine ⟨⟨by omega, by omega⟩, ⟨_, rfl, fun q => by omega, fun _ => ?_⟩⟩
                rw [show 6 * (c : Int) + (i : Int) = ((6 * c + i : Nat) : Int) by omega]
                refine s_M_bind (by omega) (by omega) (ho.1 _ (List.mem_of_getElem? ht)) (j6 k _ ht) b2 (fun w3 b3 F3 => ⟨⟨by omega, by omega⟩, ?_⟩)
                rw [show ((6 * c + i : Nat) : Int) = 6 * (c : Int) + (i : Int) by omega]
                refine ih2 (k + 1) w3 (by omega) (by omega) ?_ (F2.tr F3)
                rw [take_s ht, vmA_app, ← Nat.or_assoc]; exact b3
              · exact ih2 k w2 (by omega) hk b2 F2
          refine inner L.2.2.2.2.length 0 w1 (by omega) (Nat.zero_le _) ?_ F1
          rw [List.take_zero, show vmA [] = 0 from rfl, Nat.or_zero]; exact b1
      · exact ih i w1 (by omega) hi b1 F1
  -- the clearing
  have clr : ∀ (m v : Nat) (w1 : Wo), 9 - v ≤ m → v ≤ 9 → (∀ u, u < v → gI w1 105 u = 0) → FX o5 o0 w w1 → Wp m_M_lookBound 2 [(0, vr 78), (1, vi (v : Int))] [] (0, 0) w1 (fun r w' => r = none ∧ K w') := by
    intro m
    induction m with
    | zero =>
      intro v w1 hm hv hu F1
      have ms := msw w1 F1
      have l1 := lsw w1 F1
      refine t_M_lookBound_2 ⟨fun _ => ?_, fun z => by omega⟩
      rw [ms.2.2.2.1.1, show ((c : Int)).toNat = c from rfl, l1.1]
      have := atoms ls.length 0 w1 (by omega) (Nat.zero_le _) (fun u hu9 => by rw [hu u (by omega)]; show (0 : Int) = b01 ((0 : Nat).testBit u); rw [Nat.zero_testBit]; rfl) F1
      rw [show 6 * (c : Int) + ((0 : Nat) : Int) = 6 * (c : Int) by omega] at this
      exact ⟨⟨by omega, by omega⟩, ⟨by omega, by omega⟩, ⟨by omega, by omega⟩, this⟩
    | succ m ih =>
      intro v w1 hm hv hu F1
      by_cases hv9 : v < 9
      · refine t_M_lookBound_2 ⟨fun z => by omega, fun _ => ⟨⟨by omega, by omega⟩, fun w3 e3 => ⟨⟨by omega, by omega⟩, ?_⟩⟩⟩
        refine ih (v + 1) w3 (by omega) (by omega) (fun u hu2 => ?_) (by rw [e3]; exact F1.uI rfl)
        rw [e3, gI_uI, show ((v : Int)).toNat = v from rfl]
        by_cases eu : u = v
        · rw [if_pos ⟨rfl, eu⟩]
        · rw [if_neg (fun q => eu q.2)]; exact hu u (by omega)
      · exact ih v w1 (by omega) hv hu F1
  exact met_of (by decide) rfl (Nat.le_of_ble_eq_true rfl) (t_M_lookBound_0 (clr 9 0 w (by omega) (Nat.zero_le _) (fun u hu => by omega) FX.rf))

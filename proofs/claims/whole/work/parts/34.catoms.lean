/-! the class reads an atom or a head -/
def tsOK (ar : List Int) : Prop := ∀ t ∈ ar, tmOK t
theorem tsOK.add {ar : List Int} {t : Int} (h : tsOK ar) (ht : tmOK t) : tsOK (ar ++ [t]) := by
  intro x hx
  rcases List.mem_append.mp hx with hx | hx
  · exact h x hx
  · rw [List.mem_singleton.mp hx]; exact ht
theorem pArgs_s {T : Tks} {hd any : Bool} {k : Nat} {ar : List Int} {V : PL} {tot : Int × Int} {a : Nat} {t : Int} {V' : PL} {tot' : Int × Int} {a' : Nat} (h : pArg T hd any V tot a = .inr (t, V', tot', a')) : pArgs T hd any (k + 1) ar V tot a = if tK T a' = 6 then .inr (ar ++ [t], V', tot', a' + 1) else if tK T a' = 7 then pArgs T hd any k (ar ++ [t]) V' tot' (a' + 1) else .inl (tP T a') := by
  rw [pArgs, h]
theorem pArgs_f {T : Tks} {hd any : Bool} {k : Nat} {ar : List Int} {V : PL} {tot : Int × Int} {a : Nat} {q : Int} (h : pArg T hd any V tot a = .inl q) : pArgs T hd any (k + 1) ar V tot a = .inl q := by
  rw [pArgs, h]
theorem l_args {T : Tks} {nb l : Nat} {f : Int × Int} {sz ato k p ask eq x2 : Int} {K : Int → Wo → Prop} {hd any : Bool} (hT : TOk T nb) (hl : isLt l) (hkk : hd = decide (k = 4)) : ∀ (m : Nat) (ar : List Int) (V : PL) (tot : Int × Int) (a : Nat) (w : Wo), ar.length + m = 4 → CS T nb a V tot f sz ato w → LiC l k p ask eq ar w → tsOK ar → (any = true ↔ ¬ (k = 4 ∨ k = 0 ∧ 0 < tot.1)) →
    (∀ ar' V' tot' a' w', pArgs T hd any m ar V tot a = .inr (ar', V', tot', a' + 1) → tK T a' = 6 → ar' ≠ [] → tsOK ar' → (hd = false → tot' = tot) → CS T nb a' V' tot' f sz ato w' → LiC l k p ask eq ar' w' → FT l w w' → isBk (gP w' 4 3) ∧ MetI m_Bk_agrees [vr (gP w' 4 3), vi (gI w' l 2), vi (gI w' l 4)] w' (fun z5 w4 => ((¬ z5 = 0 → MetI m_Rd_take [vr 4, vi 6] w4 (fun z7 w6 => (z7 = 0 ∨ z7 = 1) ∧ ∃ y, (some (vi z7) : Option AV) = some (vi y) ∧ K y w6)) ∧ (z5 = 0 → MetV m_Rd_note [vr 4, vi 2, vi x2] w4 (fun w8 => MetI m_Rd_take [vr 4, vi 6] w8 (fun z10 w9 => (z10 = 0 ∨ z10 = 1) ∧ ∃ y, (some (vi z10) : Option AV) = some (vi y) ∧ K y w9)))))) →
    (∀ q w', pArgs T hd any m ar V tot a = .inl q → FP q w' → FT l w w' → K 0 w') →
    Wp m_Rd_readAtom 76 [(0, vr 4), (1, vr l), (2, vi x2), (3, vi (ar.length : Int))] [] (0, 0) w (fun r w' => ∃ y, r = some (vi y) ∧ K y w') := by
  intro m
  induction m with
  | zero =>
    intro ar V tot a w hm hs hL hok hany hC h0
    obtain ⟨a1, a2, a3, a4⟩ := hs.2.2.1
    refine t_Rd_readAtom_76 hl ⟨fun _ => ?_, fun z => by omega⟩
    rw [a3]
    exact s_Rd_refuse (fun w' c F => ⟨Or.inl rfl, kI (h0 _ w' rfl c (FT.a F))⟩)
  | succ m ih =>
    intro ar V tot a w hm hs hL hok hany hC h0
    obtain ⟨a1, a2, a3, a4⟩ := hs.2.2.1
    have h4 : ar.length < 4 := by omega
    have fail : ∀ q w1, pArg T hd any V tot a = .inl q → FP q w1 → FT l w w1 → Wp m_Rd_readAtom 120 [(0, vr 4), (1, vr l), (2, vi x2), (3, vi (ar.length : Int))] [vi 0] (0, 0) w1 (fun r w' => ∃ y, r = some (vi y) ∧ K y w') := by
      intro q w1 hq c1 F1
      exact t_Rd_readAtom_120 hl ⟨fun z => absurd rfl z, fun _ => kI (h0 q w1 (pArgs_f hq) c1 F1)⟩
    have next : ∀ t V' tot' a' w1, pArg T hd any V tot a = .inr (t, V', tot', a') → tmOK t → (hd = false → tot' = tot) → CS T nb a' V' tot' f sz ato w1 → LiC l k p ask eq (ar ++ [t]) w1 → FT l w w1 → Wp m_Rd_readAtom 120 [(0, vr 4), (1, vr l), (2, vi x2), (3, vi (ar.length : Int))] [vi 1] (0, 0) w1 (fun r w' => ∃ y, r = some (vi y) ∧ K y w') := by
      intro t V' tot' a' w1 hq ht htt c1 L1 F1
      obtain ⟨d1, d2, d3, d4⟩ := c1.2.2.1
      have hal : (ar ++ [t]).length = ar.length + 1 := by rw [List.length_append]; rfl
      refine t_Rd_readAtom_120 hl ⟨fun _ => ⟨fun z => ?_, fun z => ?_⟩, fun z => absurd z (by decide)⟩
      · rw [d2] at z
        refine s_Rd_take hT c1 (by decide) (fun q7 w2 c2 F2 => ⟨fun _ => ⟨⟨by omega, by omega⟩, ?_⟩, fun q => absurd q (by decide)⟩) (fun q7 w2 c2 F2 => ⟨fun q => absurd rfl q, fun _ => kI (h0 _ w2 (by rw [pArgs_s hq, if_neg z, if_neg q7]) c2 (F1.tr (FT.a F2)))⟩)
        have e : pArgs T hd any (m + 1) ar V tot a = pArgs T hd any m (ar ++ [t]) V' tot' (a' + 1) := by rw [pArgs_s hq, if_neg z, if_pos q7]
        rw [e] at hC h0
        have hany' : any = true ↔ ¬ (k = 4 ∨ k = 0 ∧ 0 < tot'.1) := by
          by_cases hk4 : k = 4
          · rw [hany]
            constructor
            · intro q; exact absurd (Or.inl hk4) q
            · intro q; exact absurd (Or.inl hk4) q
          · rw [htt (by rw [hkk]; simp [hk4])]; exact hany
        have := ih (ar ++ [t]) V' tot' (a' + 1) w2 (by omega) c2 (L1.f4 hl F2) (hok.add ht) hany' (fun ar' V2 t2 a2 w3 x1 x2 x3 x4 x5 x6 x7 x8 => hC ar' V2 t2 a2 w3 x1 x2 x3 x4 (fun y => (x5 y).trans (htt y)) x6 x7 ((F1.tr (FT.a F2)).tr x8)) (fun q w3 x1 x2 x3 => h0 q w3 x1 x2 ((F1.tr (FT.a F2)).tr x3))
        rw [hal] at this
        exact this
      · rw [d2] at z
        exact hC (ar ++ [t]) V' tot' a' w1 (by rw [pArgs_s hq, if_pos z]) z (by simp) (hok.add ht) htt c1 L1 F1
    refine t_Rd_readAtom_76 hl ⟨fun z => by omega, fun _ => ⟨fun z => ⟨fun z2 => ?_, fun z2 => ?_⟩, fun z => ?_⟩⟩
    · rw [a2] at z z2
      refine s_Rd_readTerm hT hs hl hL h4 (fun t V' a' hp ht w1 c1 L1 F1 => next t V' tot a' w1 ?_ ht (fun _ => rfl) c1 L1 F1) (fun q hp w1 c1 F1 => fail q w1 ?_ c1 F1)
      · unfold pArg; rw [if_neg z, if_neg z2, hp]
      · unfold pArg; rw [if_neg z, if_neg z2, hp]
    · rw [a2] at z z2
      refine s_Rd_readAnything hT hs hl hL h4 z2 (fun hc w1 c1 L1 F1 => next _ V tot (a + 1) w1 ?_ (Or.inr (Or.inr (Or.inr rfl))) (fun _ => rfl) c1 L1 F1) (fun hc w1 c1 F1 => fail _ w1 ?_ c1 F1)
      · unfold pArg; rw [if_neg z, if_pos z2, if_pos (hany.mpr hc)]
      · unfold pArg; rw [if_neg z, if_pos z2, if_neg (fun q => hany.mp q hc)]
    · rw [a2] at z
      refine s_Rd_readTotal hT hs hl hL h4 z (fun hk4 ht0 t V' a' hp ht w1 c1 L1 F1 => next t V' (tV T a, tP T a) a' w1 ?_ ht (fun q => ?_) c1 L1 F1) (fun q hq1 hq2 w1 c1 F1 => fail q w1 ?_ c1 F1)
      · unfold pArg; rw [if_pos z, if_pos ⟨by rw [hkk]; simp [hk4], ht0⟩, hp]
      · rw [hkk] at q; simp [hk4] at q
      · unfold pArg
        rw [if_pos z]
        by_cases hc : k = 4 ∧ tot.1 ≤ 0
        · rw [if_pos ⟨by rw [hkk]; simp [hc.1], hc.2⟩, hq2 hc]
        · rw [if_neg (fun q => hc ⟨by have := q.1; rw [hkk] at this; simpa using this, q.2⟩), hq1 hc]
/-- what reading an atom may change -/
abbrev FA (b l : Nat) (w w' : Wo) : Prop := Frm [4, 9, 15, l, l + 2, b, b + 14, b + 15, b + 16, b + 17, b + 18] [4, 14, l + 1, b + 13] w w'
theorem FA.t {b l : Nat} {w w' : Wo} (h : FT l w w') : FA b l w w' := h.sub (by simp) (by simp)
theorem FA.b {b l : Nat} {w w' : Wo} (h : FB b w w') : FA b l w w' := h.sub (by simp) (by simp)
theorem FA.l {b l : Nat} {w w' : Wo} (h : Frm [l] [] w w') : FA b l w w' := h.sub (by simp) (by simp)
theorem FA.a {b l : Nat} {w w' : Wo} (h : Frm [4] [4] w w') : FA b l w w' := h.sub (by simp) (by simp)
theorem rg_set {P : PL} {x s : Int} : (P ++ [(x, 0)]).set P.length (x, s) = P ++ [(x, s)] := by
  rw [List.set_append_right (h := Nat.le_refl _), Nat.sub_self]
  rfl
theorem LiC.ask {l : Nat} {k p ask eq z : Int} {ar : List Int} {w w' : Wo} (h : LiC l k p ask eq ar w) (e : w' = uI w l 2 z) : LiC l k p z eq ar w' := by
  obtain ⟨h0, h1, h2, h3, h4, h5, h6⟩ := h
  refine ⟨?_, ?_, ?_, ?_, ?_, h5, fun i x hx => ?_⟩
  · rw [e, gI_uI, if_neg (by omega)]; exact h0
  · rw [e, gI_uI, if_neg (by omega)]; exact h1
  · rw [e, gI_uI, if_pos ⟨rfl, rfl⟩]
  · rw [e, gI_uI, if_neg (by omega)]; exact h3
  · rw [e, gI_uI, if_neg (by omega)]; exact h4
  · rw [e, gJ_uI, gI_uI, if_neg (by omega)]; exact h6 i x hx
theorem s_Rd_readAtom {T : Tks} {nb a l b : Nat} {V P : PL} {tot f : Int × Int} {sz ato k p ask eq : Int} {N : Nat → Int × Int × Int} {w : Wo} {K : Int → Wo → Prop} {hd any : Bool} (hT : TOk T nb) (hs : CS T nb a V tot f sz ato w) (hl : isLt l) (hL : LiC l k p ask eq [] w) (hb : isBk b) (hbt : gP w 4 3 = b) (hB : BkC b P N w) (hz : ∀ p, P.length ≤ p → N p = (0, 0, 0)) (hsz : ∀ x ∈ P, 1 ≤ x.2) (hkk : hd = decide (k = 4)) (hany : any = true ↔ ¬ (k = 4 ∨ k = 0 ∧ 0 < tot.1))
    (h1 : ∀ ar V' tot' a', pAtom T P hd any V tot a = .inr (ar, V', tot', a') → ar ≠ [] → tsOK ar → (hd = false → tot' = tot) → ∀ w', CS T nb a' V' tot' (ntS f P (tV T a) ar.length (tP T a)) sz ato w' → LiC l k p (fi P (tV T a) : Nat) eq ar w' → BkC b (rgP P (tV T a) ar.length) N w' → FA b l w w' → K 1 w')
    (h0 : ∀ q, pAtom T P hd any V tot a = .inl q → ∀ w', FP q w' → FA b l w w' → K 0 w') : MetI m_Rd_readAtom [vr 4, vr l] w K := by
  have h600 := hT.1
  have ha := hs.2.1
  obtain ⟨a1, a2, a3, a4⟩ := hs.2.2.1
  have lc := lt_c hl
  have bc := bk_c hb
  refine met_of (by decide) rfl (Nat.le_of_ble_eq_true rfl) (t_Rd_readAtom_0 hl ⟨fun z => ?_, fun z => ?_⟩)
  · rw [a2] at z
    have hlt := hT.lt ha (by omega) (by omega)
    rw [hbt, a4]
    -- behind numberOf: world w2 with the predicates P1, number i
    have mid : ∀ (i : Nat) (P1 : PL) (s0 : Int) (w2 : Wo), i = fi P (tV T a) → P1[i]? = some (tV T a, s0) → (fi P (tV T a) < P.length ∨ P.length < 16) → CS T nb a V tot f sz ato w2 → LiC l k p ask eq [] w2 → BkC b P1 N w2 → FA b l w w2 → (∀ s : Int, 1 ≤ s → (s0 = 0 → P1.set i (tV T a, s) = rgP P (tV T a) s ∧ ntS f P (tV T a) s (tP T a) = f) ∧ (s0 ≠ 0 → P1 = rgP P (tV T a) s ∧ ntS f P (tV T a) s (tP T a) = if s0 = s then f else nt f 2 (tP T a))) → (∀ w4 : Wo, w4 = uI w2 l 2 (i : Int) → ((¬ (gI w4 l 2) = (-1) → inr32 ((gI w4 4 6) + 1) ∧ MetV m_Rd_moveTo [vr 4, vi ((gI w4 4 6) + 1)] w4 (fun w6 => MetI m_Rd_take [vr 4, vi 5] w6 (fun z8 w7 => ((¬ z8 = 0 → Wp m_Rd_readAtom 76 [(0, vr 4), (1, vr l), (2, vi (gI w 4 8)), (3, vi 0)] [] (0, 0) w7 (fun r w' => ∃ y, r = some (vi y) ∧ K y w')) ∧ (z8 = 0 → ∃ y, (some (vi 0) : Option AV) = some (vi y) ∧ K y w7))))) ∧ ((gI w4 l 2) = (-1) → MetI m_Rd_refuse [vr 4, vi (gI w4 4 8)] w4 (fun z10 w9 => (z10 = 0 ∨ z10 = 1) ∧ ∃ y, (some (vi z10) : Option AV) = some (vi y) ∧ K y w9)))) := by
      intro i P1 s0 w2 hi hP1 hor c2 L2 B2 F2 hfin w4 e4
      have L4 := L2.ask e4
      have F24 : Frm [l] [] w2 w4 := by rw [e4]; exact Frm.rf.uI (by simp)
      have c4 : CS T nb a V tot f sz ato w4 := c2.frm F24 (by simp; omega) (by simp)
      have B4 : BkC b P1 N w4 := B2.frm F24 (by simp; omega) (by simp)
      have F4 : FA b l w w4 := F2.tr (FA.l F24)
      have q4 : gI w4 l 2 = (i : Int) := L4.2.2.1
      have g4 : gI w4 4 6 = (a : Int) := c4.2.2.1.1
      rw [q4, g4]
      refine ⟨fun _ => ⟨⟨by omega, by omega⟩, s_Rd_moveTo (j := a + 1) c4 (by omega) (fun w6 c6 F6 => ?_)⟩, fun q => by omega⟩
      have eat : pAtom T P hd any V tot a = if tK T (a + 1) = 5 then pArgs T hd any 4 [] V tot (a + 2) else .inl (tP T (a + 1)) := by
        unfold pAtom; rw [if_pos ⟨z, hor⟩]
      refine s_Rd_take hT c6 (by decide) (fun q5 w7 c7 F7 => ⟨fun _ => ?_, fun q => absurd q (by decide)⟩) (fun q5 w7 c7 F7 => ⟨fun q => absurd rfl q, fun _ => kI (h0 _ (by rw [eat, if_neg q5]) w7 c7 ((F4.tr (FA.a F6)).tr (FA.a F7)))⟩)
      rw [if_pos q5] at eat
      have L7 := (L4.f4 hl F6).f4 hl F7
      have F7' : FA b l w w7 := (F4.tr (FA.a F6)).tr (FA.a F7)
      have B7 : BkC b P1 N w7 := (B4.ft hb hl (FT.a F6)).ft hb hl (FT.a F7)
      rw [a3]
      refine l_args hT hl hkk 4 [] V tot (a + 2) w7 rfl c7 L7 (fun t ht => by cases ht) hany (fun ar V' tot' a' w8 hp q6 hne hok htt c8 L8 F8 => ?_) (fun q w8 hp c8 F8 => h0 q (by rw [eat]; exact hp) w8 c8 (F7'.tr (FA.t F8)))
      have B8 := B7.ft hb hl F8
      have F8' : FA b l w w8 := F7'.tr (FA.t F8)
      have hbt8 : gP w8 4 3 = b := by rw [F8'.2.2]; exact hbt
      have g82 : gI w8 l 2 = (i : Int) := L8.2.2.1
      have g84 : gI w8 l 4 = (ar.length : Int) := L8.2.2.2.2.1
      have hl1 : 1 ≤ ar.length := by
        cases ar with
        | nil => exact absurd rfl hne
        | cons _ _ => simp
      obtain ⟨fz, fn⟩ := hfin (ar.length : Int) (by omega)
      rw [hbt8, g82, g84]
      refine ⟨hb, s_Bk_agrees hb B8 hP1 (fun n0 es => ⟨fun _ => ?_, fun q => absurd q (by decide)⟩) (fun n0 es => ⟨fun q => absurd rfl q, fun _ => ?_⟩) (fun n0 w9 B9 F9 => ⟨fun _ => ?_, fun q => absurd q (by decide)⟩)⟩
      · obtain ⟨e1, e2⟩ := fn n0
        rw [if_pos es] at e2
        refine s_Rd_take hT c8 (by decide) (fun _ w10 c10 F10 => ⟨Or.inr rfl, kI (h1 ar V' tot' (a' + 1) (by rw [eat]; exact hp) hne hok htt w10 ?_ ?_ ?_ (F8'.tr (FA.a F10)))⟩) (fun q w10 _ _ => absurd q6 q)
        · rw [e2]; exact c10
        · rw [← hi]; exact L8.f4 hl F10
        · rw [← e1]; exact B8.ft hb hl (FT.a F10)
      · obtain ⟨e1, e2⟩ := fn n0
        rw [if_neg es] at e2
        refine s_Rd_note c8 (fun w9 c9 F9 => s_Rd_take hT c9 (by decide) (fun _ w10 c10 F10 => ⟨Or.inr rfl, kI (h1 ar V' tot' (a' + 1) (by rw [eat]; exact hp) hne hok htt w10 ?_ ?_ ?_ ((F8'.tr (FA.a F9)).tr (FA.a F10)))⟩) (fun q w10 _ _ => absurd q6 q))
        · rw [e2]; exact c10
        · rw [← hi]; exact (L8.f4 hl F9).f4 hl F10
        · rw [← e1]; exact (B8.ft hb hl (FT.a F9)).ft hb hl (FT.a F10)
      · obtain ⟨e1, e2⟩ := fz n0
        refine s_Rd_take hT (c8.fb hb F9) (by decide) (fun _ w10 c10 F10 => ⟨Or.inr rfl, kI (h1 ar V' tot' (a' + 1) (by rw [eat]; exact hp) hne hok htt w10 ?_ ?_ ?_ ((F8'.tr (FA.b F9)).tr (FA.a F10)))⟩) (fun q w10 _ _ => absurd q6 q)
        · rw [e2]; exact c10
        · rw [← hi]; exact (L8.fb hl hb F9).f4 hl F10
        · rw [← e1]; exact B9.ft hb hl (FT.a F10)
    refine ⟨hb, s_Bk_numberOf hb hB hz (fun hf => ?_) (fun hf h16 w2 B2 F2 => ?_) (fun hf h16 => ?_)⟩
    · have hg : P[fi P (tV T a)]? = some P[fi P (tV T a)] := List.getElem?_eq_getElem hf
      have hx := (fi_spec P (tV T a)).2 _ hg
      have hm : P[fi P (tV T a)] ∈ P := List.getElem_mem hf
      have h1s := hsz _ hm
      have esz : szAt P (fi P (tV T a)) = (P[fi P (tV T a)]).2 := by
        unfold szAt
        rw [List.getD_eq_getElem?_getD, hg]; rfl
      refine mid (fi P (tV T a)) P (P[fi P (tV T a)]).2 w rfl ?_ (Or.inl hf) hs hL hB Frm.rf (fun s hs1 => ⟨fun q => by omega, fun _ => ⟨?_, ?_⟩⟩)
      · rw [hg]; exact congrArg some (Prod.ext hx rfl)
      · unfold rgP; rw [if_pos hf]
      · unfold ntS
        rw [esz]
        by_cases es : (P[fi P (tV T a)]).2 = s
        · rw [if_neg (fun q => q.2 es), if_pos es]
        · rw [if_pos ⟨hf, es⟩, if_neg es]
    · refine mid P.length (P ++ [(tV T a, 0)]) 0 w2 hf.symm ?_ (Or.inr h16) (hs.fb hb F2) (hL.fb hl hb F2) B2 (FA.b F2) (fun s hs1 => ⟨fun _ => ⟨?_, ?_⟩, fun q => absurd rfl q⟩)
      · rw [List.getElem?_append_right (Nat.le_refl _), Nat.sub_self]; rfl
      · rw [rg_set]; unfold rgP; rw [if_neg (by omega)]
      · unfold ntS; rw [if_neg (by omega)]
    · intro w4 e4
      have q4 : gI w4 l 2 = -1 := by rw [e4, gI_uI, if_pos ⟨rfl, rfl⟩]
      have q8 : gI w4 4 8 = tP T a := by rw [e4, gI_uI, if_neg (by omega)]; exact a3
      have F24 : Frm [l] [] w w4 := by rw [e4]; exact Frm.rf.uI (by simp)
      rw [q4, q8]
      refine ⟨fun q => absurd rfl q, fun _ => s_Rd_refuse (fun w' c F => ⟨Or.inl rfl, kI (h0 _ ?_ w' c ((FA.l F24).tr (FA.a F)))⟩)⟩
      unfold pAtom
      rw [if_neg (by omega)]
  · rw [a2] at z
    rw [a3]
    refine s_Rd_refuse (fun w' c F => ⟨Or.inl rfl, kI (h0 _ ?_ w' c (FA.a F))⟩)
    unfold pAtom
    rw [if_neg (fun q => z q.1)]

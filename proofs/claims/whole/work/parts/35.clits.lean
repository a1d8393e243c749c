/-! the class reads literals and bodies -/
abbrev LiL (l : Nat) (L : Lit) (w : Wo) : Prop := LiC l L.1 L.2.1 L.2.2.1 L.2.2.2.1 L.2.2.2.2 w
theorem LiC.knd {l : Nat} {k p ask eq z : Int} {ar : List Int} {w w' : Wo} (h : LiC l k p ask eq ar w) (e : w' = uI w l 0 z) : LiC l z p ask eq ar w' := by
  obtain ⟨h0, h1, h2, h3, h4, h5, h6⟩ := h
  refine ⟨?_, ?_, ?_, ?_, ?_, h5, fun i x hx => ?_⟩
  · rw [e, gI_uI, if_pos ⟨rfl, rfl⟩]
  · rw [e, gI_uI, if_neg (by omega)]; exact h1
  · rw [e, gI_uI, if_neg (by omega)]; exact h2
  · rw [e, gI_uI, if_neg (by omega)]; exact h3
  · rw [e, gI_uI, if_neg (by omega)]; exact h4
  · rw [e, gJ_uI, gI_uI, if_neg (by omega)]; exact h6 i x hx
theorem LiC.eqn {l : Nat} {k p ask eq z : Int} {ar : List Int} {w w' : Wo} (h : LiC l k p ask eq ar w) (e : w' = uI w l 3 z) : LiC l k p ask z ar w' := by
  obtain ⟨h0, h1, h2, h3, h4, h5, h6⟩ := h
  refine ⟨?_, ?_, ?_, ?_, ?_, h5, fun i x hx => ?_⟩
  · rw [e, gI_uI, if_neg (by omega)]; exact h0
  · rw [e, gI_uI, if_neg (by omega)]; exact h1
  · rw [e, gI_uI, if_neg (by omega)]; exact h2
  · rw [e, gI_uI, if_pos ⟨rfl, rfl⟩]
  · rw [e, gI_uI, if_neg (by omega)]; exact h4
  · rw [e, gJ_uI, gI_uI, if_neg (by omega)]; exact h6 i x hx
theorem CS.f1 {T : Tks} {nb a : Nat} {V : PL} {tot f : Int × Int} {sz ato : Int} {w w' : Wo} {l : Nat} (h : CS T nb a V tot f sz ato w) (hl : isLt l) (hf : Frm [l] [] w w') : CS T nb a V tot f sz ato w' := by
  have := lt_c hl
  exact h.frm hf (by simp; omega) (by simp)
theorem FT.l {l : Nat} {w w' : Wo} (h : Frm [l] [] w w') : FT l w w' := h.sub (by simp) (by simp)
theorem s_Rd_readOperation {T : Tks} {nb a : Nat} {V : PL} {tot f : Int × Int} {sz ato : Int} {w : Wo} {K : Int → Wo → Prop} (hT : TOk T nb) (hs : CS T nb a V tot f sz ato w) (h1 : (tK T a = 14 ∨ tK T a = 15) → ∀ w', CS T nb (a + 1) V tot f sz ato w' → Frm [4] [4] w w' → K 1 w') (h0 : ¬ (tK T a = 14 ∨ tK T a = 15) → ∀ w', FP (tP T a) w' → Frm [4] [4] w w' → K 0 w') : MetI m_Rd_readOperation [vr 4] w K := by
  have a2 := hs.2.2.1.2.1
  refine met_of (by decide) rfl (Nat.le_of_ble_eq_true rfl) (t_Rd_readOperation_0 ⟨fun z => ?_, fun z => ?_⟩)
  · rw [a2] at z
    exact s_Rd_take hT hs (by decide) (fun q w' c F => ⟨Or.inr rfl, kI (h1 (Or.inr q) w' c F)⟩) (fun q w' c F => ⟨Or.inl rfl, kI (h0 (by omega) w' c F)⟩)
  · rw [a2] at z
    exact s_Rd_take hT hs (by decide) (fun q w' c F => ⟨Or.inr rfl, kI (h1 (Or.inl q) w' c F)⟩) (fun q w' c F => absurd z q)
theorem s_Rd_readTest {T : Tks} {nb a l : Nat} {V : PL} {tot f : Int × Int} {sz ato : Int} {w : Wo} {K : Int → Wo → Prop} (hT : TOk T nb) (hs : CS T nb a V tot f sz ato w) (hl : isLt l) (h1 : ∀ L V' a', pTest T V a = .inr (L, V', a') → tsOK L.2.2.2.2 → ∀ w', CS T nb a' V' tot f sz ato w' → LiL l L w' → FT l w w' → K 1 w') (h0 : ∀ q, pTest T V a = .inl q → ∀ w', FP q w' → FT l w w' → K 0 w') : MetI m_Rd_readTest [vr 4, vr l] w K := by
  have h600 := hT.1
  obtain ⟨a1, a2, a3, a4⟩ := hs.2.2.1
  have main : ∀ s0 : Int, (s0 = 0 ↔ tK T a ≠ 3) → Wp m_Rd_readTest 13 [(0, vr 4), (1, vr l)] [vi s0] (0, 0) w (fun r w' => ∃ y, r = some (vi y) ∧ K y w') := by
    intro s0 hs0
    refine t_Rd_readTest_13 hl ?_
    rw [a3]
    refine s_Lt_begin hl (fun w1 L1 F1 => ?_)
    have c1 := hs.f1 hl F1
    refine s_Rd_readTerm hT c1 hl L1 (by decide) (fun t1 V1 a1' hp1 ht1 w2 c2 L2 F2 => ⟨fun _ => ?_, fun q => absurd q (by decide)⟩) (fun q hp1 w2 c2 F2 => ⟨fun z => absurd rfl z, fun _ => kI (h0 q (by unfold pTest; rw [hp1]) w2 c2 ((FT.l F1).tr F2))⟩)
    have F2' : FT l w w2 := (FT.l F1).tr F2
    obtain ⟨d1, d2, d3, d4⟩ := c2.2.2.1
    have p90 : ¬ (tK T a = 3 ∧ tK T a1' = 16) → Wp m_Rd_readTest 90 [(0, vr 4), (1, vr l)] [] (0, 0) w2 (fun r w' => ∃ y, r = some (vi y) ∧ K y w') := by
      intro nis
      have p117 : (tK T a1' = 12 ∨ tK T a1' = 13) → Wp m_Rd_readTest 117 [(0, vr 4), (1, vr l)] [] (0, 0) w2 (fun r w' => ∃ y, r = some (vi y) ∧ K y w') := by
        intro hc
        have hlt := hT.lt c2.2.1 (by omega) (by omega)
        have tail : ∀ (e : Int) (w3 : Wo), e = (if tK T a1' = 12 then 1 else 0) → w3 = uI w2 l 3 e → inr32 ((gI w3 4 6) + 1) ∧ MetV m_Rd_moveTo [vr 4, vi ((gI w3 4 6) + 1)] w3 (fun w4 => MetI m_Rd_readTerm [vr 4, vr l] w4 (fun z5 w5 => (z5 = 0 ∨ z5 = 1) ∧ ∃ y, (some (vi z5) : Option AV) = some (vi y) ∧ K y w5)) := by
          intro e w3 he e3
          have L3 := L2.eqn e3
          have F3 : Frm [l] [] w2 w3 := by rw [e3]; exact Frm.rf.uI (by simp)
          have c3 := c2.f1 hl F3
          have g3 : gI w3 4 6 = (a1' : Int) := c3.2.2.1.1
          rw [g3]
          refine ⟨⟨by omega, by omega⟩, s_Rd_moveTo (j := a1' + 1) c3 (by omega) (fun w4 c4 F4 => ?_)⟩
          have F4' : FT l w w4 := (F2'.tr (FT.l F3)).tr (FT.a F4)
          refine s_Rd_readTerm hT c4 hl (L3.f4 hl F4) (by simp) (fun t2 V2 a2' hp2 ht2 w5 c5 L5 F5 => ⟨Or.inr rfl, kI (h1 (2, tP T a, -1, e, [t1, t2]) V2 a2' ?_ ?_ w5 c5 L5 (F4'.tr F5))⟩) (fun q hp2 w5 c5 F5 => ⟨Or.inl rfl, kI (h0 q ?_ w5 c5 (F4'.tr F5))⟩)
          · unfold pTest
            rw [hp1]
            show (if tK T a = 3 ∧ tK T a1' = 16 then _ else _) = _
            rw [if_neg nis, if_pos hc, hp2, he]
          · intro t ht
            have ht : t = t1 ∨ t = t2 := by simpa using ht
            rcases ht with rfl | rfl
            · exact ht1
            · exact ht2
          · unfold pTest
            rw [hp1]
            show (if tK T a = 3 ∧ tK T a1' = 16 then _ else _) = _
            rw [if_neg nis, if_pos hc, hp2]
        refine t_Rd_readTest_117 hl ⟨fun z w3 e3 => tail 0 w3 ?_ e3, fun z w3 e3 => tail 1 w3 ?_ e3⟩
        · rw [d2] at z; rw [if_neg z]
        · rw [d2] at z; rw [if_pos z]
      refine t_Rd_readTest_90 hl ⟨fun z => p117 (Or.inl (by rw [← d2]; exact z)), fun z => ⟨fun z2 => p117 (Or.inr (by rw [← d2]; exact z2)), fun z2 => ?_⟩⟩
      rw [d2] at z z2
      rw [d3]
      refine s_Rd_refuse (fun w' c F => ⟨Or.inl rfl, kI (h0 _ ?_ w' c (F2'.tr (FT.a F)))⟩)
      unfold pTest
      rw [hp1]
      show (if tK T a = 3 ∧ tK T a1' = 16 then _ else _) = _
      rw [if_neg nis, if_neg (by omega)]
    refine ⟨fun z => p90 (fun q => (hs0.mp z) q.1), fun z => ⟨fun z2 => p90 (fun q => z2 (by rw [d2]; exact q.2)), fun z2 w3 e3 => ?_⟩⟩
    rw [d2] at z2
    have h3 : tK T a = 3 := Decidable.of_not_not (fun q => z (hs0.mpr q))
    have his : tK T a = 3 ∧ tK T a1' = 16 := ⟨h3, z2⟩
    have hlt := hT.lt c2.2.1 (by omega) (by omega)
    have L3 := L2.knd e3
    have F3 : Frm [l] [] w2 w3 := by rw [e3]; exact Frm.rf.uI (by simp)
    have c3 := c2.f1 hl F3
    have g3 : gI w3 4 6 = (a1' : Int) := c3.2.2.1.1
    rw [g3]
    refine ⟨⟨by omega, by omega⟩, s_Rd_moveTo (j := a1' + 1) c3 (by omega) (fun w4 c4 F4 => ?_)⟩
    have F4' : FT l w w4 := (F2'.tr (FT.l F3)).tr (FT.a F4)
    refine s_Rd_readTerm hT c4 hl (L3.f4 hl F4) (by simp) (fun t2 V2 a2' hp2 ht2 w5 c5 L5 F5 => ⟨fun q => absurd q (by decide), fun _ => ?_⟩) (fun q hp2 w5 c5 F5 => ⟨fun _ => kI (h0 q ?_ w5 c5 (F4'.tr F5)), fun z => absurd rfl z⟩)
    · refine s_Rd_readOperation hT c5 (fun ho w6 c6 F6 => ⟨fun q => absurd q (by decide), fun _ => ?_⟩) (fun ho w6 c6 F6 => ⟨fun _ => kI (h0 _ ?_ w6 c6 ((F4'.tr F5).tr (FT.a F6))), fun z => absurd rfl z⟩)
      · refine s_Rd_readTerm hT c6 hl (L5.f4 hl F6) (by simp) (fun t3 V3 a3' hp3 ht3 w7 c7 L7 F7 => ⟨fun q => absurd q (by decide), fun _ => kI (h1 (3, tP T a, -1, 0, [t1, t2, t3]) V3 a3' ?_ ?_ w7 c7 L7 (((F4'.tr F5).tr (FT.a F6)).tr F7))⟩) (fun q hp3 w7 c7 F7 => ⟨fun _ => kI (h0 q ?_ w7 c7 (((F4'.tr F5).tr (FT.a F6)).tr F7)), fun z => absurd rfl z⟩)
        · unfold pTest
          rw [hp1]
          show (if tK T a = 3 ∧ tK T a1' = 16 then _ else _) = _
          rw [if_pos his, hp2]
          show (if tK T a2' = 14 ∨ tK T a2' = 15 then _ else _) = _
          rw [if_pos ho, hp3]
        · intro t ht
          have ht : t = t1 ∨ t = t2 ∨ t = t3 := by simpa using ht
          rcases ht with rfl | rfl | rfl
          · exact ht1
          · exact ht2
          · exact ht3
        · unfold pTest
          rw [hp1]
          show (if tK T a = 3 ∧ tK T a1' = 16 then _ else _) = _
          rw [if_pos his, hp2]
          show (if tK T a2' = 14 ∨ tK T a2' = 15 then _ else _) = _
          rw [if_pos ho, hp3]
      · unfold pTest
        rw [hp1]
        show (if tK T a = 3 ∧ tK T a1' = 16 then _ else _) = _
        rw [if_pos his, hp2]
        show (if tK T a2' = 14 ∨ tK T a2' = 15 then _ else _) = _
        rw [if_neg ho]
    · unfold pTest
      rw [hp1]
      show (if tK T a = 3 ∧ tK T a1' = 16 then _ else _) = _
      rw [if_pos his, hp2]
  refine met_of (by decide) rfl (Nat.le_of_ble_eq_true rfl) (t_Rd_readTest_0 hl ⟨fun z => main 0 ?_, fun z => main 1 ?_⟩)
  · rw [a2] at z; exact ⟨fun _ => z, fun _ => rfl⟩
  · rw [a2] at z; exact ⟨fun q => absurd q (by decide), fun q => absurd z q⟩
theorem s_Rd_isOpenNext {T : Tks} {nb a : Nat} {V : PL} {tot f : Int × Int} {sz ato : Int} {w : Wo} {K : Int → Wo → Prop} (hT : TOk T nb) (hs : CS T nb a V tot f sz ato w) (ha : a < nb) (h1 : tK T (a + 1) = 5 → K 1 w) (h0 : ¬ tK T (a + 1) = 5 → K 0 w) : MetI m_Rd_isOpenNext [vr 4] w K := by
  have h600 := hT.1
  obtain ⟨⟨t1, t2, t3⟩, -, ⟨a1, a2, a3, a4⟩, -⟩ := hs
  have e := (t3 (a + 1) (by omega)).1
  refine met_of (by decide) rfl (Nat.le_of_ble_eq_true rfl) (t_Rd_isOpenNext_0 ?_)
  rw [a1]
  rw [show (a : Int) + 1 = ((a + 1 : Nat) : Int) from rfl, show (((a + 1 : Nat) : Int)).toNat = a + 1 from rfl, e]
  exact ⟨⟨by omega, by omega⟩, fun z => by omega, fun _ => ⟨⟨by omega, by omega⟩, ⟨by omega, by omega⟩, fun z => kI (h0 z), fun z => kI (h1 z)⟩⟩
theorem s_Rd_readLiteral {T : Tks} {nb a l b : Nat} {s : BSt} {tot : Int × Int} {sz : Int} {N : Nat → Int × Int × Int} {w : Wo} {K : Int → Wo → Prop} (hT : TOk T nb) (hs : CS T nb a s.2.2.1 tot s.2.2.2.2 sz (s.2.2.2.1 : Nat) w) (hl : isLt l) (hb : isBk b) (hbt : gP w 4 3 = b) (hB : BkC b s.2.1 N w) (hz : ∀ p, s.2.1.length ≤ p → N p = (0, 0, 0)) (hsz : ∀ x ∈ s.2.1, 1 ≤ x.2)
    (h1 : ∀ L P' V' ato' f' a', pLit T tot s a = .inr ((s.1 ++ [L], P', V', ato', f'), a') → tsOK L.2.2.2.2 → ∀ w', CS T nb a' V' tot f' sz (ato' : Nat) w' → LiL l L w' → BkC b P' N w' → FA b l w w' → K 1 w')
    (h0 : ∀ q, pLit T tot s a = .inl q → ∀ w', FP q w' → FA b l w w' → K 0 w') : MetI m_Rd_readLiteral [vr 4, vr l] w K := by
  have h600 := hT.1
  obtain ⟨a1, a2, a3, a4⟩ := hs.2.2.1
  have lc := lt_c hl
  have bc := bk_c hb
  have test : ∀ w0, w0 = w → ¬ tK T a = 9 → ¬ (tK T a = 2 ∧ tK T (a + 1) = 5) → MetI m_Rd_readTest [vr 4, vr l] w0 (fun z2 w1 => (z2 = 0 ∨ z2 = 1) ∧ ∃ y, (some (vi z2) : Option AV) = some (vi y) ∧ K y w1) := by
    intro w0 e0 n9 n2
    subst e0
    refine s_Rd_readTest hT hs hl (fun L V' a' hp hok w' c L' F => ⟨Or.inr rfl, kI (h1 L s.2.1 V' s.2.2.2.1 s.2.2.2.2 a' ?_ hok w' c L' (hB.ft hb hl F) (FA.t F))⟩) (fun q hp w' c F => ⟨Or.inl rfl, kI (h0 q ?_ w' c (FA.t F))⟩)
    · unfold pLit; rw [if_neg n9, if_neg n2, hp]
    · unfold pLit; rw [if_neg n9, if_neg n2, hp]
  refine met_of (by decide) rfl (Nat.le_of_ble_eq_true rfl) (t_Rd_readLiteral_0 hl ⟨fun z => ⟨fun z2 => test w rfl (by rw [← a2]; exact z) (fun q => z2 (by rw [a2]; exact q.1)), fun z2 => ?_⟩, fun z => ?_⟩)
  · rw [a2] at z z2
    have hlt := hT.lt hs.2.1 (by omega) (by omega)
    refine s_Rd_isOpenNext hT hs hlt (fun q5 => ⟨fun q => absurd q (by decide), fun _ => ?_⟩) (fun q5 => ⟨fun _ => test w rfl z (fun q => q5 q.2), fun q => absurd rfl q⟩)
    have at3 : gI w 9 3 = (s.2.2.2.1 : Nat) := hs.2.2.2.2.2.2.2
    rw [at3]
    refine ⟨fun h3 => ⟨⟨by omega, by omega⟩, fun w7 e7 => ?_⟩, fun h3 => ?_⟩
    · obtain ⟨⟨t1, t2, t3⟩, ha, -, ⟨v1, v2, v3⟩, ⟨o1, o2⟩, ⟨f1, f2⟩, s1, s2⟩ := id hs
      have F7 : Frm [9, 15] [14] w w7 := by rw [e7]; exact Frm.rf.uI (by decide)
      have n9 : ∀ k, k ≠ 3 → gI w7 9 k = gI w 9 k := by
        intro k h6
        rw [e7, gI_uI, if_neg (by omega)]
      have c7 : CS T nb a s.2.2.1 tot s.2.2.2.2 sz ((s.2.2.2.1 + 1 : Nat) : Int) w7 := by
        refine ⟨⟨?_, ?_, fun i hi => ?_⟩, ha, ⟨?_, ?_, ?_, ?_⟩, ⟨?_, v2, fun i x hx => ?_⟩, ⟨?_, ?_⟩, ⟨?_, ?_⟩, ?_, ?_⟩
        · rw [F7.1 5 (by decide)]; exact t1
        · rw [F7.1 5 (by decide)]; exact t2
        · rw [F7.1 6 (by decide), F7.1 7 (by decide), F7.2.1 8 (by decide)]; exact t3 i hi
        · rw [F7.1 4 (by decide)]; exact a1
        · rw [F7.1 4 (by decide)]; exact a2
        · rw [F7.1 4 (by decide)]; exact a3
        · rw [F7.2.1 4 (by decide)]; exact a4
        · rw [n9 6 (by decide)]; exact v1
        · rw [e7, gJ_uI, gI_uI, if_neg (by omega)]; exact v3 i x hx
        · rw [n9 4 (by decide)]; exact o1
        · rw [n9 5 (by decide)]; exact o2
        · rw [F7.1 4 (by decide)]; exact f1
        · rw [F7.1 4 (by decide)]; exact f2
        · rw [n9 2 (by decide)]; exact s1
        · rw [e7, gI_uI, if_pos ⟨rfl, rfl⟩]; rfl
      have g8 : gI w7 4 8 = tP T a := c7.2.2.1.2.2.1
      rw [g8]
      refine s_Lt_begin hl (fun w9 L9 F9 => ?_)
      have B9 : BkC b s.2.1 N w9 := (hB.ft hb hl (FT.c F7)).ft hb hl (FT.l F9)
      have F9' : FA b l w w9 := (FA.t (FT.c F7)).tr (FA.l F9)
      have t9 : gP w9 4 3 = b := by rw [F9'.2.2]; exact hbt
      refine s_Rd_readAtom (hd := false) (any := decide (tot.1 ≤ 0)) hT (c7.f1 hl F9) hl L9 hb t9 B9 hz hsz (by decide) (by simp) (fun ar V' tot' a' hp hne hok htt w' c L' B' F => ⟨Or.inr rfl, kI (h1 (0, tP T a, ((fi s.2.1 (tV T a) : Nat) : Int), 0, ar) (rgP s.2.1 (tV T a) ar.length) V' (s.2.2.2.1 + 1) (ntS s.2.2.2.2 s.2.1 (tV T a) ar.length (tP T a)) a' ?_ hok w' ?_ L' B' (F9'.tr F))⟩) (fun q hp w' c F => ⟨Or.inl rfl, kI (h0 q ?_ w' c (F9'.tr F))⟩)
      · unfold pLit; rw [if_neg z, if_pos ⟨z2, q5⟩, if_pos (by omega), hp]
      · rw [htt rfl] at c; exact c
      · unfold pLit; rw [if_neg z, if_pos ⟨z2, q5⟩, if_pos (by omega), hp]
    · rw [a3]
      refine s_Rd_refuse (fun w' c F => ⟨Or.inl rfl, kI (h0 _ ?_ w' c (FA.a F))⟩)
      unfold pLit; rw [if_neg z, if_pos ⟨z2, q5⟩, if_neg (by omega)]
  · rw [a2] at z
    have hlt := hT.lt hs.2.1 (by omega) (by omega)
    rw [a3]
    refine s_Lt_begin hl (fun w1 L1 F1 => ?_)
    have c1 := hs.f1 hl F1
    have g1 : gI w1 4 6 = (a : Int) := c1.2.2.1.1
    rw [g1]
    refine ⟨⟨by omega, by omega⟩, s_Rd_moveTo (j := a + 1) c1 (by omega) (fun w2 c2 F2 => ?_)⟩
    have F2' : FA b l w w2 := (FA.l F1).tr (FA.a F2)
    have B2 : BkC b s.2.1 N w2 := (hB.ft hb hl (FT.l F1)).ft hb hl (FT.a F2)
    have t2 : gP w2 4 3 = b := by rw [F2'.2.2]; exact hbt
    refine s_Rd_readAtom (hd := false) (any := true) hT c2 hl (L1.f4 hl F2) hb t2 B2 hz hsz (by decide) (by simp) (fun ar V' tot' a' hp hne hok htt w' c L' B' F => ⟨Or.inr rfl, kI (h1 (1, tP T a, ((fi s.2.1 (tV T (a + 1)) : Nat) : Int), 0, ar) (rgP s.2.1 (tV T (a + 1)) ar.length) V' s.2.2.2.1 (ntS s.2.2.2.2 s.2.1 (tV T (a + 1)) ar.length (tP T (a + 1))) a' ?_ hok w' ?_ L' B' (F2'.tr F))⟩) (fun q hp w' c F => ⟨Or.inl rfl, kI (h0 q ?_ w' c (F2'.tr F))⟩)
    · unfold pLit; rw [if_pos z, hp]
    · rw [htt rfl] at c; exact c
    · unfold pLit; rw [if_pos z, hp]

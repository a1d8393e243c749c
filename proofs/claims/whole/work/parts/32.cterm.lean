/-! the class reads a term, a total, anything -/
theorem lt_c {l : Nat} (h : isLt l) : l = 10 ∨ (19 ≤ l ∧ l ≤ 34) := by
  rcases h with h | h | h | h | h | h | h <;> omega
theorem CS.fl {T : Tks} {nb a : Nat} {V : PL} {tot f : Int × Int} {sz ato : Int} {w w' : Wo} {l : Nat} (h : CS T nb a V tot f sz ato w) (hl : isLt l) (hf : Frm [l, l + 2] [l + 1] w w') : CS T nb a V tot f sz ato w' := by
  have := lt_c hl
  refine h.frm hf ?_ ?_
  · simp; omega
  · simp; omega
theorem LiC.f4 {l : Nat} {k p ask eq : Int} {ar : List Int} {w w' : Wo} (h : LiC l k p ask eq ar w) (hl : isLt l) (hf : Frm [4] [4] w w') : LiC l k p ask eq ar w' := by
  have := lt_c hl
  refine h.frm hf ?_ ?_
  · simp; omega
  · simp; omega
theorem LiC.f9 {l : Nat} {k p ask eq : Int} {ar : List Int} {w w' : Wo} (h : LiC l k p ask eq ar w) (hl : isLt l) (hf : Frm [9, 15] [14] w w') : LiC l k p ask eq ar w' := by
  have := lt_c hl
  refine h.frm hf ?_ ?_
  · simp; omega
  · simp; omega
/-- what reading a term may change -/
abbrev FT (l : Nat) (w w' : Wo) : Prop := Frm [4, 9, 15, l, l + 2] [4, 14, l + 1] w w'
theorem FT.a {l : Nat} {w w' : Wo} (h : Frm [4] [4] w w') : FT l w w' := h.sub (by simp) (by simp)
theorem FT.b {l : Nat} {w w' : Wo} (h : Frm [l, l + 2] [l + 1] w w') : FT l w w' := h.sub (by simp) (by simp)
theorem FT.c {l : Nat} {w w' : Wo} (h : Frm [9, 15] [14] w w') : FT l w w' := h.sub (by simp) (by simp)
theorem l_term29 {T : Tks} {nb a l : Nat} {V : PL} {tot f : Int × Int} {sz ato k p ask eq : Int} {ar : List Int} {w : Wo} {K : Int → Wo → Prop} (hT : TOk T nb) (hs : CS T nb a V tot f sz ato w) (hl : isLt l) (hL : LiC l k p ask eq ar w) (h4 : ar.length < 4) (h1 : ∀ t V' a', pTerm0 T V a = .inr (t, V', a') → tmOK t → ∀ w', CS T nb a' V' tot f sz ato w' → LiC l k p ask eq (ar ++ [t]) w' → FT l w w' → K 1 w') (h0 : ∀ q, pTerm0 T V a = .inl q → ∀ w', FP q w' → FT l w w' → K 0 w') : Wp m_Rd_readTerm 29 [(0, vr 4), (1, vr l), (2, vi 0)] [] (0, 0) w (fun r w' => ∃ y, r = some (vi y) ∧ K y w') := by
  have h600 := hT.1
  have ha := hs.2.1
  obtain ⟨a1, a2, a3, a4⟩ := hs.2.2.1
  obtain ⟨-, -, r2, r3, r4, -⟩ := hT.2.2.1 a ha
  have r2 : tK T a = 2 → 0 ≤ tV T a ∧ tV T a < 4398046511104 := r2
  have r3 : tK T a = 3 → 0 ≤ tV T a ∧ tV T a < 268435456 := r3
  have r4 : tK T a = 4 → 0 ≤ tV T a ∧ tV T a < 1000000000 := r4
  -- a term that is added, then the next token
  have go : ∀ (t : Int) (V' : PL) (w0 : Wo), tK T a ≠ 0 → tK T a ≠ 1 → pTerm0 T V a = .inr (t, V', a + 1) → tmOK t → CS T nb a V' tot f sz ato w0 → LiC l k p ask eq ar w0 → FT l w w0 → MetV m_Lt_add [vr l, vl t] w0 (fun w1 => inr32 ((gI w1 4 6) + 1) ∧ MetV m_Rd_moveTo [vr 4, vi ((gI w1 4 6) + 1)] w1 (fun w2 => ∃ y, (some (vi 1) : Option AV) = some (vi y) ∧ K y w2)) := by
    intro t V' w0 n0 n1 hp ht c0 L0 F0
    have hlt := hT.lt ha n0 n1
    refine s_Lt_add hl L0 h4 ht (fun w1 L1 F1 => ?_)
    have c1 := c0.fl hl F1
    have g1 : gI w1 4 6 = a := c1.2.2.1.1
    rw [g1]
    refine ⟨⟨by omega, by omega⟩, s_Rd_moveTo (j := a + 1) c1 (by omega) (fun w2 c2 F2 => kI (h1 t V' (a + 1) hp ht w2 c2 (L1.f4 hl F2) ?_))⟩
    exact (F0.tr (FT.b F1)).tr (FT.a F2)
  have no : ∀ w0, FT l w w0 → gI w0 4 8 = tP T a → pTerm0 T V a = .inl (tP T a) → MetI m_Rd_refuse [vr 4, vi (gI w0 4 8)] w0 (fun z2 w1 => (z2 = 0 ∨ z2 = 1) ∧ ∃ y, (some (vi z2) : Option AV) = some (vi y) ∧ K y w1) := by
    intro w0 F0 e hp
    rw [e]
    exact s_Rd_refuse (fun w' c F => ⟨Or.inl rfl, kI (h0 _ hp w' c (F0.tr (FT.a F)))⟩)
  have p87 : tK T a ≠ 4 → tK T a ≠ 2 → Wp m_Rd_readTerm 87 [(0, vr 4), (1, vr l), (2, vi 0)] [] (0, 0) w (fun r w' => ∃ y, r = some (vi y) ∧ K y w') := by
    intro n4 n2
    refine t_Rd_readTerm_87 hl ⟨fun z => ?_, fun z => ⟨fun z2 => absurd rfl z2, fun _ => ?_⟩⟩
    · rw [a2] at z
      exact no w Frm.rf a3 (by unfold pTerm0; rw [if_neg n4, if_neg n2, if_neg z])
    · rw [a2] at z
      rw [a3, a4]
      refine s_Cl_variableOf hs (fun i V' hv hi w' c F => ⟨fun _ => ⟨⟨by omega, by omega⟩, ?_⟩, fun q => by omega⟩) (fun hv => ⟨fun q => absurd rfl q, fun _ => ?_⟩)
      · exact go _ V' w' (by omega) (by omega) (by unfold pTerm0; rw [if_neg n4, if_neg n2, if_pos z, hv]) (Or.inr (Or.inr (Or.inl ⟨by omega, by omega⟩))) c (hL.f9 hl F) (FT.c F)
      · exact no w Frm.rf a3 (by unfold pTerm0; rw [if_neg n4, if_neg n2, if_pos z, hv])
  refine t_Rd_readTerm_29 hl ⟨fun z => ⟨fun z2 => p87 (by rw [← a2]; exact z) (by rw [← a2]; exact z2), fun z2 => ⟨fun z3 => absurd rfl z3, fun _ => ?_⟩⟩, fun z => ⟨fun _ => ?_, fun z3 => absurd rfl z3⟩⟩
  · rw [a2] at z z2
    have := r2 z2
    rw [a4]
    exact ⟨⟨by omega, by omega⟩, go _ V w (by omega) (by omega) (by unfold pTerm0; rw [if_neg z, if_pos z2]) (Or.inr (Or.inl ⟨by omega, by omega⟩)) hs hL Frm.rf⟩
  · rw [a2] at z
    have := r4 z
    rw [a4]
    exact go _ V w (by omega) (by omega) (by unfold pTerm0; rw [if_pos z]) (Or.inl ⟨by omega, by omega⟩) hs hL Frm.rf
theorem s_Rd_readTerm {T : Tks} {nb a l : Nat} {V : PL} {tot f : Int × Int} {sz ato k p ask eq : Int} {ar : List Int} {w : Wo} {K : Int → Wo → Prop} (hT : TOk T nb) (hs : CS T nb a V tot f sz ato w) (hl : isLt l) (hL : LiC l k p ask eq ar w) (h4 : ar.length < 4) (h1 : ∀ t V' a', pTerm T V a = .inr (t, V', a') → tmOK t → ∀ w', CS T nb a' V' tot f sz ato w' → LiC l k p ask eq (ar ++ [t]) w' → FT l w w' → K 1 w') (h0 : ∀ q, pTerm T V a = .inl q → ∀ w', FP q w' → FT l w w' → K 0 w') : MetI m_Rd_readTerm [vr 4, vr l] w K := by
  have h600 := hT.1
  have ha := hs.2.1
  obtain ⟨a1, a2, a3, a4⟩ := hs.2.2.1
  refine met_of (by decide) rfl (Nat.le_of_ble_eq_true rfl) (t_Rd_readTerm_0 hl ⟨fun z => t_Rd_readTerm_14 hl ⟨fun _ => ?_, fun q => absurd rfl q⟩, fun z => t_Rd_readTerm_14 hl ⟨fun q => absurd q (by decide), fun _ => ?_⟩⟩)
  · rw [a2] at z
    have e : pTerm T V a = pTerm0 T V a := if_neg z
    rw [e] at h1 h0
    exact l_term29 hT hs hl hL h4 h1 h0
  · rw [a2] at z
    have hlt := hT.lt ha (by omega) (by omega)
    have e : pTerm T V a = if tK T (a + 1) = 4 then .inr (- tV T (a + 1), V, a + 2) else .inl (tP T (a + 1)) := if_pos z
    rw [a1]
    refine ⟨⟨by omega, by omega⟩, s_Rd_moveTo (j := a + 1) hs (by omega) (fun w1 c1 F1 => ?_)⟩
    obtain ⟨b1, b2, b3, b4⟩ := c1.2.2.1
    obtain ⟨-, -, -, -, r4, -⟩ := hT.2.2.1 (a + 1) c1.2.1
    have r4 : tK T (a + 1) = 4 → 0 ≤ tV T (a + 1) ∧ tV T (a + 1) < 1000000000 := r4
    have no : ¬ tK T (a + 1) = 4 → MetI m_Rd_refuse [vr 4, vi (gI w1 4 8)] w1 (fun z2 w2 => (z2 = 0 ∨ z2 = 1) ∧ ∃ y, (some (vi z2) : Option AV) = some (vi y) ∧ K y w2) := by
      intro n4
      rw [b3]
      exact s_Rd_refuse (fun w' c F => ⟨Or.inl rfl, kI (h0 _ (by rw [e, if_neg n4]) w' c ((FT.a F1).tr (FT.a F)))⟩)
    have p87 : ¬ tK T (a + 1) = 4 → Wp m_Rd_readTerm 87 [(0, vr 4), (1, vr l), (2, vi 1)] [] (0, 0) w1 (fun r w' => ∃ y, r = some (vi y) ∧ K y w') := fun n4 => t_Rd_readTerm_87 hl ⟨fun _ => no n4, fun _ => ⟨fun _ => no n4, fun q => absurd q (by decide)⟩⟩
    refine t_Rd_readTerm_29 hl ⟨fun z => ⟨fun _ => p87 (by rw [← b2]; exact z), fun _ => ⟨fun _ => p87 (by rw [← b2]; exact z), fun q => absurd q (by decide)⟩⟩, fun z => ⟨fun q => absurd q (by decide), fun _ => ?_⟩⟩
    rw [b2] at z
    have := r4 z
    have hlt2 := hT.lt c1.2.1 (by omega) (by omega)
    rw [b4]
    refine ⟨⟨by omega, by omega⟩, s_Lt_add hl (hL.f4 hl F1) h4 (Or.inl ⟨by omega, by omega⟩) (fun w2 L2 F2 => ?_)⟩
    have c2 := c1.fl hl F2
    have g2 : gI w2 4 6 = ((a + 1 : Nat) : Int) := c2.2.2.1.1
    rw [g2]
    refine ⟨⟨by omega, by omega⟩, s_Rd_moveTo (j := a + 1 + 1) c2 (by omega) (fun w3 c3 F3 => kI (h1 _ V (a + 2) (by rw [e, if_pos z]) (Or.inl ⟨by omega, by omega⟩) w3 c3 (L2.f4 hl F3) (((FT.a F1).tr (FT.b F2)).tr (FT.a F3))))⟩
theorem s_Rd_readAnything {T : Tks} {nb a l : Nat} {V : PL} {tot f : Int × Int} {sz ato k p ask eq : Int} {ar : List Int} {w : Wo} {K : Int → Wo → Prop} (hT : TOk T nb) (hs : CS T nb a V tot f sz ato w) (hl : isLt l) (hL : LiC l k p ask eq ar w) (h4 : ar.length < 4) (hk : tK T a = 10) (h1 : ¬ (k = 4 ∨ k = 0 ∧ 0 < tot.1) → ∀ w', CS T nb (a + 1) V tot f sz ato w' → LiC l k p ask eq (ar ++ [4503599627370496]) w' → FT l w w' → K 1 w') (h0 : (k = 4 ∨ k = 0 ∧ 0 < tot.1) → ∀ w', FP (tP T a) w' → FT l w w' → K 0 w') : MetI m_Rd_readAnything [vr 4, vr l] w K := by
  have h600 := hT.1
  have ha := hs.2.1
  obtain ⟨a1, a2, a3, a4⟩ := hs.2.2.1
  obtain ⟨o1, o2⟩ := hs.2.2.2.2.1
  have k0 := hL.1
  have no : (k = 4 ∨ k = 0 ∧ 0 < tot.1) → MetI m_Rd_refuse [vr 4, vi (gI w 4 8)] w (fun z2 w1 => (z2 = 0 ∨ z2 = 1) ∧ ∃ y, (some (vi z2) : Option AV) = some (vi y) ∧ K y w1) := by
    intro hc
    rw [a3]
    exact s_Rd_refuse (fun w' c F => ⟨Or.inl rfl, kI (h0 hc w' c (FT.a F))⟩)
  have p22 : ∀ s0 : Int, (s0 = 0 → ¬ (k = 0 ∧ 0 < tot.1)) → (¬ s0 = 0 → k = 0 ∧ 0 < tot.1) → Wp m_Rd_readAnything 22 [(0, vr 4), (1, vr l)] [vi s0] (0, 0) w (fun r w' => ∃ y, r = some (vi y) ∧ K y w') := by
    intro s0 z0 z1
    refine t_Rd_readAnything_22 hl ⟨fun z => no (Or.inl (by rw [← k0]; exact z)), fun z => ⟨fun z2 => ?_, fun z2 => no (Or.inr (z1 z2))⟩⟩
    rw [k0] at z
    have hlt := hT.lt ha (by omega) (by omega)
    refine s_Lt_add hl hL h4 (Or.inr (Or.inr (Or.inr rfl))) (fun w2 L2 F2 => ?_)
    have c2 := hs.fl hl F2
    have g2 : gI w2 4 6 = (a : Int) := c2.2.2.1.1
    rw [g2]
    refine ⟨⟨by omega, by omega⟩, s_Rd_moveTo (j := a + 1) c2 (by omega) (fun w3 c3 F3 => kI (h1 ?_ w3 c3 (L2.f4 hl F3) ((FT.b F2).tr (FT.a F3))))⟩
    have := z0 z2
    omega
  refine met_of (by decide) rfl (Nat.le_of_ble_eq_true rfl) (t_Rd_readAnything_0 hl ⟨fun z => t_Rd_readAnything_21 hl (p22 0 (fun _ => by rw [k0] at z; omega) (fun q => absurd rfl q)), fun z => ⟨fun z2 => t_Rd_readAnything_21 hl (p22 0 (fun _ => by omega) (fun q => absurd rfl q)), fun z2 => p22 1 (fun q => absurd q (by decide)) (fun _ => ?_)⟩⟩)
  rw [k0] at z
  omega
theorem l2i4 : ∀ x : Int, 1 ≤ x → x ≤ 4 → b_l2i x = x := by
  intro x h1 h2
  have h : x = 1 ∨ x = 2 ∨ x = 3 ∨ x = 4 := by omega
  rcases h with rfl | rfl | rfl | rfl <;> decide
theorem pTerm_v {T : Tks} {V : PL} {a : Nat} (h : tK T a = 3) : pTerm T V a = (match pVar V (tV T a) (tP T a) with
    | some (i, V') => .inr (281474976710656 + (i : Int), V', a + 1)
    | none => .inl (tP T a)) := by
  unfold pTerm pTerm0
  rw [if_neg (by omega), if_neg (by omega), if_neg (by omega), if_pos h]
  rfl
theorem s_Rd_readTotal {T : Tks} {nb a l : Nat} {V : PL} {tot f : Int × Int} {sz ato k p ask eq : Int} {ar : List Int} {w : Wo} {K : Int → Wo → Prop} (hT : TOk T nb) (hs : CS T nb a V tot f sz ato w) (hl : isLt l) (hL : LiC l k p ask eq ar w) (h4 : ar.length < 4) (hk : tK T a = 17) (h1 : k = 4 → tot.1 ≤ 0 → ∀ t V' a', pTot T V a = .inr (t, V', a') → tmOK t → ∀ w', CS T nb a' V' (tV T a, tP T a) f sz ato w' → LiC l k p ask eq (ar ++ [t]) w' → FT l w w' → K 1 w') (h0 : ∀ q, (¬ (k = 4 ∧ tot.1 ≤ 0) → q = tP T a) → (k = 4 ∧ tot.1 ≤ 0 → pTot T V a = .inl q) → ∀ w', FP q w' → FT l w w' → K 0 w') : MetI m_Rd_readTotal [vr 4, vr l] w K := by
  have h600 := hT.1
  have hlt := hT.lt hs.2.1 (by omega) (by omega)
  obtain ⟨-, -, -, -, -, r17⟩ := hT.2.2.1 a hs.2.1
  have r17 : 1 ≤ tV T a ∧ tV T a ≤ 4 := r17 hk
  obtain ⟨⟨t1, t2, t3⟩, ha, ⟨a1, a2, a3, a4⟩, ⟨v1, v2, v3⟩, ⟨o1, o2⟩, ⟨f1, f2⟩, s1, s2⟩ := id hs
  have k0 := hL.1
  have no : ¬ (k = 4 ∧ tot.1 ≤ 0) → MetI m_Rd_refuse [vr 4, vi (gI w 4 8)] w (fun z2 w1 => (z2 = 0 ∨ z2 = 1) ∧ ∃ y, (some (vi z2) : Option AV) = some (vi y) ∧ K y w1) := by
    intro hc
    rw [a3]
    exact s_Rd_refuse (fun w' c F => ⟨Or.inl rfl, kI (h0 _ (fun _ => rfl) (fun q => absurd q hc) w' c (FT.a F))⟩)
  refine met_of (by decide) rfl (Nat.le_of_ble_eq_true rfl) (t_Rd_readTotal_0 hl ⟨fun z => no (by rw [← k0]; exact fun q => z q.1), fun z => ⟨fun z2 w3 e3 w5 e5 => ?_, fun z2 => no (by rw [← o1]; exact fun q => z2 q.2)⟩⟩)
  rw [k0] at z
  rw [o1] at z2
  have hc : k = 4 ∧ tot.1 ≤ 0 := ⟨z, z2⟩
  rw [a4, l2i4 _ r17.1 r17.2] at e3
  have x8 : gI w3 4 8 = tP T a := by rw [e3, gI_uI, if_neg (by omega)]; exact a3
  rw [x8] at e5
  have hf : Frm [9, 15] [14] w w5 := by rw [e5, e3]; exact (Frm.rf.uI (by decide)).uI (by decide)
  have n9 : ∀ k, k ≠ 4 → k ≠ 5 → gI w5 9 k = gI w 9 k := by
    intro k h6 h7
    rw [e5, gI_uI, if_neg (by omega), e3, gI_uI, if_neg (by omega)]
  have c5 : CS T nb a V (tV T a, tP T a) f sz ato w5 := by
    refine ⟨⟨?_, ?_, fun i hi => ?_⟩, ha, ⟨?_, ?_, ?_, ?_⟩, ⟨?_, v2, fun i x hx => ?_⟩, ⟨?_, ?_⟩, ⟨?_, ?_⟩, ?_, ?_⟩
    · rw [hf.1 5 (by decide)]; exact t1
    · rw [hf.1 5 (by decide)]; exact t2
    · rw [hf.1 6 (by decide), hf.1 7 (by decide), hf.2.1 8 (by decide)]; exact t3 i hi
    · rw [hf.1 4 (by decide)]; exact a1
    · rw [hf.1 4 (by decide)]; exact a2
    · rw [hf.1 4 (by decide)]; exact a3
    · rw [hf.2.1 4 (by decide)]; exact a4
    · rw [n9 6 (by decide) (by decide)]; exact v1
    · rw [e5, gJ_uI, gI_uI, if_neg (by omega), e3, gJ_uI, gI_uI, if_neg (by omega)]; exact v3 i x hx
    · rw [e5, gI_uI, if_neg (by omega), e3, gI_uI, if_pos ⟨rfl, rfl⟩]
    · rw [e5, gI_uI, if_pos ⟨rfl, rfl⟩]
    · rw [hf.1 4 (by decide)]; exact f1
    · rw [hf.1 4 (by decide)]; exact f2
    · rw [n9 2 (by decide) (by decide)]; exact s1
    · rw [n9 3 (by decide) (by decide)]; exact s2
  have L5 := hL.f9 hl hf
  have g5 : gI w5 4 6 = (a : Int) := c5.2.2.1.1
  rw [g5]
  refine ⟨⟨by omega, by omega⟩, s_Rd_moveTo (j := a + 1) c5 (by omega) (fun w7 c7 F7 => ?_)⟩
  have F7' : FT l w w7 := (FT.c hf).tr (FT.a F7)
  refine s_Rd_take hT c7 (by decide) (fun q5 w8 c8 F8 => ⟨fun _ => ?_, fun q => absurd q (by decide)⟩) (fun q5 w8 c8 F8 => ⟨fun q => absurd rfl q, fun _ => kI (h0 _ (fun q => absurd hc q) (fun _ => ?_) w8 c8 (F7'.tr (FT.a F8)))⟩)
  · have F8' : FT l w w8 := F7'.tr (FT.a F8)
    obtain ⟨d1, d2, d3, d4⟩ := c8.2.2.1
    have L8 := (L5.f4 hl F7).f4 hl F8
    have ea : a + 1 + 1 = a + 2 := rfl
    rw [ea] at c8 d1 d2 d3 d4
    refine ⟨fun q3 => ?_, fun q3 => ?_⟩
    · rw [d2] at q3
      refine s_Rd_readTerm hT c8 hl L8 h4 (fun t V' a' hp ht w9 c9 L9 F9 => ⟨fun q => absurd q (by decide), fun _ => ?_⟩) (fun q hp w9 c9 F9 => ⟨fun _ => kI (h0 q (fun z => absurd hc z) (fun _ => ?_) w9 c9 (F8'.tr F9)), fun z => absurd rfl z⟩)
      · rw [pTerm_v q3] at hp
        cases hv : pVar V (tV T (a + 2)) (tP T (a + 2)) with
        | none => rw [hv] at hp; cases hp
        | some iv =>
          obtain ⟨i, V2⟩ := iv
          rw [hv] at hp
          have hp := Sum.inr.inj hp
          have e1 : 281474976710656 + (i : Int) = t := congrArg Prod.fst hp
          have e2 : V2 = V' := congrArg (fun z => z.2.1) hp
          have e3 : a + 2 + 1 = a' := congrArg (fun z => z.2.2) hp
          subst e1 e2 e3
          have ea3 : a + 2 + 1 = a + 3 := rfl
          rw [ea3] at c9
          refine s_Rd_take hT c9 (by decide) (fun q6 w10 c10 F10 => ⟨fun q => absurd q (by decide), fun _ => kI (h1 z z2 _ V2 (a + 4) ?_ ht w10 c10 (L9.f4 hl F10) ((F8'.tr F9).tr (FT.a F10)))⟩) (fun q6 w10 c10 F10 => ⟨fun _ => kI (h0 _ (fun z => absurd hc z) (fun _ => ?_) w10 c10 ((F8'.tr F9).tr (FT.a F10))), fun z => absurd rfl z⟩)
          · unfold pTot
            rw [if_pos q5, if_pos q3, hv]
            show (if tK T (a + 3) = 6 then _ else _) = _
            rw [if_pos q6]
          · unfold pTot
            rw [if_pos q5, if_pos q3, hv]
            show (if tK T (a + 3) = 6 then _ else _) = _
            rw [if_neg q6]
      · rw [pTerm_v q3] at hp
        cases hv : pVar V (tV T (a + 2)) (tP T (a + 2)) with
        | some iv => rw [hv] at hp; cases hp
        | none =>
          rw [hv] at hp
          have hp := Sum.inl.inj hp
          subst hp
          unfold pTot
          rw [if_pos q5, if_pos q3, hv]
    · rw [d2] at q3
      rw [d3]
      refine s_Rd_refuse (fun w' c F => ⟨Or.inl rfl, kI (h0 _ (fun z => absurd hc z) (fun _ => ?_) w' c (F8'.tr (FT.a F)))⟩)
      unfold pTot
      rw [if_pos q5, if_neg q3]
  · unfold pTot
    rw [if_neg q5]

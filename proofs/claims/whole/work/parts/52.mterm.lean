/-! the reference: terms, predicates -/
theorem b_lor_comm (x y : Int) : b_lor x y = b_lor y x := by
  unfold b_lor
  rw [Int64.or_comm]
theorem b_lor56 {x : Int} (h : 0 ≤ x ∧ x < 281474976710656) : b_lor x 72057594037927936 = x + 72057594037927936 := by
  have := b_lor_n (a := x.toNat) (b := 1) (p := 72057594037927936) (k := 56) (by decide) (by omega) (by omega)
  rw [b_lor_comm]
  have e : ((x.toNat : Nat) : Int) = x := by omega
  rw [e] at this
  rw [show (72057594037927936 : Int) = ((1 * 72057594037927936 : Nat) : Int) from rfl, this]
  omega
theorem s_M_readTerm {T : Tks} {nb a c : Nat} {V : PL} {f : Int × Int} {w : Wo} {K : Int → Wo → Prop} (hT : TOk T nb) (hs : MS T nb a c V f w) (h1 : ∀ t V' a', pTerm T V a = .inr (t, V', a') → ∀ w', MS T nb a' c V' f w' → RdC t w' → FX (oT c) oTJ w w' → K 1 w') (h0 : ∀ q, pTerm T V a = .inl q → ∀ w', FPm q w' → FX (oT c) oTJ w w' → K 0 w') : MetI m_M_readTerm [vr 78] w K := by
  have h600 := hT.1
  obtain ⟨t1, t2, t3, ⟨t4, t5⟩, -, t6, t7, t8⟩ := id hs
  obtain ⟨tr, tp⟩ := t1 a t2
  have kinds : (gI w 80 a = 2 ↔ tK T a = 3) ∧ (gI w 80 a = 1 ↔ tK T a = 2) ∧ (gI w 80 a = 3 ↔ tK T a = 4) ∧ (tK T a = 2 → gJ w 83 a = c8 (tV T a)) ∧ (tK T a = 4 → gJ w 83 a = tV T a) := by
    unfold TokRel at tr
    omega
  obtain ⟨k3, k2, k4, kn, ku⟩ := kinds
  have ok := hT.2.2.1 a t2
  refine met_of (by decide) rfl (Nat.le_of_ble_eq_true rfl) (t_M_readTerm_0 ?_)
  rw [t3, show ((a : Int)).toNat = a from rfl]
  refine ⟨⟨by omega, by omega⟩, fun z w2 e2 => ?_, fun z => ?_⟩
  · have m2 : MS T nb a c V f w2 := by
      rw [e2]
      exact hs.fx (A := fun o k => o = 78 ∧ k = 35) (B := o0) (FX.rf.uI ⟨rfl, rfl⟩) (fun o k z => by unfold msI; omega) (fun o k z => z.elim)
    have F2 : FX (oT c) oTJ w w2 := by rw [e2]; exact FX.rf.uI (by unfold oT; omega)
    have x80 : ∀ k, gI w2 80 k = gI w 80 k := fun k => by rw [e2, gI_uI, if_neg (by omega)]
    have x35 : gI w2 78 35 = 0 := by rw [e2, gI_uI, if_pos ⟨rfl, rfl⟩]
    have x83 : ∀ k, gJ w2 83 k = gJ w 83 k := fun k => by rw [e2, gJ_uI]
    rw [m2.2.2.1, show ((a : Int)).toNat = a from rfl, x80, x83]
    have n3 : ¬ tK T a = 3 := fun q => z (k3.mpr q)
    refine ⟨⟨by omega, by omega⟩, fun z2 => ?_, fun z2 => ⟨⟨by omega, by omega⟩, fun w21 e21 => ?_⟩⟩
    · have n2 : ¬ tK T a = 2 := fun q => z2 (k2.mpr q)
      refine s_M_takes hT m2 sg_p.2.2.2.2.2.2.2 (by decide) (fun h14 w5 m5 F5 => ?_) (fun h14 => ?_)
      · have hlt := hT.lt t2 (by omega) (by omega)
        obtain ⟨tr5, -⟩ := m5.1 (a + 1) (by omega)
        have q4 : (gI w5 80 (a + 1) = 3 ↔ tK T (a + 1) = 4) ∧ (tK T (a + 1) = 4 → gJ w5 83 (a + 1) = tV T (a + 1)) := by
          unfold TokRel at tr5
          omega
        have ok5 := hT.2.2.1 (a + 1) (by omega)
        have y35 : gI w5 78 35 = 0 := by rw [F5.1 78 35 (by unfold oA; omega)]; exact x35
        rw [m5.2.2.1, show (((a + 1 : Nat) : Int)).toNat = a + 1 from rfl]
        refine ⟨⟨by omega, by omega⟩, fun z4 => ⟨fun q => absurd q (by decide), fun _ => ?_⟩, fun z4 => ?_⟩
        · have hk4 := q4.1.mp z4
          have hr := ok5.2.2.2.2.1 hk4
          have hr : 0 ≤ tV T (a + 1) ∧ tV T (a + 1) < 1000000000 := hr
          rw [q4.2 hk4]
          have hlt2 := hT.lt (show a + 1 ≤ nb by omega) (by omega) (by omega)
          refine ⟨⟨by omega, by omega⟩, ⟨by omega, by omega⟩, fun w14 e14 => ?_⟩
          have m14 : MS T nb (a + 1) c V f w14 := by
            rw [e14]
            exact m5.fx (A := o0) (B := fun o k => o = 78 ∧ k = 36) (FX.rf.uJ ⟨rfl, rfl⟩) (fun o k z => z.elim) (fun o k z => by unfold msJ; omega)
          rw [m14.2.2.1]
          refine ⟨⟨by omega, by omega⟩, fun w16 e16 => kI (h1 (- tV T (a + 1)) V (a + 2) ?_ w16 (m14.adv hlt2 e16) ⟨?_, fun _ => ?_⟩ ?_)⟩
          · unfold pTerm
            rw [if_pos h14, if_pos hk4]
          · rw [e16, gI_uI, if_neg (by omega), e14, gI_uJ, y35]
            unfold rk
            rw [if_neg (by omega), if_neg (by omega)]
          · rw [e16, gJ_uI, e14, gJ_uJ, if_pos ⟨rfl, rfl⟩]
            unfold rv
            rw [if_neg (by omega), if_neg (by omega)]
          · rw [e16, e14]
            exact ((F2.tr (oT.a F5)).uJ (by unfold oTJ; omega)).uI (by unfold oT; omega)
        · refine s_M_refuse hT m5 (fun w18 p F => ⟨Or.inl rfl, kI (h0 _ ?_ w18 p ((F2.tr (oT.a F5)).tr (oT.f F)))⟩)
          unfold pTerm
          rw [if_pos h14, if_neg (fun q => z4 (q4.1.mpr q))]
      · rw [m2.2.2.1, show ((a : Int)).toNat = a from rfl, x80, x83]
        refine ⟨⟨by omega, by omega⟩, fun z4 => ⟨fun _ => ?_, fun q => absurd rfl q⟩, fun z4 => ?_⟩
        · have hk4 := k4.mp z4
          have hr := ok.2.2.2.2.1 hk4
          have hr : 0 ≤ tV T a ∧ tV T a < 1000000000 := hr
          rw [ku hk4]
          have hlt2 := hT.lt t2 (by omega) (by omega)
          refine ⟨⟨by omega, by omega⟩, fun w9 e9 => ?_⟩
          have m9 : MS T nb a c V f w9 := by
            rw [e9]
            exact m2.fx (A := o0) (B := fun o k => o = 78 ∧ k = 36) (FX.rf.uJ ⟨rfl, rfl⟩) (fun o k z => z.elim) (fun o k z => by unfold msJ; omega)
          rw [m9.2.2.1]
          refine ⟨⟨by omega, by omega⟩, fun w11 e11 => kI (h1 (tV T a) V (a + 1) ?_ w11 (m9.adv hlt2 e11) ⟨?_, fun _ => ?_⟩ ?_)⟩
          · unfold pTerm pTerm0
            rw [if_neg h14, if_pos hk4]
          · rw [e11, gI_uI, if_neg (by omega), e9, gI_uJ, x35]
            unfold rk
            rw [if_neg (by omega), if_neg (by omega)]
          · rw [e11, gJ_uI, e9, gJ_uJ, if_pos ⟨rfl, rfl⟩]
            unfold rv
            rw [if_neg (by omega), if_neg (by omega)]
          · rw [e11, e9]
            exact (F2.uJ (by unfold oTJ; omega)).uI (by unfold oT; omega)
        · refine s_M_refuse hT m2 (fun w18 p F => ⟨Or.inl rfl, kI (h0 _ ?_ w18 p (F2.tr (oT.f F)))⟩)
          unfold pTerm pTerm0
          rw [if_neg h14, if_neg (fun q => z4 (k4.mpr q)), if_neg n2, if_neg n3]
    · have hk2 := k2.mp z2
      have hr := ok.2.2.1 hk2
      have hr : 0 ≤ tV T a ∧ tV T a < 4398046511104 := hr
      have hlt2 := hT.lt t2 (by omega) (by omega)
      rw [kn hk2, b_lor56 (c8_rng _)] at e21
      have m21 : MS T nb a c V f w21 := by
        rw [e21]
        exact m2.fx (A := o0) (B := fun o k => o = 78 ∧ k = 36) (FX.rf.uJ ⟨rfl, rfl⟩) (fun o k z => z.elim) (fun o k z => by unfold msJ; omega)
      rw [m21.2.2.1]
      refine ⟨⟨by omega, by omega⟩, fun w23 e23 => kI (h1 (17592186044416 + tV T a) V (a + 1) ?_ w23 (m21.adv hlt2 e23) ⟨?_, fun _ => ?_⟩ ?_)⟩
      · unfold pTerm pTerm0
        rw [if_neg (by omega), if_neg (by omega), if_pos hk2]
      · rw [e23, gI_uI, if_neg (by omega), e21, gI_uJ, x35]
        unfold rk
        rw [if_neg (by omega), if_neg (by omega)]
      · rw [e23, gJ_uI, e21, gJ_uJ, if_pos ⟨rfl, rfl⟩]
        unfold rv
        rw [if_neg (by omega), if_pos (by omega), show 17592186044416 + tV T a - 17592186044416 = tV T a by omega]
      · rw [e23, e21]
        exact (F2.uJ (by unfold oTJ; omega)).uI (by unfold oT; omega)
  · have hk3 := k3.mp z
    refine s_M_readVariable hT hs hk3 (fun i V' e w' m r F => ⟨Or.inr rfl, kI (h1 _ V' (a + 1) ?_ w' m r F)⟩) (fun e w' p F => ⟨Or.inl rfl, kI (h0 _ ?_ w' p F)⟩)
    · unfold pTerm pTerm0
      rw [if_neg (by omega), if_neg (by omega), if_neg (by omega), if_pos hk3, e]
    · unfold pTerm pTerm0
      rw [if_neg (by omega), if_neg (by omega), if_neg (by omega), if_pos hk3, e]
def PdM (s : Nat) (P : PL) (w : Wo) : Prop := gI w 78 37 = s ∧ s < 2 ∧ gI w 84 s = P.length ∧ P.length ≤ 16 ∧ (∀ x ∈ P, 0 ≤ x.1 ∧ x.1 < 4398046511104) ∧ ∀ i x, P[i]? = some x → gJ w 85 (16 * s + i) = c8 x.1 ∧ gI w 86 (16 * s + i) = x.2
def oP (s : Nat) : OkF := fun o k => (o = 78 ∧ (k = 3 ∨ k = 4)) ∨ (o = 84 ∧ k = s) ∨ (o = 86 ∧ 16 * s ≤ k ∧ k < 16 * s + 16)
def oPJ (s : Nat) : OkF := fun o k => o = 85 ∧ 16 * s ≤ k ∧ k < 16 * s + 16
theorem PdM.fx {s : Nat} {P : PL} {w w' : Wo} {A B : OkF} (h : PdM s P w) (hf : FX A B w w') (hA : ∀ o k, A o k → ¬ ((o = 78 ∧ k = 37) ∨ (o = 84 ∧ k = s) ∨ (o = 86 ∧ 16 * s ≤ k ∧ k < 16 * s + 16))) (hB : ∀ o k, B o k → ¬ oPJ s o k) : PdM s P w' := by
  obtain ⟨h1, h2, h3, h4, h5, h6⟩ := h
  have e : ∀ o k, ((o = 78 ∧ k = 37) ∨ (o = 84 ∧ k = s) ∨ (o = 86 ∧ 16 * s ≤ k ∧ k < 16 * s + 16)) → gI w' o k = gI w o k := fun o k z => hf.1 o k (fun q => hA o k q z)
  have e2 : ∀ o k, oPJ s o k → gJ w' o k = gJ w o k := fun o k z => hf.2.1 o k (fun q => hB o k q z)
  refine ⟨by rw [e 78 37 (by omega)]; exact h1, h2, by rw [e 84 s (by omega)]; exact h3, h4, h5, fun i x hx => ?_⟩
  have hi := (List.getElem?_eq_some_iff.mp hx).1
  rw [e 86 _ (by omega), e2 85 _ (by unfold oPJ; omega)]
  exact h6 i x hx
theorem s_M_isKnown {s : Nat} {P : PL} {x : Int} {w : Wo} {K : Int → Wo → Prop} (hP : PdM s P w) (hx : 0 ≤ x ∧ x < 4398046511104) (h1 : fi P x < P.length → K 1 w) (h0 : fi P x = P.length → K 0 w) : MetI m_M_isKnown [vr 78, vl (c8 x)] w K := by
  obtain ⟨p1, p2, p3, p4, p5, p6⟩ := hP
  have lp : ∀ (k i : Nat), P.length - i ≤ k → i ≤ P.length → (∀ (j : Nat) (z : Int × Int), j < i → P[j]? = some z → z.1 ≠ x) → Wp m_M_isKnown 8 [(0, vr 78), (1, vl (c8 x)), (3, vi (16 * (s : Int) + (i : Int)))] [] (0, 0) w (fun r w' => ∃ y, r = some (vi y) ∧ K y w') := by
    intro k
    induction k with
    | zero =>
      intro i hk hi hj
      have e : i = P.length := by omega
      have hno := fi_no P x (fun j z hz => hj j z (by have := (List.getElem?_eq_some_iff.mp hz).1; omega) hz)
      refine t_M_isKnown_8 ?_
      rw [p1, show ((s : Int)).toNat = s from rfl, p3]
      exact ⟨⟨by omega, by omega⟩, ⟨by omega, by omega⟩, ⟨by omega, by omega⟩, fun _ => kI (h0 hno), fun z => by omega⟩
    | succ k ih =>
      intro i hk hi hj
      by_cases hil : i < P.length
      · obtain ⟨y, hy⟩ : ∃ y, P[i]? = some y := ⟨_, List.getElem?_eq_getElem hil⟩
        have q := (p6 i y hy).1
        have inj := c8_inj (p5 y (List.mem_of_getElem? hy)) hx
        refine t_M_isKnown_8 ?_
        rw [p1, show ((s : Int)).toNat = s from rfl, p3, show (16 * (s : Int) + (i : Int)).toNat = 16 * s + i by omega, q, lcmp0]
        refine ⟨⟨by omega, by omega⟩, ⟨by omega, by omega⟩, ⟨by omega, by omega⟩, fun z => by omega, fun _ => ⟨⟨by omega, by omega⟩, fun z => ⟨⟨by omega, by omega⟩, ?_⟩, fun z => kI (h1 ?_)⟩⟩
        · rw [show 16 * (s : Int) + (i : Int) + 1 = 16 * (s : Int) + ((i + 1 : Nat) : Int) by omega]
          refine ih (i + 1) (by omega) (by omega) (fun j u hj2 hu => ?_)
          by_cases e : j = i
          · subst e
            rw [hy] at hu
            injection hu with hu
            rw [← hu]
            exact fun q => z (inj.mpr q)
          · exact hj j u (by omega) hu
        · rw [fi_at P x i y hj hy (inj.mp z)]; exact hil
      · exact ih i (by omega) hi hj
  refine met_of (by decide) rfl (Nat.le_of_ble_eq_true rfl) (t_M_isKnown_0 ?_)
  rw [p1]
  have := lp P.length 0 (by omega) (Nat.zero_le _) (fun j z hj => by omega)
  rw [show 16 * (s : Int) + ((0 : Nat) : Int) = 16 * (s : Int) by omega] at this
  exact ⟨⟨by omega, by omega⟩, this⟩
theorem s_M_predicateOf {T : Tks} {nb a c s : Nat} {V P : PL} {f : Int × Int} {x sz p : Int} {w : Wo} {K : Int → Wo → Prop} (hs : MS T nb a c V f w) (hP : PdM s P w) (hx : 0 ≤ x ∧ x < 4398046511104) (hor : fi P x < P.length ∨ P.length < 16) (h : ∀ w', MS T nb a c V (ntS f P x sz p) w' → PdM s (rgP P x sz) w' → FX (oP s) (oPJ s) w w' → K (fi P x : Nat) w') : MetI m_M_predicateOf [vr 78, vl (c8 x), vi sz, vi p] w K := by
  obtain ⟨p1, p2, p3, p4, p5, p6⟩ := id hP
  have lp : ∀ (k i : Nat), P.length - i ≤ k → i ≤ P.length → (∀ (j : Nat) (z : Int × Int), j < i → P[j]? = some z → z.1 ≠ x) → Wp m_M_predicateOf 13 [(0, vr 78), (1, vl (c8 x)), (3, vi sz), (4, vi p), (5, vi (16 * (s : Int))), (6, vi (16 * (s : Int) + (i : Int)))] [] (0, 0) w (fun r w' => ∃ y, r = some (vi y) ∧ K y w') := by
    intro k
    induction k with
    | zero =>
      intro i hk hi hj
      have e : i = P.length := by omega
      have hno := fi_no P x (fun j z hz => hj j z (by have := (List.getElem?_eq_some_iff.mp hz).1; omega) hz)
      refine t_M_predicateOf_13 ?_
      rw [p1, show ((s : Int)).toNat = s from rfl, p3, show (16 * (s : Int) + (P.length : Int)).toNat = 16 * s + P.length by omega]
      refine ⟨⟨by omega, by omega⟩, ⟨by omega, by omega⟩, fun _ => ⟨⟨by omega, by omega⟩, ⟨by omega, by omega⟩, ⟨by omega, by omega⟩, fun w4 e4 => ⟨⟨by omega, by omega⟩, fun w7 e7 => ?_⟩⟩, fun z => by omega⟩
      have x37 : gI w7 78 37 = (s : Int) := by rw [e7, gI_uI, if_neg (by omega), e4, gI_uJ]; exact p1
      have x84 : gI w7 84 s = (P.length : Int) := by rw [e7, gI_uI, if_neg (by omega), e4, gI_uJ]; exact p3
      rw [x37, show ((s : Int)).toNat = s from rfl, x84]
      refine ⟨⟨by omega, by omega⟩, ⟨by omega, by omega⟩, ⟨by omega, by omega⟩, fun w11 e11 => ⟨⟨by omega, by omega⟩, ?_⟩⟩
      have F : FX (oP s) (oPJ s) w w11 := by
        rw [e11, e7, e4]
        exact ((FX.rf.uJ (by unfold oPJ; omega)).uI (by unfold oP; omega)).uI (by unfold oP; omega)
      have F' : FX (fun o k => (o = 84 ∧ k = s) ∨ (o = 86 ∧ 16 * s ≤ k ∧ k < 16 * s + 16)) (oPJ s) w w11 := by
        rw [e11, e7, e4]
        exact ((FX.rf.uJ (by unfold oPJ; omega)).uI (by omega)).uI (by omega)
      rw [show 16 * (s : Int) + (P.length : Int) - 16 * (s : Int) = ((fi P x : Nat) : Int) by omega]
      have en : ntS f P x sz p = f := if_neg (fun q => by omega)
      have er : rgP P x sz = P ++ [(x, sz)] := if_neg (by omega)
      refine kI (h w11 ?_ ?_ F)
      · rw [en]
        exact hs.fx F' (fun o k z => by unfold msI; omega) (fun o k z => by unfold oPJ at z; unfold msJ; omega)
      · rw [er]
        refine ⟨?_, p2, ?_, ?_, fun y hy => ?_, fun j y hy => ?_⟩
        · rw [F'.1 78 37 (by omega)]; exact p1
        · rw [e11, gI_uI, if_pos ⟨rfl, rfl⟩, List.length_append]; rfl
        · rw [List.length_append]; show P.length + 1 ≤ 16; omega
        · rcases List.mem_append.mp hy with hy | hy
          · exact p5 y hy
          · rw [List.mem_singleton.mp hy]; exact hx
        · rcases getApp hy with ⟨hj2, hy⟩ | ⟨hj2, hy⟩
          · obtain ⟨q1, q2⟩ := p6 j y hy
            constructor
            · rw [e11, gJ_uI, e7, gJ_uI, e4, gJ_uJ, if_neg (by omega)]; exact q1
            · rw [e11, gI_uI, if_neg (by omega), e7, gI_uI, if_neg (by omega), e4, gI_uJ]; exact q2
          · subst hy
            constructor
            · rw [e11, gJ_uI, e7, gJ_uI, e4, gJ_uJ, if_pos ⟨rfl, by omega⟩]
            · rw [e11, gI_uI, if_neg (by omega), e7, gI_uI, if_pos ⟨rfl, by omega⟩]
    | succ k ih =>
      intro i hk hi hj
      by_cases hil : i < P.length
      · obtain ⟨y, hy⟩ : ∃ y, P[i]? = some y := ⟨_, List.getElem?_eq_getElem hil⟩
        obtain ⟨q, q2⟩ := p6 i y hy
        have inj := c8_inj (p5 y (List.mem_of_getElem? hy)) hx
        refine t_M_predicateOf_13 ?_
        rw [p1, show ((s : Int)).toNat = s from rfl, p3, show (16 * (s : Int) + (i : Int)).toNat = 16 * s + i by omega, q, q2, lcmp0]
        refine ⟨⟨by omega, by omega⟩, ⟨by omega, by omega⟩, fun z => by omega, fun _ => ⟨⟨by omega, by omega⟩, fun z => ?_, fun z => ⟨⟨by omega, by omega⟩, ?_⟩⟩⟩
        · have hf := fi_at P x i y hj hy (inj.mp z)
          have esz : szAt P (fi P x) = y.2 := by
            unfold szAt
            rw [hf, List.getD_eq_getElem?_getD, hy]; rfl
          have er : rgP P x sz = P := if_pos (by omega)
          have fin : ∀ w', MS T nb a c V (ntS f P x sz p) w' → PdM s P w' → FX (oP s) (oPJ s) w w' → inr32 (16 * (s : Int) + (i : Int) - 16 * (s : Int)) ∧ ∃ y, (some (vi (16 * (s : Int) + (i : Int) - 16 * (s : Int))) : Option AV) = some (vi y) ∧ K y w' := by
            intro w' m' P' F'
            refine ⟨⟨by omega, by omega⟩, ?_⟩
            rw [show 16 * (s : Int) + (i : Int) - 16 * (s : Int) = ((fi P x : Nat) : Int) by omega]
            exact kI (h w' m' (by rw [er]; exact P') F')
          refine ⟨⟨by omega, by omega⟩, fun z2 => ?_, fun z2 => ?_⟩
          · refine fin w ?_ hP FX.rf
            have en : ntS f P x sz p = f := if_neg (fun q => q.2 (by rw [esz]; exact z2))
            rw [en]; exact hs
          · refine s_M_note hs (by decide) (fun w15 m15 F15 => fin w15 ?_ (hP.fx F15 (fun o k z => by unfold oF at z; omega) (fun o k z => z.elim)) (F15.sub (fun o k z => by unfold oF at z; unfold oP; omega) (fun o k z => z.elim)))
            have en : ntS f P x sz p = nt f 2 p := if_pos ⟨by omega, by rw [esz]; exact z2⟩
            rw [en]; exact m15
        · rw [show 16 * (s : Int) + (i : Int) + 1 = 16 * (s : Int) + ((i + 1 : Nat) : Int) by omega]
          refine ih (i + 1) (by omega) (by omega) (fun j u hj2 hu => ?_)
          by_cases e : j = i
          · subst e
            rw [hy] at hu
            injection hu with hu
            rw [← hu]
            exact fun q => z (inj.mpr q)
          · exact hj j u (by omega) hu
      · exact ih i (by omega) hi hj
  refine met_of (by decide) rfl (Nat.le_of_ble_eq_true rfl) (t_M_predicateOf_0 ?_)
  rw [p1]
  have := lp P.length 0 (by omega) (Nat.zero_le _) (fun j z hj => by omega)
  rw [show 16 * (s : Int) + ((0 : Nat) : Int) = 16 * (s : Int) by omega] at this
  exact ⟨⟨by omega, by omega⟩, this⟩

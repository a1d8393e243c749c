/-! the class's book of predicates; an atom -/
def BkC (b : Nat) (P : PL) (N : Nat → Int × Int × Int) (w : Wo) : Prop := gI w b 1 = P.length ∧ P.length ≤ 16 ∧ (∀ i x, P[i]? = some x → gJ w (b + 13) i = x.1 ∧ gI w (b + 14) i = x.2) ∧ ∀ i, i < P.length → gI w (b + 15) i = (N i).1 ∧ gI w (b + 16) i = (N i).2.1 ∧ gI w (b + 17) i = 0 ∧ gI w (b + 18) i = (N i).2.2
theorem BkC.frm {b : Nat} {P : PL} {N : Nat → Int × Int × Int} {w w' : Wo} {A B : List Nat} (h : BkC b P N w) (hf : Frm A B w w') (hA : b ∉ A ∧ b + 14 ∉ A ∧ b + 15 ∉ A ∧ b + 16 ∉ A ∧ b + 17 ∉ A ∧ b + 18 ∉ A) (hB : b + 13 ∉ B) : BkC b P N w' := by
  obtain ⟨h1, h2, h3, h4⟩ := h
  obtain ⟨x0, x14, x15, x16, x17, x18⟩ := hA
  refine ⟨?_, h2, fun i x hx => ?_, fun i hi => ?_⟩
  · rw [hf.1 b x0]; exact h1
  · rw [hf.2.1 _ hB, hf.1 _ x14]; exact h3 i x hx
  · rw [hf.1 _ x15, hf.1 _ x16, hf.1 _ x17, hf.1 _ x18]; exact h4 i hi
theorem bk_c {b : Nat} (h : isBk b) : b = 40 ∨ b = 59 := h
theorem BkC.ft {b l : Nat} {P : PL} {N : Nat → Int × Int × Int} {w w' : Wo} (h : BkC b P N w) (hb : isBk b) (hl : isLt l) (hf : FT l w w') : BkC b P N w' := by
  have := lt_c hl
  have := bk_c hb
  refine h.frm hf ?_ ?_
  · simp; omega
  · simp; omega
abbrev FB (b : Nat) (w w' : Wo) : Prop := Frm [b, b + 14, b + 15, b + 16, b + 17, b + 18] [b + 13] w w'
theorem CS.fb {T : Tks} {nb a : Nat} {V : PL} {tot f : Int × Int} {sz ato : Int} {w w' : Wo} {b : Nat} (h : CS T nb a V tot f sz ato w) (hb : isBk b) (hf : FB b w w') : CS T nb a V tot f sz ato w' := by
  have := bk_c hb
  refine h.frm hf ?_ ?_
  · simp; omega
  · simp; omega
theorem LiC.fb {l b : Nat} {k p ask eq : Int} {ar : List Int} {w w' : Wo} (h : LiC l k p ask eq ar w) (hl : isLt l) (hb : isBk b) (hf : FB b w w') : LiC l k p ask eq ar w' := by
  have := lt_c hl
  have := bk_c hb
  refine h.frm hf ?_ ?_
  · simp; omega
  · simp; omega
theorem getApp {α : Type} {L : List α} {y z : α} {i : Nat} (h : (L ++ [y])[i]? = some z) : (i < L.length ∧ L[i]? = some z) ∨ (i = L.length ∧ y = z) := by
  by_cases hi : i < L.length
  · rw [List.getElem?_append_left hi] at h
    exact Or.inl ⟨hi, h⟩
  · rw [List.getElem?_append_right (by omega)] at h
    by_cases hi2 : i = L.length
    · subst hi2
      rw [Nat.sub_self] at h
      exact Or.inr ⟨rfl, by simpa using h⟩
    · rw [List.getElem?_eq_none (by show 1 ≤ i - L.length; omega)] at h
      cases h
theorem s_Bk_numberOf {b : Nat} {P : PL} {N : Nat → Int × Int × Int} {w : Wo} {x : Int} {K : Int → Wo → Prop} (hb : isBk b) (hB : BkC b P N w) (hz : ∀ p, P.length ≤ p → N p = (0, 0, 0)) (h1 : fi P x < P.length → K (fi P x : Nat) w) (h2 : fi P x = P.length → P.length < 16 → ∀ w', BkC b (P ++ [(x, 0)]) N w' → FB b w w' → K (P.length : Int) w') (h0 : fi P x = P.length → ¬ P.length < 16 → K (-1) w) : MetI m_Bk_numberOf [vr b, vl x] w K := by
  obtain ⟨b1, b2, b3, b4⟩ := id hB
  have lp : ∀ (k i : Nat), P.length - i ≤ k → i ≤ P.length → (∀ (j : Nat) (z : Int × Int), j < i → P[j]? = some z → z.1 ≠ x) → Wp m_Bk_numberOf 2 [(0, vr b), (1, vl x), (3, vi (i : Int))] [] (0, 0) w (fun r w' => ∃ y, r = some (vi y) ∧ K y w') := by
    intro k
    induction k with
    | zero =>
      intro i hk hi hj
      have hie : i = P.length := by omega
      have hno : fi P x = P.length := fi_no P x (fun j z hz => hj j z (by have := (List.getElem?_eq_some_iff.mp hz).1; omega) hz)
      refine t_Bk_numberOf_2 hb ⟨fun _ => ⟨fun h8 => ?_, fun h8 => kI (h0 hno (by omega))⟩, fun z => by omega⟩
      rw [b1]
      have h8' : P.length < 16 := by omega
      refine ⟨⟨by omega, by omega⟩, fun w2 e2 => ?_⟩
      have q2 : gI w2 b 1 = P.length := by rw [e2, gI_uJ]; exact b1
      rw [q2]
      refine ⟨⟨by omega, by omega⟩, fun w5 e5 => ?_⟩
      have q5 : gI w5 b 1 = P.length := by rw [e5, gI_uI, if_neg (by omega)]; exact q2
      rw [q5]
      refine ⟨⟨by omega, by omega⟩, fun w8 e8 => ?_⟩
      have q8 : gI w8 b 1 = P.length := by rw [e8, gI_uI, if_neg (by omega)]; exact q5
      rw [q8]
      refine ⟨⟨by omega, by omega⟩, fun w11 e11 => ?_⟩
      have q11 : gI w11 b 1 = P.length := by rw [e11, gI_uI, if_neg (by omega)]; exact q8
      rw [q11]
      refine ⟨⟨by omega, by omega⟩, fun w14 e14 => ?_⟩
      have q14 : gI w14 b 1 = P.length := by rw [e14, gI_uI, if_neg (by omega)]; exact q11
      rw [q14]
      refine ⟨⟨by omega, by omega⟩, fun w17 e17 => ?_⟩
      have q17 : gI w17 b 1 = P.length := by rw [e17, gI_uI, if_neg (by omega)]; exact q14
      rw [q17]
      refine ⟨⟨by omega, by omega⟩, fun w19 e19 => ?_⟩
      have q19 : gI w19 b 1 = P.length + 1 := by rw [e19, gI_uI, if_pos ⟨rfl, rfl⟩]
      rw [q19]
      refine ⟨⟨by omega, by omega⟩, ?_⟩
      rw [show (P.length : Int) + 1 - 1 = (P.length : Int) by omega]
      have hf : FB b w w19 := by
        rw [e19, e17, e14, e11, e8, e5, e2]
        exact ((((((Frm.rf.uJ (by simp)).uI (by simp)).uI (by simp)).uI (by simp)).uI (by simp)).uI (by simp)).uI (by simp)
      have ej : ∀ i, gJ w19 (b + 13) i = if i = P.length then x else gJ w (b + 13) i := by
        intro i
        rw [e19, gJ_uI, e17, gJ_uI, e14, gJ_uI, e11, gJ_uI, e8, gJ_uI, e5, gJ_uI, e2, gJ_uJ]
        by_cases hi : i = P.length
        · rw [if_pos ⟨rfl, by omega⟩, if_pos hi]
        · rw [if_neg (by omega), if_neg hi]
      have d14 : ∀ i, gI w19 (b + 14) i = if i = P.length then 0 else gI w (b + 14) i := by
        intro i
        rw [e19, gI_uI, if_neg (by omega), e17, gI_uI, if_neg (by omega), e14, gI_uI, if_neg (by omega), e11, gI_uI, if_neg (by omega), e8, gI_uI, if_neg (by omega), e5, gI_uI]
        by_cases hi : i = P.length
        · rw [if_pos ⟨rfl, by omega⟩, if_pos hi]
        · rw [if_neg (by omega), if_neg hi, e2, gI_uJ]
      have d15 : ∀ i, gI w19 (b + 15) i = if i = P.length then 0 else gI w (b + 15) i := by
        intro i
        rw [e19, gI_uI, if_neg (by omega), e17, gI_uI, if_neg (by omega), e14, gI_uI, if_neg (by omega), e11, gI_uI, if_neg (by omega), e8, gI_uI]
        by_cases hi : i = P.length
        · rw [if_pos ⟨rfl, by omega⟩, if_pos hi]
        · rw [if_neg (by omega), if_neg hi, e5, gI_uI, if_neg (by omega), e2, gI_uJ]
      have d16 : ∀ i, gI w19 (b + 16) i = if i = P.length then 0 else gI w (b + 16) i := by
        intro i
        rw [e19, gI_uI, if_neg (by omega), e17, gI_uI, if_neg (by omega), e14, gI_uI, if_neg (by omega), e11, gI_uI]
        by_cases hi : i = P.length
        · rw [if_pos ⟨rfl, by omega⟩, if_pos hi]
        · rw [if_neg (by omega), if_neg hi, e8, gI_uI, if_neg (by omega), e5, gI_uI, if_neg (by omega), e2, gI_uJ]
      have d17 : ∀ i, gI w19 (b + 17) i = if i = P.length then 0 else gI w (b + 17) i := by
        intro i
        rw [e19, gI_uI, if_neg (by omega), e17, gI_uI, if_neg (by omega), e14, gI_uI]
        by_cases hi : i = P.length
        · rw [if_pos ⟨rfl, by omega⟩, if_pos hi]
        · rw [if_neg (by omega), if_neg hi, e11, gI_uI, if_neg (by omega), e8, gI_uI, if_neg (by omega), e5, gI_uI, if_neg (by omega), e2, gI_uJ]
      have d18 : ∀ i, gI w19 (b + 18) i = if i = P.length then 0 else gI w (b + 18) i := by
        intro i
        rw [e19, gI_uI, if_neg (by omega), e17, gI_uI]
        by_cases hi : i = P.length
        · rw [if_pos ⟨rfl, by omega⟩, if_pos hi]
        · rw [if_neg (by omega), if_neg hi, e14, gI_uI, if_neg (by omega), e11, gI_uI, if_neg (by omega), e8, gI_uI, if_neg (by omega), e5, gI_uI, if_neg (by omega), e2, gI_uJ]
      refine kI (h2 hno h8' w19 ⟨?_, ?_, fun i y hy => ?_, fun i hi => ?_⟩ hf)
      · rw [q19, List.length_append]; rfl
      · rw [List.length_append]; show P.length + 1 ≤ 16; omega
      · rw [ej, d14]
        rcases getApp hy with ⟨hi, hy⟩ | ⟨hi, hy⟩
        · rw [if_neg (by omega), if_neg (by omega)]
          exact b3 i y hy
        · rw [if_pos hi, if_pos hi, ← hy]
          exact ⟨rfl, rfl⟩
      · rw [d15, d16, d17, d18]
        have hi : i < P.length + 1 := by rw [List.length_append] at hi; exact hi
        by_cases hi2 : i = P.length
        · rw [if_pos hi2, if_pos hi2, if_pos hi2, if_pos hi2, hz i (by omega)]
          exact ⟨rfl, rfl, rfl, rfl⟩
        · rw [if_neg hi2, if_neg hi2, if_neg hi2, if_neg hi2]
          exact b4 i (by omega)
    | succ k ih =>
      intro i hk hi hj
      by_cases hie : i = P.length
      · exact ih i (by omega) hi hj
      · have hil : i < P.length := by omega
        have hg : P[i]? = some P[i] := List.getElem?_eq_getElem hil
        have hv := b3 i _ hg
        refine t_Bk_numberOf_2 hb ⟨fun z => by omega, fun _ => ⟨⟨by omega, by omega⟩, fun z => ⟨⟨by omega, by omega⟩, ?_⟩, fun z => ?_⟩⟩
        · rw [show ((i : Int)).toNat = i from rfl, hv.1, lcmp0] at z
          refine ih (i + 1) (by omega) (by omega) (fun j y h2 h3 => ?_)
          by_cases h4 : j = i
          · subst h4
            rw [hg] at h3
            have : P[j] = y := by simpa using h3
            rw [← this]; exact z
          · exact hj j y (by omega) h3
        · rw [show ((i : Int)).toNat = i from rfl, hv.1, lcmp0] at z
          have hfi := fi_at P x i _ hj hg z
          rw [hfi] at h1
          exact kI (h1 hil)
  exact met_of (by decide) rfl (Nat.le_of_ble_eq_true rfl) (t_Bk_numberOf_0 hb (lp P.length 0 (by omega) (Nat.zero_le _) (fun j z hj _ => by omega)))
theorem s_Bk_agrees {b i : Nat} {P : PL} {N : Nat → Int × Int × Int} {w : Wo} {x s0 s : Int} {K : Int → Wo → Prop} (hb : isBk b) (hB : BkC b P N w) (hi : P[i]? = some (x, s0)) (h1 : s0 ≠ 0 → s0 = s → K 1 w) (h0 : s0 ≠ 0 → s0 ≠ s → K 0 w) (h2 : s0 = 0 → ∀ w', BkC b (P.set i (x, s)) N w' → FB b w w' → K 1 w') : MetI m_Bk_agrees [vr b, vi (i : Int), vi s] w K := by
  obtain ⟨b1, b2, b3, b4⟩ := id hB
  have hil := (List.getElem?_eq_some_iff.mp hi).1
  have hg := (b3 i _ hi).2
  have hg : gI w (b + 14) i = s0 := hg
  refine met_of (by decide) rfl (Nat.le_of_ble_eq_true rfl) (t_Bk_agrees_0 hb ⟨fun z => by omega, fun _ => ⟨fun _ => ⟨⟨by omega, by omega⟩, fun z => ⟨⟨by omega, by omega⟩, fun z2 => kI ?_, fun z2 => kI ?_⟩, fun z => ⟨⟨by omega, by omega⟩, fun w4 e4 => ⟨⟨by omega, by omega⟩, ?_⟩⟩⟩, fun z => by omega⟩⟩)
  · rw [show ((i : Int)).toNat = i from rfl, hg] at z z2
    exact h0 z z2
  · rw [show ((i : Int)).toNat = i from rfl, hg] at z z2
    exact h1 z z2
  · rw [show ((i : Int)).toNat = i from rfl, hg] at z
    rw [show ((i : Int)).toNat = i from rfl] at e4 ⊢
    have q : gI w4 (b + 14) i = s := by rw [e4, gI_uI, if_pos ⟨rfl, rfl⟩]
    rw [q]
    refine ⟨fun q2 => absurd rfl q2, fun _ => kI (h2 z w4 ⟨?_, ?_, fun j y hy => ?_, fun j hj => ?_⟩ ?_)⟩
    · rw [List.length_set, e4, gI_uI, if_neg (by omega)]; exact b1
    · rw [List.length_set]; exact b2
    · rw [e4, gJ_uI, gI_uI]
      by_cases hji : j = i
      · subst hji
        rw [List.getElem?_set_self hil] at hy
        have : (x, s) = y := by simpa using hy
        subst this
        rw [if_pos ⟨rfl, rfl⟩]
        exact ⟨(b3 j _ hi).1, rfl⟩
      · rw [List.getElem?_set_ne (fun q => hji q.symm)] at hy
        rw [if_neg (by omega)]
        exact b3 j y hy
    · rw [List.length_set] at hj
      rw [e4, gI_uI, if_neg (by omega), gI_uI, if_neg (by omega), gI_uI, if_neg (by omega), gI_uI, if_neg (by omega)]
      exact b4 j hj
    · rw [e4]; exact Frm.rf.uI (by simp)

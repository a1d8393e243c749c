/-! the reference: who hangs on whom -/
def BkH (H : Nat → Nat) (w : Wo) : Prop := ∀ a b, a < 16 → b < 16 → gI w 111 (16 * a + b) = b01 ((H a).testBit b)
def BkE (E : Nat → Nat → Bool) (w : Wo) : Prop := ∀ a b, a < 16 → b < 16 → gI w 111 (16 * a + b) = b01 (E a b)
def oHg : OkF := fun o _ => o = 111
theorem RsM.hg {sd : Nat} {R : List Rul} {w w' : Wo} {A B : OkF} (h : RsM sd R w) (hf : FX A B w w') (hA : ∀ o k, A o k → o = 111 ∨ o = 87 ∨ (o = 78 ∧ (k = 3 ∨ k = 4))) (hB : ∀ o k, ¬ B o k) : RsM sd R w' := by
  obtain ⟨h1, h2, h3, h4⟩ := h
  refine ⟨by rw [hf.1 88 sd (fun q => by have := hA _ _ q; omega)]; exact h1, h2, h3, fun i r hr => (h4 i r hr).fx (h3 r (List.mem_of_getElem? hr)) hf (fun o k z => ?_) (fun o k z => absurd z (hB o k))⟩
  rcases hA o k z with rfl | rfl | ⟨rfl, q⟩ <;> simp [ruI]
theorem bior0 : ∀ b, b_ior (b01 b) 0 = b01 b := by decide +kernel
theorem bior1 : ∀ b, b_ior (b01 b) 1 = 1 := by decide +kernel
theorem b01_c (b : Bool) : b01 b = 0 ∨ b01 b = 1 := by cases b
                                                       · exact Or.inl rfl
                                                       · exact Or.inr rfl
theorem s_M_isAtom {l : Nat} {L : Lit} {w : Wo} {K : Int → Wo → Prop} (hl : l < 366) (hL : LiM l L w) (h1 : (L.1 = 0 ∨ L.1 = 1) → K 1 w) (h0 : ¬ (L.1 = 0 ∨ L.1 = 1) → K 0 w) : MetI m_M_isAtom [vr 78, vi (l : Int)] w K := by
  refine met_of (by decide) rfl (Nat.le_of_ble_eq_true rfl) (t_M_isAtom_0 ?_)
  rw [show ((l : Int)).toNat = l from rfl, hL.1]
  refine ⟨⟨by omega, by omega⟩, fun z => kI (h1 (Or.inl z)), fun z => ⟨⟨by omega, by omega⟩, fun z2 => kI (h0 (fun q => ?_)), fun z2 => kI (h1 (Or.inr z2))⟩⟩
  rcases q with q | q
  · exact z q
  · exact z2 q
theorem l_mwar {E : Nat → Nat → Bool} {w : Wo} {Q : Option AV → Wo → Prop} (h : ∀ w', BkE (war E 16) w' → FX oHg o0 w w' → Q none w') : ∀ (k m : Nat) (w1 : Wo), 16 - m ≤ k → m ≤ 16 → BkE (war E m) w1 → FX oHg o0 w w1 → Wp m_M_lookHangs 115 [(0, vr 78), (1, vi (m : Int))] [] (0, 0) w1 Q := by
  intro k
  induction k with
  | zero =>
    intro m w1 hk hm hE F
    have e : m = 16 := by omega
    subst e
    exact t_M_lookHangs_115 ⟨fun _ => h w1 hE F, fun z => by omega⟩
  | succ k ih =>
    intro m w1 hk hm hE F
    by_cases hm16 : m < 16
    · refine t_M_lookHangs_115 ⟨fun z => by omega, fun _ => ?_⟩
      -- rows
      have rows : ∀ (k2 a' : Nat) (w2 : Wo), 16 - a' ≤ k2 → a' ≤ 16 → (∀ a b, a < 16 → b < 16 → gI w2 111 (16 * a + b) = b01 (if a < a' then wst m (war E m) a b else war E m a b)) → FX oHg o0 w w2 → Wp m_M_lookHangs 123 [(0, vr 78), (1, vi (m : Int)), (2, vi (a' : Int))] [] (0, 0) w2 Q := by
        intro k2
        induction k2 with
        | zero =>
          intro a' w2 hk2 ha' hJ F2
          refine t_M_lookHangs_123 ⟨fun _ => ⟨⟨by omega, by omega⟩, ih (m + 1) w2 (by omega) (by omega) (fun a b ha hb => ?_) F2⟩, fun z => by omega⟩
          rw [hJ a b ha hb, if_pos (by omega)]; rfl
        | succ k2 ih2 =>
          intro a' w2 hk2 ha' hJ F2
          by_cases ha16 : a' < 16
          · refine t_M_lookHangs_123 ⟨fun z => by omega, fun _ => ?_⟩
            have cells : ∀ (k3 b' : Nat) (w3 : Wo), 16 - b' ≤ k3 → b' ≤ 16 → (∀ a b, a < 16 → b < 16 → gI w3 111 (16 * a + b) = b01 (if a < a' ∨ (a = a' ∧ b < b') then wst m (war E m) a b else war E m a b)) → FX oHg o0 w w3 → Wp m_M_lookHangs 131 [(0, vr 78), (1, vi (m : Int)), (2, vi (a' : Int)), (3, vi (b' : Int))] [] (0, 0) w3 Q := by
              intro k3
              induction k3 with
              | zero =>
                intro b' w3 hk3 hb' hJ3 F3
                refine t_M_lookHangs_131 ⟨fun _ => ⟨⟨by omega, by omega⟩, ih2 (a' + 1) w3 (by omega) (by omega) (fun a b ha hb => ?_) F3⟩, fun z => by omega⟩
                rw [hJ3 a b ha hb]
                by_cases c : a < a' + 1
                · rw [if_pos (by omega), if_pos c]
                · rw [if_neg (by omega), if_neg c]
              | succ k3 ih3 =>
                intro b' w3 hk3 hb' hJ3 F3
                by_cases hb16 : b' < 16
                · have e1 : gI w3 111 (16 * a' + b') = b01 (war E m a' b') := by rw [hJ3 a' b' ha16 hb16, if_neg (by omega)]
                  have e2 : gI w3 111 (16 * a' + m) = b01 (war E m a' m) := by
                    rw [hJ3 a' m ha16 hm16]
                    split
                    · unfold wst
                      cases war E m a' m <;> rfl
                    · rfl
                  have e3 : gI w3 111 (16 * m + b') = b01 (war E m m b') := by
                    rw [hJ3 m b' hm16 hb16]
                    split
                    · unfold wst
                      cases war E m m b' <;> cases war E m m m <;> rfl
                    · rfl
                  refine t_M_lookHangs_131 ⟨fun z => by omega, fun _ => ?_⟩
                  rw [show (16 * (a' : Int) + (b' : Int)).toNat = 16 * a' + b' by omega, show (16 * (a' : Int) + (m : Int)).toNat = 16 * a' + m by omega, show (16 * (m : Int) + (b' : Int)).toNat = 16 * m + b' by omega, e1, e2, e3, bior0, bior1]
                  have fin : ∀ (x : Bool) (w4 : Wo), x = wst m (war E m) a' b' → w4 = uI w3 111 (16 * a' + b') (b01 x) → Wp m_M_lookHangs 131 [(0, vr 78), (1, vi (m : Int)), (2, vi (a' : Int)), (3, vi ((b' : Int) + 1))] [] (0, 0) w4 Q := by
                    intro x w4 hx e4
                    refine ih3 (b' + 1) w4 (by omega) (by omega) (fun a b ha hb => ?_) (by rw [e4]; exact F3.uI rfl)
                    rw [e4, gI_uI]
                    by_cases c : a = a' ∧ b = b'
                    · obtain ⟨rfl, rfl⟩ := c
                      rw [if_pos ⟨rfl, rfl⟩, if_pos (by omega), hx]
                    · rw [if_neg (by omega), hJ3 a b ha hb]
                      by_cases c2 : a < a' ∨ (a = a' ∧ b < b')
                      · rw [if_pos c2, if_pos (by omega)]
                      · rw [if_neg c2, if_neg (by omega)]
                  refine ⟨⟨by omega, by omega⟩, ⟨by omega, by omega⟩, ⟨by omega, by omega⟩, ⟨by omega, by omega⟩, ⟨by omega, by omega⟩, ⟨by omega, by omega⟩, fun z => ⟨⟨by omega, by omega⟩, b01_c _, fun w4 e4 => ⟨⟨by omega, by omega⟩, fin _ w4 ?_ e4⟩⟩, fun z => ⟨⟨by omega, by omega⟩, ⟨by omega, by omega⟩, ⟨by omega, by omega⟩, fun z2 => ⟨⟨by omega, by omega⟩, b01_c _, fun w8 e8 => ⟨⟨by omega, by omega⟩, fin _ w8 ?_ e8⟩⟩, fun z2 => ⟨⟨by omega, by omega⟩, Or.inr rfl, fun w11 e11 => ⟨⟨by omega, by omega⟩, fin true w11 ?_ e11⟩⟩⟩⟩
                  · unfold wst
                    rw [b01_0.mp z, Bool.false_and, Bool.or_false]
                  · unfold wst
                    rw [b01_0.mp z2, Bool.and_false, Bool.or_false]
                  · unfold wst
                    cases q1 : war E m a' m with
                    | false => rw [q1] at z; exact absurd rfl z
                    | true =>
                      cases q2 : war E m m b' with
                      | false => rw [q2] at z2; exact absurd rfl z2
                      | true => rw [Bool.true_and, Bool.or_true]
                · exact ih3 b' w3 (by omega) hb' hJ3 F3
            refine cells 16 0 w2 (by omega) (Nat.zero_le _) (fun a b ha hb => ?_) F2
            rw [hJ a b ha hb]
            by_cases c : a < a'
            · rw [if_pos c, if_pos (Or.inl c)]
            · rw [if_neg c, if_neg (by omega)]
          · exact ih2 a' w2 (by omega) ha' hJ F2
      refine rows 16 0 w1 (by omega) (Nat.zero_le _) (fun a b ha hb => ?_) F
      rw [if_neg (by omega)]; exact hE a b ha hb
    · exact ih m w1 (by omega) hm hE F
theorem s_M_lookHangs {sd n : Nat} {R : List Rul} {w : Wo} {K : Wo → Prop} (h37 : gI w 78 37 = (sd : Int)) (hsd : sd < 2) (hn : n ≤ 16) (hR : RsM sd R w) (hok : ∀ r ∈ R, RuOK n r) (h : ∀ w', BkE (hgs R n) w' → FX oHg o0 w w' → K w') : MetV m_M_lookHangs [vr 78] w K := by
  have x37 : ∀ w1, FX oHg o0 w w1 → gI w1 78 37 = (sd : Int) := fun w1 F => by rw [F.1 78 37 (by unfold oHg; omega)]; exact h37
  have xR : ∀ w1, FX oHg o0 w w1 → RsM sd R w1 := fun w1 F => hR.hg F (fun o k z => Or.inl z) (fun o k z => z)
  have last : ∀ w1, BkH (hgR R) w1 → FX oHg o0 w w1 → Wp m_M_lookHangs 115 [(0, vr 78), (1, vi 0)] [] (0, 0) w1 (fun r w' => r = none ∧ K w') := by
    intro w1 hH F
    refine l_mwar (E := E0 R) (w := w) (fun w' hE F' => ⟨rfl, h w' (fun a b ha hb => ?_) F'⟩) 16 0 w1 (by omega) (Nat.zero_le _) hH F
    rw [hE a b ha hb]
    have := war_more (E0_rng hok) (16 - n) a b
    rw [show n + (16 - n) = 16 by omega] at this
    rw [this]; rfl
  have rules : ∀ (k i : Nat) (w1 : Wo), R.length - i ≤ k → i ≤ R.length → BkH (hgR (R.take i)) w1 → FX oHg o0 w w1 → Wp m_M_lookHangs 30 [(0, vr 78), (1, vi (30 * (sd : Int) + (i : Int)))] [] (0, 0) w1 (fun r w' => r = none ∧ K w') := by
    intro k
    induction k with
    | zero =>
      intro i w1 hk hi hH F
      have e : i = R.length := by omega
      have hl := hR.2.1
      refine t_M_lookHangs_30 ?_
      rw [x37 w1 F, show ((sd : Int)).toNat = sd from rfl, (xR w1 F).1]
      rw [e, List.take_length] at hH
      exact ⟨⟨by omega, by omega⟩, ⟨by omega, by omega⟩, ⟨by omega, by omega⟩, fun _ => last w1 hH F, fun z => by omega⟩
    | succ k ih =>
      intro i w1 hk hi hH F
      by_cases hin : i < R.length
      · have hl := hR.2.1
        obtain ⟨r, hr⟩ : ∃ r, R[i]? = some r := ⟨_, List.getElem?_eq_getElem hin⟩
        have hrm := List.mem_of_getElem? hr
        obtain ⟨u1, u2, u3, u4, u5, u6, u7, u8, u9, u10, u11, -⟩ := hok r hrm
        have lits : ∀ (k2 j : Nat) (w2 : Wo), r.2.2.2.2.length - j ≤ k2 → j ≤ r.2.2.2.2.length → BkH (fun a => hgR (R.take i) a ||| (if r.1 = (a : Int) then hmA (r.2.2.2.2.take j) else 0)) w2 → FX oHg o0 w w2 → Wp m_M_lookHangs 56 [(0, vr 78), (1, vi (30 * (sd : Int) + (i : Int))), (2, vi (6 * (30 * (sd : Int) + (i : Int)) + (j : Int)))] [] (0, 0) w2 (fun r w' => r = none ∧ K w') := by
          intro k2
          induction k2 with
          | zero =>
            intro j w2 hk2 hj hH2 F2
            have e : j = r.2.2.2.2.length := by omega
            obtain ⟨q1, q2, q3, q4, q5⟩ := (xR w2 F2).2.2.2 i r hr
            refine t_M_lookHangs_56 ?_
            rw [show (30 * (sd : Int) + (i : Int)).toNat = 30 * sd + i by omega, q5.1]
            refine ⟨⟨by omega, by omega⟩, ⟨by omega, by omega⟩, ⟨by omega, by omega⟩, fun _ => ⟨⟨by omega, by omega⟩, ?_⟩, fun z => by omega⟩
            rw [show 30 * (sd : Int) + (i : Int) + 1 = 30 * (sd : Int) + ((i + 1 : Nat) : Int) by omega]
            refine ih (i + 1) w2 (by omega) (by omega) (fun a b ha hb => ?_) F2
            rw [hH2 a b ha hb, take_s hr, hgR_app, e, List.take_length]
          | succ k2 ih2 =>
            intro j w2 hk2 hj hH2 F2
            by_cases hjn : j < r.2.2.2.2.length
            · obtain ⟨L, hL⟩ : ∃ L, r.2.2.2.2[j]? = some L := ⟨_, List.getElem?_eq_getElem hjn⟩
              have hN := u11 L (List.mem_of_getElem? hL)
              obtain ⟨q1, q2, q3, q4, q5⟩ := (xR w2 F2).2.2.2 i r hr
              have hLi := q5.2 j L hL
              refine t_M_lookHangs_56 ?_
              rw [show (30 * (sd : Int) + (i : Int)).toNat = 30 * sd + i by omega, q5.1, show 6 * (30 * (sd : Int) + (i : Int)) + (j : Int) = ((6 * (30 * sd + i) + j : Nat) : Int) by omega]
              refine ⟨⟨by omega, by omega⟩, ⟨by omega, by omega⟩, ⟨by omega, by omega⟩, fun z => by omega, fun _ => ?_⟩
              refine s_M_isAtom (by omega) hLi (fun hA => ⟨fun q => absurd q (by decide), fun _ => ?_⟩) (fun hA => ⟨fun _ => ⟨⟨by omega, by omega⟩, ?_⟩, fun q => absurd rfl q⟩)
              · have ha := hN.1.a hA
                have hb := hN.2.2
                rw [q1, show (((6 * (30 * sd + i) + j : Nat) : Int)).toNat = 6 * (30 * sd + i) + j from rfl, (hLi.2.2.1 hA).1]
                refine ⟨⟨by omega, by omega⟩, ⟨by omega, by omega⟩, ⟨by omega, by omega⟩, ⟨by omega, by omega⟩, ⟨by omega, by omega⟩, fun w7 e7 => ⟨⟨by omega, by omega⟩, ?_⟩⟩
                rw [show ((6 * (30 * sd + i) + j : Nat) : Int) + 1 = 6 * (30 * (sd : Int) + (i : Int)) + ((j + 1 : Nat) : Int) by omega]
                refine ih2 (j + 1) w7 (by omega) (by omega) (fun a b ha2 hb2 => ?_) (by rw [e7]; exact F2.uI rfl)
                rw [e7, gI_uI, show (16 * r.1 + L.2.2.1).toNat = 16 * r.1.toNat + L.2.2.1.toNat by omega, take_s hL, hmA_app, if_pos hA]
                by_cases c : a = r.1.toNat ∧ b = L.2.2.1.toNat
                · obtain ⟨rfl, rfl⟩ := c
                  dsimp only
                  rw [if_pos ⟨rfl, rfl⟩, if_pos (show r.1 = ((r.1.toNat : Nat) : Int) by omega), Nat.testBit_or, Nat.testBit_or, Nat.testBit_two_pow_self, Bool.or_true, Bool.or_true]; rfl
                · rw [if_neg (by omega), hH2 a b ha2 hb2]
                  congr 1
                  dsimp only
                  by_cases c2 : r.1 = (a : Int)
                  · rw [if_pos c2, if_pos c2, Nat.testBit_or, Nat.testBit_or, Nat.testBit_or, Nat.testBit_two_pow_of_ne (by omega), Bool.or_false]
                  · rw [if_neg c2, if_neg c2]
              · rw [show ((6 * (30 * sd + i) + j : Nat) : Int) + 1 = 6 * (30 * (sd : Int) + (i : Int)) + ((j + 1 : Nat) : Int) by omega]
                refine ih2 (j + 1) w2 (by omega) (by omega) (fun a b ha2 hb2 => ?_) F2
                rw [hH2 a b ha2 hb2, take_s hL, hmA_app, if_neg hA, Nat.or_zero]
            · exact ih2 j w2 (by omega) hj hH2 F2
        refine t_M_lookHangs_30 ?_
        rw [x37 w1 F, show ((sd : Int)).toNat = sd from rfl, (xR w1 F).1]
        refine ⟨⟨by omega, by omega⟩, ⟨by omega, by omega⟩, ⟨by omega, by omega⟩, fun z => by omega, fun _ => ⟨⟨by omega, by omega⟩, ?_⟩⟩
        have := lits r.2.2.2.2.length 0 w1 (by omega) (Nat.zero_le _) (fun a b ha hb => by
          rw [hH a b ha hb, List.take_zero, show hmA [] = 0 from rfl]
          congr 1
          dsimp only
          rw [ite_self, Nat.or_zero]) F
        rw [show 6 * (30 * (sd : Int) + (i : Int)) + ((0 : Nat) : Int) = 6 * (30 * (sd : Int) + (i : Int)) by omega] at this
        exact this
      · exact ih i w1 (by omega) hi hH F
  have clr : ∀ (k v : Nat) (w1 : Wo), 256 - v ≤ k → v ≤ 256 → (∀ u, u < v → gI w1 111 u = 0) → FX oHg o0 w w1 → Wp m_M_lookHangs 2 [(0, vr 78), (1, vi (v : Int))] [] (0, 0) w1 (fun r w' => r = none ∧ K w') := by
    intro k
    induction k with
    | zero =>
      intro v w1 hk hv hu F
      refine t_M_lookHangs_2 ⟨fun _ => ?_, fun z => by omega⟩
      rw [x37 w1 F]
      have := rules R.length 0 w1 (by omega) (Nat.zero_le _) (fun a b ha hb => by rw [hu _ (by omega)]; show (0 : Int) = b01 ((0 : Nat).testBit b); rw [Nat.zero_testBit]; rfl) F
      rw [show 30 * (sd : Int) + ((0 : Nat) : Int) = 30 * (sd : Int) by omega] at this
      exact ⟨⟨by omega, by omega⟩, this⟩
    | succ k ih =>
      intro v w1 hk hv hu F
      by_cases hv2 : v < 256
      · refine t_M_lookHangs_2 ⟨fun z => by omega, fun _ => ⟨⟨by omega, by omega⟩, fun w2 e2 => ⟨⟨by omega, by omega⟩, ih (v + 1) w2 (by omega) (by omega) (fun u hu2 => ?_) (by rw [e2]; exact F.uI rfl)⟩⟩⟩
        rw [e2, gI_uI, show ((v : Int)).toNat = v from rfl]
        by_cases eu : u = v
        · rw [if_pos ⟨rfl, eu⟩]
        · rw [if_neg (fun q => eu q.2)]; exact hu u (by omega)
      · exact ih v w1 (by omega) hv hu F
  exact met_of (by decide) rfl (Nat.le_of_ble_eq_true rfl) (t_M_lookHangs_0 (clr 256 0 w (by omega) (Nat.zero_le _) (fun u hu => by omega) FX.rf))
theorem s_M_isBack {W : Nat → Nat → Bool} {h a : Int} {w : Wo} {K : Int → Wo → Prop} (hW : BkE W w) (hh : 0 ≤ h ∧ h < 16) (ha : 0 ≤ a ∧ a < 16) (h1 : lbk W h a = true → K 1 w) (h0 : lbk W h a = false → K 0 w) : MetI m_M_isBack [vr 78, vi h, vi a] w K := by
  refine met_of (by decide) rfl (Nat.le_of_ble_eq_true rfl) (t_M_isBack_0 ⟨fun z => kI (h1 ?_), fun z => ?_⟩)
  · unfold lbk
    rw [decide_eq_true z.symm, Bool.true_or]
  · have e := hW a.toNat h.toNat (by omega) (by omega)
    rw [show (16 * a + h).toNat = 16 * a.toNat + h.toNat by omega, e]
    refine ⟨⟨by omega, by omega⟩, ⟨by omega, by omega⟩, ⟨by omega, by omega⟩, fun z2 => kI (h0 ?_), fun z2 => kI (h1 ?_)⟩
    · unfold lbk
      rw [b01_0.mp z2, decide_eq_false (fun q => z q.symm)]; rfl
    · unfold lbk
      cases q : W a.toNat h.toNat with
      | true => rw [Bool.or_true]
      | false => rw [q] at z2; exact absurd rfl z2

/-! what is asked of a program -/
theorem lbN_n {m : Nat} (h : m < 2 ^ 64) : lbN (m : Int) = m := by
  unfold lbN
  rw [l_ofN, wb_tn h]
theorem nI_and127 (m : Nat) : nI m &&& Int32.ofInt 127 = nI (m % 128) := by
  apply i_inj
  rw [Int32.toBitVec_and, i_tb, i_tb]
  show BitVec.ofNat 32 m &&& BitVec.ofNat 32 127 = _
  apply BitVec.eq_of_toNat_eq
  rw [BitVec.toNat_and, BitVec.toNat_ofNat, BitVec.toNat_ofNat, BitVec.toNat_ofNat]
  have h1 := Nat.and_two_pow_sub_one_eq_mod (m % 2 ^ 32) 7
  have h2 : (127 : Nat) % 2 ^ 32 = 2 ^ 7 - 1 := by decide
  rw [h2, h1]
  omega
/-- letter i of a name, or -1 -/
def leA (x : Nat) (i : Int) : Int := if 0 ≤ i ∧ i < (ltN 6 x : Nat) then ((x / 128 ^ (ltN 6 x - 1 - i.toNat) % 128 : Nat) : Int) else -1
theorem s_D_letter {x : Nat} {i : Int} {w : Wo} {K : Int → Wo → Prop} (hx : x < 4398046511104) (hi : 0 ≤ i ∧ i < 2147483648) (h : K (leA x i) w) : MetI m_D_letter [vl (x : Int), vi i] w K := by
  have hl := ltN_le 6 x
  refine met_of (by decide) rfl (Nat.le_of_ble_eq_true rfl) (t_D_letter_0 (s_D_letters hx ?_))
  refine ⟨⟨by omega, by omega⟩, ⟨by omega, by omega⟩, fun z => by omega, fun _ => ⟨fun z => ?_, fun z => ?_⟩⟩
  · have e : 7 * (((ltN 6 x : Nat) : Int) - 1 - i) = ((7 * (ltN 6 x - 1 - i.toNat) : Nat) : Int) := by omega
    rw [e, b_lshr_n (by omega) (by omega)]
    refine ⟨⟨by omega, by omega⟩, ?_⟩
    unfold b_l2i b_iand
    rw [l_ofN, l32, Int32.ofInt_toInt, nI_and127, i_T (by omega)]
    unfold leA at h
    rw [if_pos (by omega)] at h
    rw [Nat.pow_mul, show (2 : Nat) ^ 7 = 128 from rfl]
    exact kI h
  · unfold leA at h
    rw [if_neg (by omega)] at h
    exact kI h
/-- the answer of predicate -/
def prA (s : PSt) (p x : Int) : Int := if p < 0 ∨ (s.1.length : Int) ≤ p then -1 else if x = 0 then (s.1.getD p.toNat (0, 0)).2 else if x = 1 then str s.2.1 s.1.length p.toNat else if x = 2 then (rcR s.2.1 p.toNat : Nat) else if x = 3 then (fcR s.2.2.1 p.toNat : Nat) else if x = 4 then (ltN 6 (s.1.getD p.toNat (0, 0)).1.toNat : Nat) else if 100 ≤ x then leA (s.1.getD p.toNat (0, 0)).1.toNat (x - 100) else -1
def fuA (f : Int × Int) (x : Int) : Int := if x = 0 then f.1 else if x = 1 then f.2 else -1
def hgA (s : PSt) (p q : Int) : Int := if 0 ≤ p ∧ p < (s.1.length : Int) ∧ 0 ≤ q ∧ q < (s.1.length : Int) ∧ hgs s.2.1 s.1.length p.toNat q.toNat = true then 1 else 0
/-- the class and the program that it holds -/
def CI (s : PSt) (f : Int × Int) (c : Nat → Int) (n : Nat) (w : Wo) : Prop := TpR c n w ∧ (∃ b b', isBk b ∧ isBk b' ∧ b ≠ b' ∧ gP w 1 2 = b ∧ gP w 1 3 = b' ∧ BookC b s w) ∧ gI w 4 4 = f.1 ∧ gI w 4 5 = f.2
/-- the reference and the program that it holds -/
def RI (s : PSt) (f : Int × Int) (c : Nat → Int) (n : Nat) (w : Wo) : Prop := MtR c n w ∧ FtM f w ∧ ∃ sd : Nat, sd < 2 ∧ gI w 78 11 = (sd : Int) ∧ MBk sd s w ∧ BkE (hgs s.2.1 s.1.length) w
def PW (s : PSt) : Prop := ∃ a, a ≤ 600 ∧ WfS s a ∧ s.2.2.2.1 = 0
theorem s_D_fault {s : PSt} {f : Int × Int} {c : Nat → Int} {n : Nat} {x : Int} {w : Wo} {K : Int → Wo → Prop} (hC : CI s f c n w) (h : K (fuA f x) w) : MetI m_D_fault [vr 1, vi x] w K := by
  refine met_of (by decide) rfl (Nat.le_of_ble_eq_true rfl) (t_D_fault_0 ?_)
  rw [hC.2.2.1, hC.2.2.2]
  unfold fuA at h
  refine ⟨fun z => ?_, fun z => ?_, fun z z2 => ?_⟩
  · rw [if_pos z] at h; exact kI h
  · rw [if_neg (by omega), if_pos z] at h; exact kI h
  · rw [if_neg z, if_neg z2] at h; exact kI h
theorem s_D_predicates {s : PSt} {f : Int × Int} {c : Nat → Int} {n : Nat} {w : Wo} {K : Int → Wo → Prop} (hC : CI s f c n w) (h : K (s.1.length : Int) w) : MetI m_D_predicates [vr 1] w K := by
  obtain ⟨b, b', h1, h2, h3, h4, h5, h6⟩ := hC.2.1
  refine met_of (by decide) rfl (Nat.le_of_ble_eq_true rfl) (t_D_predicates_0 ?_)
  rw [h4, h6.1]
  exact kI h
theorem s_D_hangs {s : PSt} {f : Int × Int} {c : Nat → Int} {n : Nat} {p q : Int} {w : Wo} {K : Int → Wo → Prop} (hC : CI s f c n w) (hW : PW s) (h : K (hgA s p q) w) : MetI m_D_hangs [vr 1, vi p, vi q] w K := by
  obtain ⟨b, b', h1, h2, h3, h4, h5, h6⟩ := hC.2.1
  obtain ⟨a, ha, W, hf⟩ := hW
  have hl := W.1.1
  refine met_of (by decide) rfl (Nat.le_of_ble_eq_true rfl) (t_D_hangs_0 ?_)
  rw [h4, h6.1]
  have no : (¬ (0 ≤ p ∧ p < (s.1.length : Int) ∧ 0 ≤ q ∧ q < (s.1.length : Int) ∧ hgs s.2.1 s.1.length p.toNat q.toNat = true)) → K 0 w := fun z => by
    unfold hgA at h; rw [if_neg z] at h; exact h
  refine ⟨fun z => kI (no (by omega)), fun z => ⟨fun z2 => kI (no (by omega)), fun z2 => ⟨fun z3 => kI (no (by omega)), fun z3 => ⟨fun z4 => kI (no (by omega)), fun z4 => ?_⟩⟩⟩⟩
  have e := (h6.2.2.1 p.toNat (by omega)).2.2.2
  have hb := wrm_bit (H := hgR s.2.1) s.1.length p.toNat q.toNat
  rw [show p = ((p.toNat : Nat) : Int) by omega, show q = ((q.toNat : Nat) : Int) by omega]
  refine s_Bk_reaches h1 (by omega) (by omega) e (wrm_lt (hgR_lt W.ro) _ _) (fun z => ⟨fun q => absurd q (by decide), fun _ => kI ?_⟩) (fun z => ⟨fun _ => kI ?_, fun q => absurd rfl q⟩)
  · rw [z] at hb
    unfold hgA at h
    rw [if_pos ⟨by omega, by omega, by omega, by omega, hb.symm⟩] at h
    exact h
  · rw [z] at hb
    refine no (fun q1 => ?_)
    have q2 : hgs s.2.1 s.1.length p.toNat q.toNat = true := q1.2.2.2.2
    unfold hgs E0 at q2
    rw [← hb] at q2
    cases q2
theorem getD_pl {P : PL} {i : Nat} (h : i < P.length) : P[i]? = some (P.getD i (0, 0)) := by
  rw [List.getD_eq_getElem?_getD, List.getElem?_eq_getElem h]; rfl
theorem s_D_predicate {s : PSt} {f : Int × Int} {c : Nat → Int} {n : Nat} {p x : Int} {w : Wo} {K : Int → Wo → Prop} (hC : CI s f c n w) (hW : PW s) (hx : inr32 x) (h : K (prA s p x) w) : MetI m_D_predicate [vr 1, vi p, vi x] w K := by
  obtain ⟨b, b', h1, h2, h3, h4, h5, h6⟩ := hC.2.1
  obtain ⟨a, ha, W, hf⟩ := hW
  have hl := W.1.1
  refine met_of (by decide) rfl (Nat.le_of_ble_eq_true rfl) (t_D_predicate_0 ?_)
  rw [h4, h6.1]
  unfold prA at h
  refine ⟨fun z => ?_, fun z => ⟨fun z2 => ?_, fun z2 => ?_⟩⟩
  · rw [if_pos (by omega)] at h; exact kI h
  · rw [if_neg (by omega)] at h
    obtain ⟨e1, e2, e3, e4⟩ := h6.2.2.1 p.toNat (by omega)
    have hg := getD_pl (P := s.1) (i := p.toNat) (by omega)
    obtain ⟨g1, g2⟩ := h6.2.1 p.toNat _ hg
    have hr := W.1.2 _ (List.mem_of_getElem? hg)
    have gN : gJ w (b + 13) p.toNat = (((s.1.getD p.toNat (0, 0)).1.toNat : Nat) : Int) := by rw [g1]; omega
    rw [g2, e1, e2, e3, gN]
    refine ⟨fun z3 => ⟨⟨by omega, by omega⟩, ?_⟩, fun z3 => ⟨⟨by omega, by omega⟩, ?_⟩, fun z3 => ⟨⟨by omega, by omega⟩, ?_⟩, fun z3 => ⟨⟨by omega, by omega⟩, ?_⟩, fun z3 => ⟨⟨by omega, by omega⟩, ?_⟩, fun z3 z4 z5 z6 z7 => ⟨fun z8 => ⟨⟨by omega, by omega⟩, ⟨by omega, by omega⟩, ?_⟩, fun z8 => ?_⟩⟩
    · rw [if_pos z3] at h; exact kI h
    · rw [if_neg (by omega), if_pos z3] at h; exact kI h
    · rw [if_neg (by omega), if_neg (by omega), if_pos z3] at h; exact kI h
    · rw [if_neg (by omega), if_neg (by omega), if_neg (by omega), if_pos z3] at h; exact kI h
    · rw [if_neg (by omega), if_neg (by omega), if_neg (by omega), if_neg (by omega), if_pos z3] at h
      exact s_D_letters (by omega) (kI h)
    · rw [if_neg z3, if_neg z4, if_neg z5, if_neg z6, if_neg z7, if_pos z8] at h
      have := hx.2
      exact s_D_letter (by omega) ⟨by omega, by omega⟩ (kI h)
    · rw [if_neg z3, if_neg z4, if_neg z5, if_neg z6, if_neg z7, if_neg z8] at h
      exact kI h
  · rw [if_pos (by omega)] at h; exact kI h
def oT0 : OkF := fun o k => o = 78 ∧ k = 0
theorem RI.fx {s : PSt} {f : Int × Int} {c : Nat → Int} {n : Nat} {w w' : Wo} {A B : OkF} (h : RI s f c n w) (hf : FX A B w w') (hA : ∀ o k, A o k → (o = 78 ∧ k = 0) ∨ 112 ≤ o) (hB : ∀ o k, ¬ B o k) : RI s f c n w' := by
  obtain ⟨⟨g1, g2, g3, g4⟩, ⟨f1, f2⟩, sd, s1, s2, s3, s4⟩ := h
  have e : ∀ o k, ¬ ((o = 78 ∧ k = 0) ∨ 112 ≤ o) → gI w' o k = gI w o k := fun o k z => hf.1 o k (fun q => z (hA o k q))
  refine ⟨⟨g1, by rw [e 78 2 (by omega)]; exact g2, fun i hi => by rw [e 79 i (by omega)]; exact g3 i hi, g4⟩, ⟨by rw [e 78 3 (by omega)]; exact f1, by rw [e 78 4 (by omega)]; exact f2⟩, sd, s1, by rw [e 78 11 (by omega)]; exact s2, s3.fx hf (fun o k z => ?_) (fun o k z => absurd z (hB o k)), fun a b ha hb => by rw [e 111 _ (by omega)]; exact s4 a b ha hb⟩
  intro q
  have := hA o k z
  unfold bkI rsI at q
  omega
theorem RI.t0 {s : PSt} {f : Int × Int} {c : Nat → Int} {n : Nat} {w w' : Wo} (h : RI s f c n w) {v : Int} (e : w' = uI w 78 0 v) : RI s f c n w' := h.fx (A := oT0) (B := o0) (by rw [e]; exact FX.rf.uI ⟨rfl, rfl⟩) (fun o k z => Or.inl z) (fun o k z => z)
theorem s_M_fault {s : PSt} {f : Int × Int} {c : Nat → Int} {n : Nat} {x : Int} {w : Wo} {K : Int → Wo → Prop} (hR : RI s f c n w) (h : ∀ w', RI s f c n w' → FX oT0 o0 w w' → K (fuA f x) w') : MetI m_M_fault [vr 78, vi x] w K := by
  refine met_of (by decide) rfl (Nat.le_of_ble_eq_true rfl) (t_M_fault_0 (fun w1 e1 => ?_))
  have R1 := hR.t0 e1
  have h := h w1 R1 (by rw [e1]; exact FX.rf.uI ⟨rfl, rfl⟩)
  rw [R1.2.1.1, R1.2.1.2]
  unfold fuA at h
  refine ⟨fun z => ⟨fun z2 => ?_, fun z2 => ?_⟩, fun z => ?_⟩
  · rw [if_neg z, if_neg z2] at h; exact kI h
  · rw [if_neg z, if_pos z2] at h; exact kI h
  · rw [if_pos z] at h; exact kI h
theorem s_M_predicates {s : PSt} {f : Int × Int} {c : Nat → Int} {n : Nat} {w : Wo} {K : Int → Wo → Prop} (hR : RI s f c n w) (h : ∀ w', RI s f c n w' → FX oT0 o0 w w' → K (s.1.length : Int) w') : MetI m_M_predicates [vr 78] w K := by
  refine met_of (by decide) rfl (Nat.le_of_ble_eq_true rfl) (t_M_predicates_0 (fun w1 e1 => ?_))
  have R1 := hR.t0 e1
  have h := h w1 R1 (by rw [e1]; exact FX.rf.uI ⟨rfl, rfl⟩)
  obtain ⟨-, -, sd, s1, s2, s3, s4⟩ := R1
  rw [s2, show ((sd : Int)).toNat = sd from rfl, s3.1.1]
  exact ⟨⟨by omega, by omega⟩, kI h⟩
theorem s_M_hangs {s : PSt} {f : Int × Int} {c : Nat → Int} {n : Nat} {p q : Int} {w : Wo} {K : Int → Wo → Prop} (hR : RI s f c n w) (h : ∀ w', RI s f c n w' → FX oT0 o0 w w' → K (hgA s p q) w') : MetI m_M_hangs [vr 78, vi p, vi q] w K := by
  refine met_of (by decide) rfl (Nat.le_of_ble_eq_true rfl) (t_M_hangs_0 (fun w1 e1 => ?_))
  have R1 := hR.t0 e1
  have h := h w1 R1 (by rw [e1]; exact FX.rf.uI ⟨rfl, rfl⟩)
  obtain ⟨-, -, sd, s1, s2, s3, s4⟩ := R1
  have hl := s3.1.2.1
  have no : (¬ (0 ≤ p ∧ p < (s.1.length : Int) ∧ 0 ≤ q ∧ q < (s.1.length : Int) ∧ hgs s.2.1 s.1.length p.toNat q.toNat = true)) → K 0 w1 := fun z => by
    unfold hgA at h; rw [if_neg z] at h; exact h
  rw [s2, show ((sd : Int)).toNat = sd from rfl, s3.1.1]
  refine ⟨fun z => kI (no (by omega)), fun z => ⟨⟨by omega, by omega⟩, fun z2 => kI (no (by omega)), fun z2 => ⟨fun z3 => kI (no (by omega)), fun z3 => ⟨⟨by omega, by omega⟩, fun z4 => kI (no (by omega)), fun z4 => ?_⟩⟩⟩⟩
  have e := s4 p.toNat q.toNat (by omega) (by omega)
  rw [show (16 * p + q).toNat = 16 * p.toNat + q.toNat by omega, e]
  refine ⟨⟨by omega, by omega⟩, ⟨by omega, by omega⟩, ⟨by omega, by omega⟩, fun z5 => kI (no (fun q2 => ?_)), fun z5 => kI ?_⟩
  · rw [q2.2.2.2.2] at z5; exact absurd z5 (by decide)
  · have hb : hgs s.2.1 s.1.length p.toNat q.toNat = true := by
      cases e2 : hgs s.2.1 s.1.length p.toNat q.toNat with
      | true => rfl
      | false => rw [e2] at z5; exact absurd rfl z5
    unfold hgA at h
    rw [if_pos ⟨by omega, by omega, by omega, by omega, hb⟩] at h
    exact h
theorem s_M_predicate {s : PSt} {f : Int × Int} {c : Nat → Int} {n : Nat} {p x : Int} {w : Wo} {K : Int → Wo → Prop} (hR : RI s f c n w) (h : ∀ w', RI s f c n w' → FX oT0 o0 w w' → K (prA s p x) w') (hx : inr32 x) : MetI m_M_predicate [vr 78, vi p, vi x] w K := by
  refine met_of (by decide) rfl (Nat.le_of_ble_eq_true rfl) (t_M_predicate_0 (fun w1 e1 => ?_))
  have R1 := hR.t0 e1
  have h := h w1 R1 (by rw [e1]; exact FX.rf.uI ⟨rfl, rfl⟩)
  obtain ⟨-, -, sd, s1, s2, s3, s4⟩ := R1
  obtain ⟨⟨p1, p2, p3, p4⟩, ⟨r1, r2, r3, r4⟩, ⟨f1, f2, f3⟩, st⟩ := s3
  rw [s2, show ((sd : Int)).toNat = sd from rfl, p1]
  unfold prA at h
  refine ⟨fun z => ?_, fun z => ⟨⟨by omega, by omega⟩, fun z2 => ?_, fun z2 => ?_⟩⟩
  · rw [if_pos (by omega)] at h; exact kI h
  · rw [if_neg (by omega)] at h
    have hg := getD_pl (P := s.1) (i := p.toNat) (by omega)
    obtain ⟨g1, g2⟩ := p4 p.toNat _ hg
    have hr := p3 _ (List.mem_of_getElem? hg)
    have hlt := ltN_le 6 (s.1.getD p.toNat (0, 0)).1.toNat
    have gN : gJ w1 85 (16 * sd + p.toNat) = c8 (((s.1.getD p.toNat (0, 0)).1.toNat : Nat) : Int) := by rw [g1]; congr 1; omega
    rw [show (16 * (sd : Int) + p).toNat = 16 * sd + p.toNat by omega, gN]
    refine ⟨⟨by omega, by omega⟩, ⟨by omega, by omega⟩, ⟨by omega, by omega⟩, s_M_letters (by omega) ?_⟩
    have lower : x < 100 ∨ 100 + ((ltN 6 (s.1.getD p.toNat (0, 0)).1.toNat : Nat) : Int) ≤ x → Wp m_M_predicate 85 [(0, vr 78), (1, vi p), (2, vi x), (3, vi 0), (6, vi ((ltN 6 (s.1.getD p.toNat (0, 0)).1.toNat : Nat) : Int))] [] (0, 0) w1 (fun r w' => ∃ y, r = some (vi y) ∧ K y w') := by
      intro hlo
      refine t_M_predicate_85 ?_
      rw [s2, show (16 * (sd : Int) + p).toNat = 16 * sd + p.toNat by omega, g2, st p.toNat (by omega)]
      refine ⟨fun z3 => ⟨⟨by omega, by omega⟩, ⟨by omega, by omega⟩, ⟨by omega, by omega⟩, ?_⟩, fun z3 => ⟨⟨by omega, by omega⟩, ⟨by omega, by omega⟩, ⟨by omega, by omega⟩, ?_⟩, fun z3 => ⟨⟨by omega, by omega⟩, ?_⟩, fun z3 => ⟨⟨by omega, by omega⟩, ?_⟩, fun z3 => ?_, fun z3 z4 z5 z6 z7 => ?_⟩
      · rw [if_pos z3] at h; exact kI h
      · rw [if_neg (by omega), if_pos z3] at h; exact kI h
      · rw [if_neg (by omega), if_neg (by omega), if_pos z3] at h
        have lp : ∀ (m i k : Nat), s.2.1.length - i ≤ m → i ≤ s.2.1.length → k ≤ i → rcR s.2.1 p.toNat = k + rcR (s.2.1.drop i) p.toNat → Wp m_M_predicate 159 [(0, vr 78), (1, vi p), (3, vi (k : Int)), (7, vi (30 * (sd : Int) + (i : Int)))] [] (0, 0) w1 (fun r w' => ∃ y, r = some (vi y) ∧ K y w') := by
          intro m
          induction m with
          | zero =>
            intro i k hm hi hki e
            have ei : i = s.2.1.length := by omega
            rw [ei, List.drop_length] at e
            have e : rcR s.2.1 p.toNat = k := e
            rw [e] at h
            refine t_M_predicate_159 ?_
            rw [s2, show ((sd : Int)).toNat = sd from rfl, r1]
            exact ⟨⟨by omega, by omega⟩, ⟨by omega, by omega⟩, ⟨by omega, by omega⟩, fun _ => kI h, fun z => by omega⟩
          | succ m ih =>
            intro i k hm hi hki e
            by_cases hin : i < s.2.1.length
            · obtain ⟨r, hr2⟩ : ∃ r, s.2.1[i]? = some r := ⟨_, List.getElem?_eq_getElem hin⟩
              have hd := drop_s hr2
              have q1 := (r4 i r hr2).1
              rw [hd] at e
              have e : rcR s.2.1 p.toNat = k + ((if r.1 = ((p.toNat : Nat) : Int) then 1 else 0) + rcR (s.2.1.drop (i + 1)) p.toNat) := e
              refine t_M_predicate_159 ?_
              rw [s2, show ((sd : Int)).toNat = sd from rfl, r1, show (30 * (sd : Int) + (i : Int)).toNat = 30 * sd + i by omega, q1]
              refine ⟨⟨by omega, by omega⟩, ⟨by omega, by omega⟩, ⟨by omega, by omega⟩, fun z => by omega, fun _ => ⟨⟨by omega, by omega⟩, fun z => ⟨⟨by omega, by omega⟩, ⟨by omega, by omega⟩, ?_⟩, fun z => ⟨⟨by omega, by omega⟩, ⟨by omega, by omega⟩, ?_⟩⟩⟩
              · rw [Int.add_zero, show 30 * (sd : Int) + (i : Int) + 1 = 30 * (sd : Int) + ((i + 1 : Nat) : Int) by omega]
                rw [if_neg (by omega)] at e
                exact ih (i + 1) k (by omega) (by omega) (by omega) (by omega)
              · rw [show (k : Int) + 1 = ((k + 1 : Nat) : Int) by omega, show 30 * (sd : Int) + (i : Int) + 1 = 30 * (sd : Int) + ((i + 1 : Nat) : Int) by omega]
                rw [if_pos (by omega)] at e
                exact ih (i + 1) (k + 1) (by omega) (by omega) (by omega) (by omega)
            · exact ih i k (by omega) hi hki e
        have := lp s.2.1.length 0 0 (by omega) (Nat.zero_le _) (Nat.le_refl _) (by rw [List.drop_zero, Nat.zero_add])
        rw [show 30 * (sd : Int) + ((0 : Nat) : Int) = 30 * (sd : Int) by omega] at this
        exact this
      · rw [if_neg (by omega), if_neg (by omega), if_neg (by omega), if_pos z3] at h
        have lp : ∀ (m i k : Nat), s.2.2.1.length - i ≤ m → i ≤ s.2.2.1.length → k ≤ i → fcR s.2.2.1 p.toNat = k + fcR (s.2.2.1.drop i) p.toNat → Wp m_M_predicate 218 [(0, vr 78), (1, vi p), (3, vi (k : Int)), (7, vi (200 * (sd : Int) + (i : Int)))] [] (0, 0) w1 (fun r w' => ∃ y, r = some (vi y) ∧ K y w') := by
          intro m
          induction m with
          | zero =>
            intro i k hm hi hki e
            have ei : i = s.2.2.1.length := by omega
            rw [ei, List.drop_length] at e
            have e : fcR s.2.2.1 p.toNat = k := e
            rw [e] at h
            refine t_M_predicate_218 ?_
            rw [s2, show ((sd : Int)).toNat = sd from rfl, f1]
            exact ⟨⟨by omega, by omega⟩, ⟨by omega, by omega⟩, ⟨by omega, by omega⟩, fun _ => kI h, fun z => by omega⟩
          | succ m ih =>
            intro i k hm hi hki e
            by_cases hin : i < s.2.2.1.length
            · obtain ⟨r, hr2⟩ : ∃ r, s.2.2.1[i]? = some r := ⟨_, List.getElem?_eq_getElem hin⟩
              have hd := drop_s hr2
              have q1 := f3 i r hr2
              rw [hd] at e
              have e : fcR s.2.2.1 p.toNat = k + ((if r.1 = ((p.toNat : Nat) : Int) then 1 else 0) + fcR (s.2.2.1.drop (i + 1)) p.toNat) := e
              refine t_M_predicate_218 ?_
              rw [s2, show ((sd : Int)).toNat = sd from rfl, f1, show (200 * (sd : Int) + (i : Int)).toNat = 200 * sd + i by omega, q1]
              refine ⟨⟨by omega, by omega⟩, ⟨by omega, by omega⟩, ⟨by omega, by omega⟩, fun z => by omega, fun _ => ⟨⟨by omega, by omega⟩, fun z => ⟨⟨by omega, by omega⟩, ⟨by omega, by omega⟩, ?_⟩, fun z => ⟨⟨by omega, by omega⟩, ⟨by omega, by omega⟩, ?_⟩⟩⟩
              · rw [Int.add_zero, show 200 * (sd : Int) + (i : Int) + 1 = 200 * (sd : Int) + ((i + 1 : Nat) : Int) by omega]
                rw [if_neg (by omega)] at e
                exact ih (i + 1) k (by omega) (by omega) (by omega) (by omega)
              · rw [show (k : Int) + 1 = ((k + 1 : Nat) : Int) by omega, show 200 * (sd : Int) + (i : Int) + 1 = 200 * (sd : Int) + ((i + 1 : Nat) : Int) by omega]
                rw [if_pos (by omega)] at e
                exact ih (i + 1) (k + 1) (by omega) (by omega) (by omega) (by omega)
            · exact ih i k (by omega) hi hki e
        have := lp s.2.2.1.length 0 0 (by omega) (Nat.zero_le _) (Nat.le_refl _) (by rw [List.drop_zero, Nat.zero_add])
        rw [show 200 * (sd : Int) + ((0 : Nat) : Int) = 200 * (sd : Int) by omega] at this
        exact this
      · rw [if_neg (by omega), if_neg (by omega), if_neg (by omega), if_neg (by omega), if_pos z3] at h; exact kI h
      · rw [if_neg z3, if_neg z4, if_neg z5, if_neg z6, if_neg z7] at h
        by_cases c1 : 100 ≤ x
        · rw [if_pos c1] at h
          unfold leA at h
          rw [if_neg (by omega)] at h
          exact kI h
        · rw [if_neg c1] at h; exact kI h
    refine ⟨fun z3 => lower (Or.inl z3), fun z3 => ⟨⟨by omega, by omega⟩, fun z4 => lower (Or.inr z4), fun z4 => ?_⟩⟩
    have hb : ((ltN 6 (s.1.getD p.toNat (0, 0)).1.toNat : Nat) : Int) - 1 - x + 100 = ((ltN 6 (s.1.getD p.toNat (0, 0)).1.toNat - 1 - (x - 100).toNat : Nat) : Int) := by omega
    rw [hb]
    refine ⟨⟨by omega, by omega⟩, ⟨by omega, by omega⟩, ⟨by omega, by omega⟩, ⟨by omega, by omega⟩, ?_⟩
    rw [b_mbyte (by omega)]
    rw [if_neg (by omega), if_neg (by omega), if_neg (by omega), if_neg (by omega), if_neg (by omega), if_pos (by omega)] at h
    unfold leA at h
    rw [if_pos (by omega)] at h
    have e8 : byN (c8 (((s.1.getD p.toNat (0, 0)).1.toNat : Nat) : Int)) (ltN 6 (s.1.getD p.toNat (0, 0)).1.toNat - 1 - (x - 100).toNat) = (s.1.getD p.toNat (0, 0)).1.toNat / 128 ^ (ltN 6 (s.1.getD p.toNat (0, 0)).1.toNat - 1 - (x - 100).toNat) % 128 := by
      unfold byN c8
      rw [lbN_n (Nat.lt_of_lt_of_le (cN_lt 6 _) (by decide)), Nat.pow_mul, show (2 : Nat) ^ 8 = 256 from rfl, show ((((s.1.getD p.toNat (0, 0)).1.toNat : Nat) : Int)).toNat = (s.1.getD p.toNat (0, 0)).1.toNat from rfl]
      exact cN_sh _ 6 _ (by omega)
    rw [e8]
    exact kI h
  · rw [if_pos (by omega)] at h; exact kI h

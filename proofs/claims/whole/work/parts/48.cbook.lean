/-! the class's book: hanging, knots -/
def E0 (R : List Rul) (a b : Nat) : Bool := (hgR R a).testBit b
def wsk (m : Nat) (H : Nat → Nat) (p : Nat) : Nat := if (H p).testBit m = true then H p ||| H m else H p
def wrm (H : Nat → Nat) : Nat → Nat → Nat
  | 0 => H
  | m + 1 => wsk m (wrm H m)
theorem wrm_bit {H : Nat → Nat} : ∀ (m p q : Nat), (wrm H m p).testBit q = war (fun a b => (H a).testBit b) m p q := by
  intro m
  induction m with
  | zero => intro p q; rfl
  | succ m ih =>
    intro p q
    show (wsk m (wrm H m) p).testBit q = wst m (war (fun a b => (H a).testBit b) m) p q
    unfold wsk wst
    rw [← ih p q, ← ih p m, ← ih m q]
    split
    · rename_i h
      rw [Nat.testBit_or, h, Bool.true_and]
    · rename_i h
      rw [Bool.not_eq_true] at h
      rw [h, Bool.false_and, Bool.or_false]
theorem wrm_lt {H : Nat → Nat} (h : ∀ p, H p < 65536) : ∀ m p, wrm H m p < 65536 := by
  intro m
  induction m with
  | zero => exact h
  | succ m ih =>
    intro p
    show wsk m (wrm H m) p < 65536
    unfold wsk
    split
    · exact Nat.or_lt_two_pow (n := 16) (ih p) (ih m)
    · exact ih p
theorem s_Bk_reaches {b p q H : Nat} {w : Wo} {K : Int → Wo → Prop} (hb : isBk b) (hp : p < 16) (hq : q < 32) (hH : gI w (b + 18) p = (H : Nat)) (hl : H < 65536) (h1 : H.testBit q = true → K 1 w) (h0 : H.testBit q = false → K 0 w) : MetI m_Bk_reaches [vr b, vi (p : Int), vi (q : Int)] w K := by
  refine met_of (by decide) rfl (Nat.le_of_ble_eq_true rfl) (t_Bk_reaches_0 hb ?_)
  rw [show ((p : Int)).toNat = p from rfl, hH]
  refine ⟨⟨by omega, by omega⟩, fun z => kI (h0 ((b_bit0 (by omega) hq).mp z)), fun z => kI (h1 ?_)⟩
  cases e : H.testBit q with
  | true => rfl
  | false => exact absurd ((b_bit0 (by omega) hq).mpr e) z
def HgC (b n : Nat) (H : Nat → Nat) (w : Wo) : Prop := ∀ p, p < n → gI w (b + 18) p = (H p : Nat)
theorem s_Bk_spreadHanging {b n : Nat} {H : Nat → Nat} {w : Wo} {K : Wo → Prop} (hb : isBk b) (hn : gI w b 1 = (n : Nat)) (hn16 : n ≤ 16) (hl : ∀ p, H p < 65536) (hH : HgC b n H w) (h : ∀ w', HgC b n (wrm H n) w' → Frm [b + 18] [] w w' → K w') : MetV m_Bk_spreadHanging [vr b] w K := by
  have bc := bk_c hb
  have inner : ∀ (m : Nat), m < n → (∀ w', HgC b n (wrm H (m + 1)) w' → Frm [b + 18] [] w w' → Wp m_Bk_spreadHanging 2 [(0, vr b), (1, vi ((m : Int) + 1))] [] (0, 0) w' (fun r w' => r = none ∧ K w')) → ∀ (k j : Nat) (w1 : Wo), n - j ≤ k → j ≤ n → (∀ p, p < n → gI w1 (b + 18) p = ((if p < j then wsk m (wrm H m) p else wrm H m p : Nat) : Int)) → Frm [b + 18] [] w w1 → Wp m_Bk_spreadHanging 12 [(0, vr b), (1, vi (m : Int)), (2, vi (j : Int))] [] (0, 0) w1 (fun r w' => r = none ∧ K w') := by
    intro m hm hK k
    induction k with
    | zero =>
      intro j w1 hk hj hJ F
      have e : j = n := by omega
      have n1 : gI w1 b 1 = (n : Nat) := by rw [F.1 b (by simp)]; exact hn
      refine t_Bk_spreadHanging_12 hb ⟨fun _ => ⟨⟨by omega, by omega⟩, hK w1 (fun p hp => ?_) F⟩, fun z => by omega⟩
      rw [hJ p hp, if_pos (by omega)]; rfl
    | succ k ih =>
      intro j w1 hk hj hJ F
      by_cases hjn : j < n
      · have n1 : gI w1 b 1 = (n : Nat) := by rw [F.1 b (by simp)]; exact hn
        refine t_Bk_spreadHanging_12 hb ⟨fun z => by omega, fun _ => ?_⟩
        have hjj := hJ j hjn
        rw [if_neg (by omega)] at hjj
        have hmm : gI w1 (b + 18) m = ((wrm H m m : Nat) : Int) := by
          rw [hJ m hm]
          split
          · unfold wsk
            split
            · rw [Nat.or_self]
            · rfl
          · rfl
        have hlj := wrm_lt hl m j
        have hlm := wrm_lt hl m m
        refine s_Bk_reaches hb (by omega) (by omega) hjj hlj (fun hb1 => ⟨fun q => absurd q (by decide), fun _ => ?_⟩) (fun hb0 => ⟨fun _ => ?_, fun q => absurd rfl q⟩)
        · rw [show ((j : Int)).toNat = j from rfl, show ((m : Int)).toNat = m from rfl, hjj, hmm, b_ior_n (by omega) (by omega)]
          refine ⟨⟨by omega, by omega⟩, ⟨by omega, by omega⟩, ⟨by omega, by omega⟩, fun w6 e6 => ⟨⟨by omega, by omega⟩, ih (j + 1) w6 (by omega) (by omega) (fun p hp => ?_) (by rw [e6]; exact F.uI (by simp))⟩⟩
          rw [e6, gI_uI]
          by_cases ep : p = j
          · subst ep
            rw [if_pos ⟨rfl, rfl⟩, if_pos (by omega)]
            unfold wsk
            rw [if_pos hb1]
          · rw [if_neg (fun q => ep q.2), hJ p hp]
            by_cases c : p < j
            · rw [if_pos c, if_pos (by omega)]
            · rw [if_neg c, if_neg (by omega)]
        · refine ⟨⟨by omega, by omega⟩, ih (j + 1) w1 (by omega) (by omega) (fun p hp => ?_) F⟩
          rw [hJ p hp]
          by_cases ep : p = j
          · subst ep
            rw [if_neg (by omega), if_pos (by omega)]
            unfold wsk
            rw [if_neg (by rw [hb0]; decide)]
          · by_cases c : p < j
            · rw [if_pos c, if_pos (by omega)]
            · rw [if_neg c, if_neg (by omega)]
      · exact ih j w1 (by omega) hj hJ F
  have outer : ∀ (k m : Nat) (w1 : Wo), n - m ≤ k → m ≤ n → HgC b n (wrm H m) w1 → Frm [b + 18] [] w w1 → Wp m_Bk_spreadHanging 2 [(0, vr b), (1, vi (m : Int))] [] (0, 0) w1 (fun r w' => r = none ∧ K w') := by
    intro k
    induction k with
    | zero =>
      intro m w1 hk hm hJ F
      have e : m = n := by omega
      subst e
      have n1 : gI w1 b 1 = (m : Nat) := by rw [F.1 b (by simp)]; exact hn
      exact t_Bk_spreadHanging_2 hb ⟨fun _ => ⟨rfl, h w1 hJ F⟩, fun z => by omega⟩
    | succ k ih =>
      intro m w1 hk hm hJ F
      by_cases hmn : m < n
      · have n1 : gI w1 b 1 = (n : Nat) := by rw [F.1 b (by simp)]; exact hn
        refine t_Bk_spreadHanging_2 hb ⟨fun z => by omega, fun _ => ?_⟩
        refine inner m hmn (fun w' hw' F' => ih (m + 1) w' (by omega) (by omega) hw' F') n 0 w1 (by omega) (Nat.zero_le _) (fun p hp => ?_) F
        rw [if_neg (by omega)]; exact hJ p hp
      · exact ih m w1 (by omega) hm hJ F
  exact met_of (by decide) rfl (Nat.le_of_ble_eq_true rfl) (t_Bk_spreadHanging_0 hb (outer n 0 w (by omega) (Nat.zero_le _) hH Frm.rf))
/-- what a literal asks leads back to the head -/
def lbk (W : Nat → Nat → Bool) (h a : Int) : Bool := decide (a = h) || W a.toNat h.toNat
def wts (r : Rul) (L : Lit) : Prop := 0 < r.2.2.1 ∨ L.1 = 1
def isA (L : Lit) : Prop := L.1 = 0 ∨ L.1 = 1
theorem s_Rl_waits {b i j : Nat} {R : List Rul} {r : Rul} {L : Lit} {w : Wo} {K : Int → Wo → Prop} (hb : isBk b) (hR : RlC b R w) (hi : R[i]? = some r) (hj : r.2.2.2.2[j]? = some L) (h30 : i < 30) (h6 : j < 6) (h1 : wts r L → K 1 w) (h0 : ¬ wts r L → K 0 w) : MetI m_Rl_waits [vr (b + 1), vi (i : Int), vi ((i : Int) * 6 + (j : Int))] w K := by
  have bc := bk_c hb
  obtain ⟨r1, r2, r3, r4, r5, r6, r7⟩ := hR.2 i r hi
  have k1 := (r6 j L hj).1
  have hrl : isRl (b + 1) := by rcases bc with h | h <;> subst h <;> simp [isRl]
  refine met_of (by decide) rfl (Nat.le_of_ble_eq_true rfl) (t_Rl_waits_0 hrl ?_)
  rw [show ((i : Int)).toNat = i from rfl, show ((i : Int) * 6 + (j : Int)).toNat = 6 * i + j by omega]
  have e4 : gI w (b + 1 + 4) i = r.2.2.1 := r4
  have e6 : gI w (b + 1 + 6) (6 * i + j) = L.1 := k1
  rw [e4, e6]
  refine ⟨⟨by omega, by omega⟩, fun z => kI (h1 (Or.inl z)), fun z => ⟨⟨by omega, by omega⟩, fun z2 => kI (h0 (fun q => ?_)), fun z2 => kI (h1 (Or.inr z2))⟩⟩
  rcases q with q | q
  · exact z q
  · exact z2 q
theorem s_Bk_leadsBack {b n i j np : Nat} {R : List Rul} {r : Rul} {L : Lit} {H : Nat → Nat} {w : Wo} {K : Int → Wo → Prop} (hb : isBk b) (hn : gI w b 1 = (n : Nat)) (hn16 : n ≤ 16) (hR : RlC b R w) (hi : R[i]? = some r) (hj : r.2.2.2.2[j]? = some L) (h30 : i < 30) (h6 : j < 6) (hL : litN np n L) (hh : 0 ≤ r.1 ∧ r.1 < n) (hl : ∀ p, H p < 65536) (hH : HgC b n H w) (h1 : isA L → lbk (fun a b => (H a).testBit b) r.1 L.2.2.1 = true → K 1 w) (h0 : ¬ (isA L ∧ lbk (fun a b => (H a).testBit b) r.1 L.2.2.1 = true) → K 0 w) : MetI m_Bk_leadsBack [vr b, vi (i : Int), vi ((i : Int) * 6 + (j : Int))] w K := by
  have bc := bk_c hb
  obtain ⟨r1, r2, r3, r4, r5, r6, r7⟩ := hR.2 i r hi
  have k1 := (r6 j L hj).2.1
  refine met_of (by decide) rfl (Nat.le_of_ble_eq_true rfl) (t_Bk_leadsBack_0 hb ?_)
  rw [show ((i : Int)).toNat = i from rfl, show ((i : Int) * 6 + (j : Int)).toNat = 6 * i + j by omega]
  have e7 : gI w (b + 1 + 7) (6 * i + j) = L.2.2.1 := k1
  have e1 : gI w (b + 1 + 1) i = r.1 := r1
  rw [e7, e1, hn]
  refine ⟨⟨by omega, by omega⟩, ⟨by omega, by omega⟩, fun z => kI (h0 (fun q => ?_)), fun z => ⟨fun z2 => ?_, fun z2 => ?_⟩⟩
  · have := hL.1.a q.1
    omega
  · have := hL.2.2
    omega
  · have hA : isA L := by
      by_cases c : L.1 = 0 ∨ L.1 = 1
      · exact c
      · have := hL.1.b c
        omega
    refine ⟨fun z3 => kI (h1 hA ?_), fun z3 => ?_⟩
    · unfold lbk
      rw [decide_eq_true z3, Bool.true_or]
    · have ea : L.2.2.1 = ((L.2.2.1.toNat : Nat) : Int) := by omega
      have eh : r.1 = ((r.1.toNat : Nat) : Int) := by omega
      have hx := hH L.2.2.1.toNat (by omega)
      rw [ea, eh]
      refine s_Bk_reaches (p := L.2.2.1.toNat) (q := r.1.toNat) hb (by omega) (by omega) hx (hl _) (fun hb1 => ⟨fun q => absurd q (by decide), fun _ => kI (h1 hA ?_)⟩) (fun hb0 => ⟨fun _ => kI (h0 (fun q => ?_)), fun q => absurd rfl q⟩)
      · show (decide (L.2.2.1 = r.1) || (H L.2.2.1.toNat).testBit r.1.toNat) = true
        rw [hb1, Bool.or_true]
      · have q : (decide (L.2.2.1 = r.1) || (H L.2.2.1.toNat).testBit r.1.toNat) = true := q.2
        rw [hb0, decide_eq_false z3] at q
        cases q
def knL (W : Nat → Nat → Bool) (r : Rul) : List Lit → Option Int
  | [] => none
  | L :: ls => if (0 < r.2.2.1 ∨ L.1 = 1) ∧ (L.1 = 0 ∨ L.1 = 1) ∧ lbk W r.1 L.2.2.1 = true then some (if r.2.2.1 ≤ 0 then L.2.1 else r.2.2.2.1) else knL W r ls
def kn (W : Nat → Nat → Bool) : List Rul → Option Int
  | [] => none
  | r :: R => match knL W r r.2.2.2.2 with
    | some q => some q
    | none => kn W R
theorem kn_s {W : Nat → Nat → Bool} {r : Rul} {R : List Rul} {q : Int} (h : knL W r r.2.2.2.2 = some q) : kn W (r :: R) = some q := by rw [kn, h]
theorem kn_n {W : Nat → Nat → Bool} {r : Rul} {R : List Rul} (h : knL W r r.2.2.2.2 = none) : kn W (r :: R) = kn W R := by rw [kn, h]
theorem drop_s {α : Type} {ls : List α} {k : Nat} {L : α} (h : ls[k]? = some L) : ls.drop k = L :: ls.drop (k + 1) := by
  obtain ⟨h1, h2⟩ := List.getElem?_eq_some_iff.mp h
  rw [List.drop_eq_getElem_cons h1, h2]
theorem s_Bk_knotPlace {b n : Nat} {R : List Rul} {H : Nat → Nat} {w : Wo} {K : Int → Wo → Prop} (hb : isBk b) (hn : gI w b 1 = (n : Nat)) (hn16 : n ≤ 16) (hR : RlC b R w) (hR30 : R.length ≤ 30) (hok : ∀ r ∈ R, RuOK n r) (hl : ∀ p, H p < 65536) (hH : HgC b n H w) (h1 : ∀ q, kn (fun a b => (H a).testBit b) R = some q → K q w) (h0 : kn (fun a b => (H a).testBit b) R = none → K (-1) w) : MetI m_Bk_knotPlace [vr b] w K := by
  have bc := bk_c hb
  have inner : ∀ (i : Nat) (r : Rul), R[i]? = some r → (∀ q, knL (fun a b => (H a).testBit b) r r.2.2.2.2 = some q → K q w) → (knL (fun a b => (H a).testBit b) r r.2.2.2.2 = none → Wp m_Bk_knotPlace 2 [(0, vr b), (1, vi ((i : Int) + 1))] [] (0, 0) w (fun r w' => ∃ y, r = some (vi y) ∧ K y w')) → ∀ (k j : Nat), r.2.2.2.2.length - j ≤ k → j ≤ r.2.2.2.2.length → knL (fun a b => (H a).testBit b) r (r.2.2.2.2.drop j) = knL (fun a b => (H a).testBit b) r r.2.2.2.2 → Wp m_Bk_knotPlace 15 [(0, vr b), (1, vi (i : Int)), (2, vi (j : Int))] [] (0, 0) w (fun r w' => ∃ y, r = some (vi y) ∧ K y w') := by
    intro i r hi q1 q0 k
    have hi30 := (List.getElem?_eq_some_iff.mp hi).1
    obtain ⟨u1, u2, u3, u4, u5, u6, u7, u8, u9, u10, u11, -⟩ := hok r (List.mem_of_getElem? hi)
    obtain ⟨r1, r2, r3, r4, r5, r6, r7⟩ := hR.2 i r hi
    have e2 : gI w (b + 1 + 2) i = (r.2.2.2.2.length : Nat) := r2
    induction k with
    | zero =>
      intro j hk hj hJ
      have e : j = r.2.2.2.2.length := by omega
      refine t_Bk_knotPlace_15 hb ?_
      rw [show ((i : Int)).toNat = i from rfl, e2]
      refine ⟨⟨by omega, by omega⟩, fun _ => ⟨⟨by omega, by omega⟩, q0 ?_⟩, fun z => by omega⟩
      rw [← hJ, e, List.drop_length]; rfl
    | succ k ih =>
      intro j hk hj hJ
      by_cases hjn : j < r.2.2.2.2.length
      · obtain ⟨L, hL⟩ : ∃ L, r.2.2.2.2[j]? = some L := ⟨_, List.getElem?_eq_getElem hjn⟩
        have hN := u11 L (List.mem_of_getElem? hL)
        have hd := drop_s hL
        have go : ¬ ((0 < r.2.2.1 ∨ L.1 = 1) ∧ (L.1 = 0 ∨ L.1 = 1) ∧ lbk (fun a b => (H a).testBit b) r.1 L.2.2.1 = true) → inr32 ((j : Int) + 1) ∧ Wp m_Bk_knotPlace 15 [(0, vr b), (1, vi (i : Int)), (2, vi ((j : Int) + 1))] [] (0, 0) w (fun r w' => ∃ y, r = some (vi y) ∧ K y w') := by
          intro hc
          refine ⟨⟨by omega, by omega⟩, ih (j + 1) (by omega) (by omega) ?_⟩
          rw [← hJ, hd, knL, if_neg hc]
        refine t_Bk_knotPlace_15 hb ?_
        rw [show ((i : Int)).toNat = i from rfl, e2]
        refine ⟨⟨by omega, by omega⟩, fun z => by omega, fun _ => ⟨⟨by omega, by omega⟩, ⟨by omega, by omega⟩, ?_⟩⟩
        refine s_Rl_waits hb hR hi hL (by omega) (by omega) (fun hw => ⟨fun q => absurd q (by decide), fun _ => ?_⟩) (fun hw => ⟨fun _ => go (fun q => hw q.1), fun q => absurd rfl q⟩)
        refine s_Bk_leadsBack hb hn hn16 hR hi hL (by omega) (by omega) hN ⟨u1, u2⟩ hl hH (fun hA hB => ⟨fun q => absurd q (by decide), fun _ => ?_⟩) (fun hw2 => ⟨fun _ => go (fun q => hw2 q.2), fun q => absurd rfl q⟩)
        have e4 : gI w (b + 1 + 4) i = r.2.2.1 := r4
        have e5 : gI w (b + 1 + 5) i = r.2.2.2.1 := r5
        have e8 : gI w (b + 1 + 8) (6 * i + j) = L.2.1 := (r6 j L hL).2.2
        rw [show ((i : Int) * 6 + (j : Int)).toNat = 6 * i + j by omega, e4, e5, e8]
        have hk1 : knL (fun a b => (H a).testBit b) r r.2.2.2.2 = some (if r.2.2.1 ≤ 0 then L.2.1 else r.2.2.2.1) := by
          rw [← hJ, hd, knL, if_pos ⟨hw, hA, hB⟩]
        refine ⟨⟨by omega, by omega⟩, fun z => ⟨⟨by omega, by omega⟩, kI (q1 _ ?_)⟩, fun z => ⟨⟨by omega, by omega⟩, kI (q1 _ ?_)⟩⟩
        · rw [hk1, if_pos z]
        · rw [hk1, if_neg z]
      · exact ih j (by omega) hj hJ
  have outer : ∀ (k i : Nat), R.length - i ≤ k → i ≤ R.length → kn (fun a b => (H a).testBit b) (R.drop i) = kn (fun a b => (H a).testBit b) R → Wp m_Bk_knotPlace 2 [(0, vr b), (1, vi (i : Int))] [] (0, 0) w (fun r w' => ∃ y, r = some (vi y) ∧ K y w') := by
    intro k
    have n1 : gI w (b + 1) 0 = (R.length : Nat) := hR.1
    induction k with
    | zero =>
      intro i hk hi hJ
      have e : i = R.length := by omega
      refine t_Bk_knotPlace_2 hb ⟨fun _ => kI (h0 ?_), fun z => by omega⟩
      rw [← hJ, e, List.drop_length]; rfl
    | succ k ih =>
      intro i hk hi hJ
      by_cases hin : i < R.length
      · obtain ⟨r, hr⟩ : ∃ r, R[i]? = some r := ⟨_, List.getElem?_eq_getElem hin⟩
        have hd := drop_s hr
        refine t_Bk_knotPlace_2 hb ⟨fun z => by omega, fun _ => ?_⟩
        refine inner i r hr (fun q e => h1 q ?_) (fun e => ih (i + 1) (by omega) (by omega) ?_) r.2.2.2.2.length 0 (by omega) (Nat.zero_le _) rfl
        · rw [← hJ, hd]; exact kn_s e
        · rw [← hJ, hd]; exact (kn_n e).symm
      · exact ih i (by omega) hi hJ
  exact met_of (by decide) rfl (Nat.le_of_ble_eq_true rfl) (t_Bk_knotPlace_0 hb (outer R.length 0 (by omega) (Nat.zero_le _) rfl))

/-! the class reads a tape -/
def Tc (c : Nat → Int) (n : Nat) : Tks := fun i => (((toks c n 0).map (tk7 c n)) ++ [(0, (n : Int), 0)]).getD i (0, 0, 0)
theorem Tc_tk {c : Nat → Int} {n i p : Nat} (h : (toks c n 0)[i]? = some p) : Tc c n i = tk7 c n p := by
  unfold Tc
  rw [List.getD_eq_getElem?_getD, List.getElem?_append_left (by rw [List.length_map]; exact (List.getElem?_eq_some_iff.mp h).1), List.getElem?_map, h]
  rfl
theorem Tc_end {c : Nat → Int} {n : Nat} : Tc c n (toks c n 0).length = (0, (n : Int), 0) := by
  unfold Tc
  rw [List.getD_eq_getElem?_getD, List.getElem?_append_right (by rw [List.length_map]; exact Nat.le_refl _), List.length_map, Nat.sub_self]
  rfl
def sgOK (x : Int) : Prop := 0 ≤ x ∧ x ≤ 17 ∧ x ≠ 2 ∧ x ≠ 3 ∧ x ≠ 4 ∧ x ≠ 17
theorem ite_P {P : Int → Prop} {q : Prop} [Decidable q] {x y : Int} (hx : P x) (hy : P y) : P (if q then x else y) := by
  split
  · exact hx
  · exact hy
theorem signK_rng {a : Int} : sgOK (signK a) := by
  unfold signK
  repeat' apply ite_P
  all_goals (unfold sgOK; decide)
theorem pairK_rng {a b : Int} : sgOK (pairK a b) := by
  unfold pairK
  repeat' apply ite_P
  all_goals (unfold sgOK; decide)
theorem ch_lt {c : Nat → Int} {n : Nat} (hc : ∀ i, i < n → 32 ≤ c i ∧ c i ≤ 126) {p k : Nat} (h : p + k ≤ n) : ∀ i, p ≤ i → i < p + k → (c i).toNat < 128 := fun i h1 h2 => by
  have := hc i (by omega)
  omega
theorem tk7_ok {c : Nat → Int} {n p : Nat} (hc : ∀ i, i < n → 32 ≤ c i ∧ c i ≤ 126) (hp : p < n) : tokOK (tk7 c n p) := by
  have e5 := endE_le (f := fS 5) (c := c) (n := n) (n - p) p (Nat.le_refl _) (by omega)
  have e7 := endE_le (f := fS 7) (c := c) (n := n) (n - p) p (Nat.le_refl _) (by omega)
  have e4 := endE_le (f := fS 4) (c := c) (n := n) (n - p) p (Nat.le_refl _) (by omega)
  have hs := signK_rng (a := c p)
  have hpk := pairK_rng (a := c p) (b := chf c n ((p : Int) + 1))
  unfold sgOK at hs hpk
  unfold tokOK tk7
  show 0 ≤ kd c n p ∧ kd c n p ≤ 17 ∧ (kd c n p = 2 → 0 ≤ v7 c n p ∧ v7 c n p < 4398046511104) ∧ (kd c n p = 3 → 0 ≤ v7 c n p ∧ v7 c n p < 268435456) ∧ (kd c n p = 4 → 0 ≤ v7 c n p ∧ v7 c n p < 1000000000) ∧ (kd c n p = 17 → 1 ≤ v7 c n p ∧ v7 c n p ≤ 4)
  unfold kd v7
  by_cases c1 : sortOf (c p) = 1
  · simp only [if_pos c1]
    by_cases c2 : endE (fS 5) c n p - p ≤ 6
    · simp only [if_pos c2]
      have tr := tot_rng (c := c) (p := p) (e := endE (fS 5) c n p)
      by_cases c3 : totOf c p (endE (fS 5) c n p) ≤ 0
      · simp only [if_pos c3]
        by_cases c4 : spP c p (endE (fS 5) c n p) 4
        · simp only [if_pos c4]; omega
        · simp only [if_neg c4]
          have l := pkT_lt (B := 128) (c := c) (endE (fS 5) c n p - p) p (ch_lt hc (by omega))
          have l2 := p128 c2
          omega
      · simp only [if_neg c3]; omega
    · simp only [if_neg c2]; omega
  · simp only [if_neg c1]
    by_cases c2 : sortOf (c p) = 2
    · simp only [if_pos c2]
      by_cases c3 : endE (fS 7) c n p - p ≤ 4
      · simp only [if_pos c3]
        have l := pkT_lt (B := 128) (c := c) (endE (fS 7) c n p - p) p (ch_lt hc (by omega))
        have l2 : 128 ^ (endE (fS 7) c n p - p) ≤ 268435456 := Nat.pow_le_pow_right (n := 128) (by decide) c3
        omega
      · simp only [if_neg c3]; omega
    · simp only [if_neg c2]
      by_cases c3 : sortOf (c p) = 4
      · simp only [if_pos c3]
        by_cases c4 : endE (fS 4) c n p - p ≤ 9
        · simp only [if_pos c4]
          have l := nmA_lt (c := c) (endE (fS 4) c n p - p) p (fun i h1 h2 => fS4 (endE_all (f := fS 4) (c := c) (n := n) (n - p) p (Nat.le_refl _) i h1 (by omega)))
          have l2 := p10 c4
          omega
        · simp only [if_neg c4]; omega
      · simp only [if_neg c3]
        by_cases c4 : pairK (c p) (chf c n ((p : Int) + 1)) = 1
        · simp only [if_pos c4]; omega
        · simp only [if_neg c4]; omega
theorem pw_at {L : List Nat} (h : L.Pairwise (· < ·)) {i : Nat} {x y : Nat} (hx : L[i]? = some x) (hy : L[i + 1]? = some y) : x < y := by
  obtain ⟨h1, h2⟩ := List.getElem?_eq_some_iff.mp hx
  obtain ⟨h3, h4⟩ := List.getElem?_eq_some_iff.mp hy
  have := List.pairwise_iff_getElem.mp h i (i + 1) h1 h3 (by omega)
  rw [h2, h4] at this
  exact this
theorem toks_len {c : Nat → Int} {n : Nat} : (toks c n 0).length ≤ n := by
  obtain ⟨h1, h2⟩ := toks_ord (c := c) (n := n) n 0 (by omega)
  have : ∀ (i x : Nat), (toks c n 0)[i]? = some x → i ≤ x := by
    intro i
    induction i with
    | zero => intro x _; omega
    | succ i ih =>
      intro x hx
      have hi := (List.getElem?_eq_some_iff.mp hx).1
      obtain ⟨y, hy⟩ : ∃ y, (toks c n 0)[i]? = some y := ⟨_, List.getElem?_eq_getElem (by omega)⟩
      have := ih y hy
      have := pw_at h1 hy hx
      omega
  by_cases e : (toks c n 0).length = 0
  · omega
  · obtain ⟨y, hy⟩ : ∃ y, (toks c n 0)[(toks c n 0).length - 1]? = some y := ⟨_, List.getElem?_eq_getElem (by omega)⟩
    have h3 := this _ y hy
    have h4 := (h2 y (List.mem_of_getElem? hy)).2
    omega
theorem Tc_ok {c : Nat → Int} {n nb : Nat} (hc : ∀ i, i < n → 32 ≤ c i ∧ c i ≤ 126) (hn : n ≤ 600) (hb : nb ≤ (toks c n 0).length) (he : ∀ p, (toks c n 0)[nb]? = some p → kd c n p = 1) : TOk (Tc c n) nb := by
  obtain ⟨o1, o2⟩ := toks_ord (c := c) (n := n) n 0 (by omega)
  have hl := toks_len (c := c) (n := n)
  have at1 : ∀ i, i < (toks c n 0).length → ∃ p, (toks c n 0)[i]? = some p ∧ Tc c n i = tk7 c n p ∧ p < n := by
    intro i hi
    obtain ⟨y, hy⟩ : ∃ y, (toks c n 0)[i]? = some y := ⟨_, List.getElem?_eq_getElem hi⟩
    exact ⟨y, hy, Tc_tk hy, (o2 y (List.mem_of_getElem? hy)).2⟩
  have pl : ∀ i, i ≤ (toks c n 0).length → 0 ≤ tP (Tc c n) i ∧ tP (Tc c n) i ≤ n := by
    intro i hi
    by_cases e : i = (toks c n 0).length
    · rw [e]
      unfold tP
      rw [Tc_end]
      exact ⟨by show 0 ≤ (n : Int); omega, Int.le_refl _⟩
    · obtain ⟨p, p1, p2, p3⟩ := at1 i (by omega)
      unfold tP
      rw [p2]
      show 0 ≤ (p : Int) ∧ (p : Int) ≤ n
      omega
  refine ⟨by omega, ?_, fun i hi => ?_, fun i hi => ?_, (pl 0 (by omega)).1, by have := (pl nb hb).2; omega⟩
  · by_cases e : nb = (toks c n 0).length
    · refine Or.inl ?_
      rw [e]
      unfold tK
      rw [Tc_end]
    · obtain ⟨p, p1, p2, p3⟩ := at1 nb (by omega)
      refine Or.inr ?_
      unfold tK
      rw [p2]
      exact he p p1
  · by_cases e : i = (toks c n 0).length
    · rw [e, Tc_end]
      exact ⟨Int.le_refl _, (show (0 : Int) ≤ 17 by decide), fun q => absurd q (show ¬ (0 : Int) = 2 by decide), fun q => absurd q (show ¬ (0 : Int) = 3 by decide), fun q => absurd q (show ¬ (0 : Int) = 4 by decide), fun q => absurd q (show ¬ (0 : Int) = 17 by decide)⟩
    · obtain ⟨p, p1, p2, p3⟩ := at1 i (by omega)
      rw [p2]
      exact tk7_ok hc p3
  · obtain ⟨p, p1, p2, p3⟩ := at1 i (by omega)
    unfold tP
    rw [p2]
    by_cases e : i + 1 = (toks c n 0).length
    · rw [e, Tc_end]
      show (p : Int) < n
      omega
    · obtain ⟨q, q1, q2, q3⟩ := at1 (i + 1) (by omega)
      rw [q2]
      have := pw_at o1 p1 q1
      show (p : Int) < q
      omega
def s0 : PSt := ([], [], [], (0, 0))
theorem s0_wf : WfS s0 0 := ⟨⟨by decide, fun x hx => by cases hx⟩, ⟨by decide, by decide, by decide, by decide, by decide, fun _ => rfl⟩, by decide, fun r hr => (by cases hr), fun _ x hx => (by cases hx), by decide, fun _ r hr => by cases hr⟩
/-- what a tape says: a fault, or a program -/
def rdP (T : Tks) : (Int × Int) ⊕ PSt := match pProg T 602 s0 0 with
  | .inl q => .inl (1, q)
  | .inr s => if s.2.2.2.1 = 0 then (match kn (hgs s.2.1 s.1.length) s.2.1 with
    | some q => .inl (4, q)
    | none => .inr s) else .inl s.2.2.2
theorem rdP_i {T : Tks} {q : Int} (h : pProg T 602 s0 0 = .inl q) : rdP T = .inl (1, q) := by rw [rdP, h]
theorem rdP_f {T : Tks} {s : PSt} (h : pProg T 602 s0 0 = .inr s) (hf : s.2.2.2.1 ≠ 0) : rdP T = .inl s.2.2.2 := by
  rw [rdP, h]
  exact if_neg hf
theorem rdP_k {T : Tks} {s : PSt} {q : Int} (h : pProg T 602 s0 0 = .inr s) (hf : s.2.2.2.1 = 0) (hk : kn (hgs s.2.1 s.1.length) s.2.1 = some q) : rdP T = .inl (4, q) := by
  rw [rdP, h]
  show (if s.2.2.2.1 = 0 then _ else _) = _
  rw [if_pos hf, hk]
theorem rdP_s {T : Tks} {s : PSt} (h : pProg T 602 s0 0 = .inr s) (hf : s.2.2.2.1 = 0) (hk : kn (hgs s.2.1 s.1.length) s.2.1 = none) : rdP T = .inr s := by
  rw [rdP, h]
  show (if s.2.2.2.1 = 0 then _ else _) = _
  rw [if_pos hf, hk]
def FrP (A B : List Nat) (w w' : Wo) : Prop := (∀ o, o ∉ A → ∀ k, gI w' o k = gI w o k) ∧ (∀ o, o ∉ B → ∀ k, gJ w' o k = gJ w o k) ∧ ∀ o k, ¬ (o = 4 ∧ k = 3) → gP w' o k = gP w o k
theorem FrP.of {A B : List Nat} {w w' : Wo} (h : Frm A B w w') : FrP A B w w' := ⟨h.1, h.2.1, fun o k _ => h.2.2 o k⟩
theorem FrP.tr {A B : List Nat} {w w' w'' : Wo} (h1 : FrP A B w w') (h2 : FrP A B w' w'') : FrP A B w w'' := ⟨fun o ho k => (h2.1 o ho k).trans (h1.1 o ho k), fun o ho k => (h2.2.1 o ho k).trans (h1.2.1 o ho k), fun o k ho => (h2.2.2 o k ho).trans (h1.2.2 o k ho)⟩
abbrev FH (b : Nat) (w w' : Wo) : Prop := FrP [4, 5, 6, 7, 9, 10, 12, 15, 16, 17, 18, 19, 21, 22, 24, 25, 27, 28, 30, 31, 33, 34, 36, 37, 38, b, b + 1, b + 2, b + 3, b + 4, b + 5, b + 6, b + 7, b + 8, b + 9, b + 10, b + 11, b + 12, b + 14, b + 15, b + 16, b + 17, b + 18] [4, 8, 11, 14, 20, 23, 26, 29, 32, 35, 39, b + 13] w w'
theorem FH.g {b : Nat} {w w' : Wo} (h : FG b w w') : FH b w w' := FrP.of (h.sub (by simp) (by simp))
theorem s_Bk_clear {b : Nat} {w : Wo} {K : Wo → Prop} (hb : isBk b) (h : ∀ w', gI w' b 1 = 0 → gI w' (b + 1) 0 = 0 → Frm [b, b + 1] [] w w' → K w') : MetV m_Bk_clear [vr b] w K := by
  refine met_of (by decide) rfl (Nat.le_of_ble_eq_true rfl) (t_Bk_clear_0 hb (fun w1 e1 w3 e3 => ⟨rfl, h w3 ?_ ?_ ?_⟩))
  · rw [e3, gI_uI, if_neg (by omega), e1, gI_uI, if_pos ⟨rfl, rfl⟩]
  · rw [e3, gI_uI, if_pos ⟨rfl, rfl⟩]
  · rw [e3, e1]; exact (Frm.rf.uI (by simp)).uI (by simp)
theorem s_Rd_read {c : Nat → Int} {n b : Nat} {w : Wo} {K : Int → Wo → Prop} (ht : TpR c n w) (hb : isBk b)
    (h0 : ∀ f w', rdP (Tc c n) = .inl f → gI w' 4 4 = f.1 → gI w' 4 5 = f.2 → FH b w w' → K 0 w')
    (h1 : ∀ s a w', rdP (Tc c n) = .inr s → a ≤ 600 → WfS s a → s.2.2.2.1 = 0 → kn (hgs s.2.1 s.1.length) s.2.1 = none → BookC b s w' → gI w' 4 4 = 0 → gI w' 4 5 = 0 → FH b w w' → K 1 w') : MetI m_Rd_read [vr 4, vr 2, vr b] w K := by
  have bc := bk_c hb
  have hT : TOk (Tc c n) (toks c n 0).length := Tc_ok ht.2.2.2 ht.1 (Nat.le_refl _) (fun p hp => by have := (List.getElem?_eq_some_iff.mp hp).1; omega)
  have hl := toks_len (c := c) (n := n)
  refine met_of (by decide) rfl (Nat.le_of_ble_eq_true rfl) (t_Rd_read_0 hb (s_Tk_cut ht (fun w1 k1 F1 w2 e2 => ?_)))
  have bt2 : gP w2 4 3 = b := by rw [e2, gP_uP, if_pos ⟨rfl, rfl⟩]
  have F2 : FH b w w2 := by
    refine FrP.tr (FrP.of (F1.sub (by simp) (by simp))) ⟨fun o _ k => ?_, fun o _ k => ?_, fun o k ho => ?_⟩
    · rw [e2, gI_uP]
    · rw [e2, gJ_uP]
    · rw [e2, gP_uP, if_neg ho]
  rw [bt2]
  refine ⟨hb, s_Bk_clear hb (fun w5 n5 m5 F5 w6 e6 w8 e8 w10 e10 => ?_)⟩
  have F10 : Frm [37, 4] [] w5 w10 := by
    rw [e10, e8, e6]
    exact ((Frm.rf.uI (by simp)).uI (by simp)).uI (by simp)
  have FH10 : FH b w w10 := (F2.tr (FrP.of (F5.sub (by simp) (by simp)))).tr (FrP.of (F10.sub (by simp) (by simp)))
  obtain ⟨k2, k3, k4⟩ := k1
  have klen : (((toks c n 0).map (tk7 c n)) ++ [(0, (n : Int), 0)]).length = (toks c n 0).length + 1 := by rw [List.length_append, List.length_map]; rfl
  have g5 : ∀ o, o ≠ b → o ≠ b + 1 → o ≠ 37 → o ≠ 4 → ∀ k, gI w10 o k = gI w1 o k := fun o h1 h2 h3 h4 k => by
    rw [F10.1 o (by simp; omega), F5.1 o (by simp; omega), e2, gI_uP]
  have g8 : ∀ k, gJ w10 8 k = gJ w1 8 k := fun k => by
    rw [F10.2.1 8 (by simp), F5.2.1 8 (by simp), e2, gJ_uP]
  have T10 : TkC (Tc c n) (toks c n 0).length w10 := by
    refine ⟨?_, ?_, fun i hi => ?_⟩
    · rw [g5 5 (by omega) (by omega) (by omega) (by omega), k2, klen]; omega
    · rw [g5 5 (by omega) (by omega) (by omega) (by omega), k2]; omega
    · obtain ⟨t, ht2⟩ : ∃ t, (((toks c n 0).map (tk7 c n)) ++ [(0, (n : Int), 0)])[i]? = some t := ⟨_, List.getElem?_eq_getElem (by omega)⟩
      have et : Tc c n i = t := by unfold Tc; rw [List.getD_eq_getElem?_getD, ht2]; rfl
      obtain ⟨q1, q2, q3⟩ := k4 i t ht2
      rw [g5 6 (by omega) (by omega) (by omega) (by omega), g5 7 (by omega) (by omega) (by omega) (by omega), g8]
      unfold tK tP tV
      rw [et]
      exact ⟨q1, q2, q3⟩
  have f4 : gI w10 4 4 = 0 := by rw [e10, gI_uI, if_neg (by omega), e8, gI_uI, if_pos ⟨rfl, rfl⟩]
  have f5 : gI w10 4 5 = 0 := by rw [e10, gI_uI, if_pos ⟨rfl, rfl⟩]
  have c37 : gI w10 37 2 = 0 := by rw [e10, gI_uI, if_neg (by omega), e8, gI_uI, if_neg (by omega), e6, gI_uI, if_pos ⟨rfl, rfl⟩]
  obtain ⟨b1, b2, b3⟩ := T10.2.2 0 (Nat.zero_le _)
  have hc0 : (0 : Int) < gI w10 5 3 := by have := T10.1; omega
  refine met_of (by decide) rfl (Nat.le_of_ble_eq_true rfl) (t_Rd_moveTo_0 ⟨fun z => by omega, fun _ => ⟨fun z => by omega, fun _ w21 e21 => ⟨⟨by omega, by omega⟩, fun w24 e24 => ⟨⟨by omega, by omega⟩, fun w27 e27 => ⟨⟨by omega, by omega⟩, fun w30 e30 => ⟨rfl, ?_⟩⟩⟩⟩⟩⟩)
  have F30 : Frm [4] [4] w10 w30 := by
    rw [e30, e27, e24, e21]
    exact (((Frm.rf.uI (by decide)).uI (by decide)).uI (by decide)).uJ (by decide)
  have n4 : ∀ k, k ≠ 6 → k ≠ 7 → k ≠ 8 → gI w30 4 k = gI w10 4 k := by
    intro k h6 h7 h8
    rw [e30, gI_uJ, e27, gI_uI, if_neg (by omega), e24, gI_uI, if_neg (by omega), e21, gI_uI, if_neg (by omega)]
  have x6 : gI w21 6 (0 : Int).toNat = tK (Tc c n) 0 := by rw [e21, gI_uI, if_neg (by omega)]; exact b1
  have x7 : gI w24 7 (0 : Int).toNat = tP (Tc c n) 0 := by rw [e24, gI_uI, if_neg (by omega), e21, gI_uI, if_neg (by omega)]; exact b2
  have x8 : gJ w27 8 (0 : Int).toNat = tV (Tc c n) 0 := by rw [e27, gJ_uI, e24, gJ_uI, e21, gJ_uI]; exact b3
  have C30 : CS0 (Tc c n) (toks c n 0).length 0 (0, 0) w30 := by
    obtain ⟨t1, t2, t3⟩ := T10
    refine ⟨⟨?_, ?_, fun i hi => ?_⟩, Nat.zero_le _, ⟨?_, ?_, ?_, ?_⟩, ?_, ?_⟩
    · rw [F30.1 5 (by decide)]; exact t1
    · rw [F30.1 5 (by decide)]; exact t2
    · rw [F30.1 6 (by decide), F30.1 7 (by decide), F30.2.1 8 (by decide)]; exact t3 i hi
    · rw [e30, gI_uJ, e27, gI_uI, if_neg (by omega), e24, gI_uI, if_neg (by omega), e21, gI_uI, if_pos ⟨rfl, rfl⟩]; rfl
    · rw [e30, gI_uJ, e27, gI_uI, if_neg (by omega), e24, gI_uI, if_pos ⟨rfl, rfl⟩, x6]
    · rw [e30, gI_uJ, e27, gI_uI, if_pos ⟨rfl, rfl⟩, x7]
    · rw [e30, gJ_uJ, if_pos ⟨rfl, rfl⟩, x8]
    · rw [n4 4 (by decide) (by decide) (by decide)]; exact f4
    · rw [n4 5 (by decide) (by decide) (by decide)]; exact f5
  have FH30 : FH b w w30 := FH10.tr (FrP.of (F30.sub (by simp) (by simp)))
  have P30 : PC (Tc c n) (toks c n 0).length b s0 0 w30 := by
    refine ⟨C30, ?_, ⟨?_, fun i r hr => by cases hr⟩, ⟨fun _ => 0, ⟨?_, by decide, fun i x hx => (by cases hx), fun i hi => absurd hi (by show ¬ i < 0; omega)⟩, fun _ _ => rfl, fun _ => ⟨Int.le_refl _, Int.le_refl _⟩, fun _ _ => rfl⟩, ⟨0, ?_, Nat.le_refl _, fun _ => ⟨rfl, fun i x hx => by cases hx⟩⟩⟩
    · rw [F30.2.2, F10.2.2, F5.2.2]; exact bt2
    · rw [F30.1 _ (by simp <;> omega), F10.1 _ (by simp <;> omega)]; exact m5
    · rw [F30.1 _ (by simp <;> omega), F10.1 _ (by simp <;> omega)]; exact n5
    · rw [F30.1 _ (by simp)]; exact c37
  refine l_read hT hb 602 s0 0 w30 0 (by omega) (Nat.le_refl _) s0_wf P30 (fun q w' e p F => h0 _ w' (rdP_i e) p.1 p.2 (FH30.tr (FH.g F))) (fun s' a' w' e W P F => ⟨fun hf => h0 _ w' (rdP_f e hf) P.1.2.2.2.1 P.1.2.2.2.2 (FH30.tr (FH.g F)), fun hf => s_Rd_finish hb W P hf (fun q ek w1 k4 k5 F1 => ⟨fun _ => h0 _ w1 (rdP_k e hf ek) k4 k5 ((FH30.tr (FH.g F)).tr (FH.g F1)), fun z => by omega⟩) (fun ek w1 B k4 k5 F1 => ⟨fun z => absurd k4 z, fun _ => h1 s' a' w1 (rdP_s e hf ek) (by have h9 := P.1.2.1; have h8 := ht.1; omega) W hf ek B k4 k5 ((FH30.tr (FH.g F)).tr (FH.g F1))⟩)⟩)

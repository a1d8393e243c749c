/-! the reference cuts one token -/
theorem chf_n {c : Nat → Int} {n p : Nat} (h : n ≤ p) : chf c n (p : Int) = 0 := if_neg (by omega)
theorem MtR_ch {c : Nat → Int} {n : Nat} {w : Wo} (h : MtR c n w) {p : Nat} (hp : p < n) : 32 ≤ c p ∧ c p ≤ 126 := h.2.2.2 p hp
theorem lor8 {y : Nat} {x : Int} (hy : y < 36028797018963967) (hx : 0 ≤ x ∧ x < 256) : b_lor (b_lshl (y : Int) 8) x = ((y * 256 + x.toNat : Nat) : Int) := by
  obtain ⟨m, hm⟩ := Int.eq_ofNat_of_zero_le hx.1
  subst hm
  have h2 : m < 256 := by omega
  have h6 : y * 256 + m < 9223372036854775808 := by omega
  have h7 : y * 256 < 9223372036854775808 := Nat.lt_of_le_of_lt (Nat.le_add_right _ m) h6
  have e3 : (y * 2 ^ 8 : Nat) = y * 256 := rfl
  have h5 : y * 2 ^ 8 < 2 ^ 63 := h7
  rw [show (8 : Int) = ((8 : Nat) : Int) from rfl, b_lshl_n (by decide) h5, e3, b_lor_n (k := 8) rfl h2 h6]
  rfl
def dgF (x : Int) : Bool := decide (48 ≤ x ∧ x ≤ 57)
theorem fS4_0 : fS 4 0 = false ∧ fS 5 0 = false ∧ fS 7 0 = false := by decide
/-- the digits' loop -/
theorem l_one_29 {c : Nat → Int} {n p : Nat} {w : Wo} {Q : Option AV → Wo → Prop} (ht : MtR c n w) (hp : p < n) (hc : 0 ≤ gI w 78 5 ∧ gI w 78 5 < 602) (e : Nat) (he : e - p ≤ 9 → ∀ w', w' = mkAdd w 3 0 (p : Int) (nmA c (e - p) p 0 : Nat) → Q (some (vi (e : Int))) w') (hb : ¬ e - p ≤ 9 → ∀ v w', w' = mkAdd w 6 0 (p : Int) v → Q (some (vi (e : Int))) w') : ∀ (k q y : Nat), n - q ≤ k → p < q → q ≤ n → endE (fS 4) c n q = e → y = nmA c (min (q - p) 9) p 0 → y < 1000000000 → (∀ i, p ≤ i → i < q → 48 ≤ c i ∧ c i ≤ 57) → Wp m_M_oneToken 29 [(0, vr 78), (1, vi (p : Int)), (3, vi (q : Int)), (4, vl (y : Int))] [] (0, 0) w Q := by
  intro k
  induction k with
  | zero =>
    intro q y hk hpq hq hE hy hl hd
    have h600 := ht.1
    refine t_M_oneToken_29 (s_M_see ht (s_M_isDigit ?_))
    rw [chf_n (by omega), endE_n (by omega)] at *
    subst hE
    refine ⟨fun _ => ⟨⟨by omega, by omega⟩, fun h1 => s_M_token hc ?_, fun h1 => s_M_token hc ?_⟩, fun h => absurd (show b01 (decide (48 ≤ (0 : Int) ∧ (0 : Int) ≤ 57)) = 0 from rfl) h⟩
    · exact he (by omega) _ (by rw [hy, show min (q - p) 9 = q - p by omega])
    · exact hb (by omega) _ _ rfl
  | succ k ih =>
    intro q y hk hpq hq hE hy hl hd
    have h600 := ht.1
    by_cases hqn : q < n
    · refine t_M_oneToken_29 (s_M_see ht (s_M_isDigit ?_))
      rw [chf_at hqn]
      have hch := MtR_ch ht hqn
      rw [b01_0, decide_eq_false_iff_not]
      refine ⟨fun h0 => ⟨⟨by omega, by omega⟩, fun h1 => s_M_token hc ?_, fun h1 => s_M_token hc ?_⟩, fun h0 => ⟨⟨by omega, by omega⟩, fun h1 => ⟨⟨by omega, by omega⟩, ?_⟩, fun h1 => ⟨⟨by omega, by omega⟩, s_M_see ht ?_⟩⟩⟩
      · rw [endE_stop (by rw [(fS_v _).1]; simp only [h0, decide_false])] at hE
        subst hE
        exact he (by omega) _ (by rw [hy, show min (q - p) 9 = q - p by omega])
      · rw [endE_stop (by rw [(fS_v _).1]; simp only [h0, decide_false])] at hE
        subst hE
        exact hb (by omega) _ _ rfl
      · have h0 := Decidable.of_not_not h0
        rw [endE_go hqn (by rw [(fS_v _).1]; simp only [h0, and_self, decide_true])] at hE
        refine ih (q + 1) y (by omega) (by omega) (by omega) hE ?_ hl (fun i h2 h3 => ?_)
        · rw [hy, show min (q - p) 9 = 9 by omega, show min (q + 1 - p) 9 = 9 by omega]
        · by_cases h4 : i = q
          · rw [h4]; exact h0
          · exact hd i h2 (by omega)
      · have h0 := Decidable.of_not_not h0
        rw [endE_go hqn (by rw [(fS_v _).1]; simp only [h0, and_self, decide_true])] at hE
        rw [chf_at hqn]
        have hd2 : ∀ i, p ≤ i → i < q + 1 → 48 ≤ c i ∧ c i ≤ 57 := by
          intro i h2 h3
          by_cases h4 : i = q
          · rw [h4]; exact h0
          · exact hd i h2 (by omega)
        have hlt := nmA_lt (c := c) (q + 1 - p) p (fun i h2 h3 => hd2 i h2 (by omega))
        have h10 := p10 (j := q + 1 - p) (by omega)
        have e1 : 10 * (y : Int) + c q - 48 = ((nmA c (q + 1 - p) p 0 : Nat) : Int) := by
          rw [show q + 1 - p = (q - p) + 1 by omega, nmA_app, show p + (q - p) = q by omega, hy, show min (q - p) 9 = q - p by omega]
          omega
        refine ⟨⟨by omega, by omega⟩, ⟨by omega, by omega⟩, ⟨by omega, by omega⟩, ?_⟩
        rw [e1]
        exact ih (q + 1) _ (by omega) (by omega) (by omega) hE (by rw [show min (q + 1 - p) 9 = q + 1 - p by omega]) (by omega) hd2
    · exact ih q y (by omega) hpq hq hE hy hl hd
/-- the small letters' loop -/
theorem l_one_110 {c : Nat → Int} {n p : Nat} {w : Wo} {Q : Option AV → Wo → Prop} (ht : MtR c n w) (hp : p < n) (e : Nat) (he : ∀ v : Int, (e - p ≤ 7 → v = (pkT 256 c (e - p) p 0 : Nat)) → Wp m_M_oneToken 181 [(0, vr 78), (1, vi (p : Int)), (3, vi (e : Int)), (4, vl v)] [vi (if e - p ≤ 5 then wOf v else 0)] (0, 0) w Q) : ∀ (k q y : Nat), n - q ≤ k → p < q → q ≤ n → endE (fS 5) c n q = e → y = pkT 256 c (min (q - p) 7) p 0 → Wp m_M_oneToken 110 [(0, vr 78), (1, vi (p : Int)), (3, vi (q : Int)), (4, vl (y : Int))] [] (0, 0) w Q := by
  intro k
  induction k with
  | zero =>
    intro q y hk hpq hq hE hy
    have h600 := ht.1
    rw [endE_n (by omega)] at hE
    subst hE
    refine t_M_oneToken_110 (s_M_see ht (s_M_isSmall ?_))
    rw [chf_n (by omega)]
    refine ⟨fun h => absurd rfl h, fun _ => s_M_see ht (s_M_isDigit ?_)⟩
    rw [chf_n (by omega)]
    have hv : q - p ≤ 7 → (y : Int) = (pkT 256 c (q - p) p 0 : Nat) := fun h => by rw [hy, show min (q - p) 7 = q - p by omega]
    have hw := he (y : Int) hv
    refine ⟨fun _ => ⟨⟨by omega, by omega⟩, fun h1 => s_M_wordOf ?_, fun h1 => ?_⟩, fun h => absurd rfl h⟩
    · rw [if_pos (by omega)] at hw; exact hw
    · rw [if_neg (by omega)] at hw; exact hw
  | succ k ih =>
    intro q y hk hpq hq hE hy
    have h600 := ht.1
    by_cases hqn : q < n
    · have hch := MtR_ch ht hqn
      have f5 := (fS_v (c q)).2.1
      have go : fS 5 (c q) = true → Wp m_M_oneToken 132 [(0, vr 78), (1, vi (p : Int)), (3, vi (q : Int)), (4, vl (y : Int))] [] (0, 0) w Q := by
        intro hf
        rw [endE_go hqn hf] at hE
        refine t_M_oneToken_132 ⟨⟨by omega, by omega⟩, fun h1 => ⟨⟨by omega, by omega⟩, ?_⟩, fun h1 => s_M_see ht ⟨⟨by omega, by omega⟩, ?_⟩⟩
        · exact ih (q + 1) y (by omega) (by omega) (by omega) hE (by rw [hy, show min (q - p) 7 = 7 by omega, show min (q + 1 - p) 7 = 7 by omega])
        · rw [chf_at hqn]
          have h2 := pkT_lt (B := 256) (c := c) (q - p) p (fun i h3 h4 => by have := MtR_ch ht (p := i) (by omega); omega)
          have h3 : 256 ^ (q - p) ≤ 256 ^ 6 := Nat.pow_le_pow_right (by decide) (by omega)
          rw [show min (q - p) 7 = q - p by omega] at hy
          rw [lor8 (by omega) (by omega)]
          refine ih (q + 1) _ (by omega) (by omega) (by omega) hE ?_
          rw [show min (q + 1 - p) 7 = (q - p) + 1 by omega, pkT_app, show p + (q - p) = q by omega, hy]
      refine t_M_oneToken_110 (s_M_see ht (s_M_isSmall ?_))
      rw [chf_at hqn, b01_0, decide_eq_false_iff_not]
      refine ⟨fun h1 => go ?_, fun h1 => s_M_see ht (s_M_isDigit ?_)⟩
      · rw [f5]; simp only [Decidable.of_not_not h1, and_self, true_or, decide_true]
      · rw [chf_at hqn, b01_0, decide_eq_false_iff_not]
        refine ⟨fun h2 => ?_, fun h2 => go ?_⟩
        · rw [endE_stop (by rw [f5]; simp only [h1, h2, or_self, decide_false])] at hE
          subst hE
          have hw := he (y : Int) (fun h => by rw [hy, show min (q - p) 7 = q - p by omega])
          refine ⟨⟨by omega, by omega⟩, fun h3 => s_M_wordOf ?_, fun h3 => ?_⟩
          · rw [if_pos (by omega)] at hw; exact hw
          · rw [if_neg (by omega)] at hw; exact hw
        · rw [f5]; simp only [Decidable.of_not_not h2, and_self, or_true, decide_true]
    · exact ih q y (by omega) hpq hq hE hy
/-- a variable's loop -/
theorem l_one_225 {c : Nat → Int} {n p : Nat} {w : Wo} {Q : Option AV → Wo → Prop} (ht : MtR c n w) (hp : p < n) (hc : 0 ≤ gI w 78 5 ∧ gI w 78 5 < 602) (e : Nat) (he : e - p ≤ 4 → ∀ w', w' = mkAdd w 2 0 (p : Int) (pkT 256 c (e - p) p 0 : Nat) → Q (some (vi (e : Int))) w') (hb : ¬ e - p ≤ 4 → ∀ v w', w' = mkAdd w 6 0 (p : Int) v → Q (some (vi (e : Int))) w') : ∀ (k q y : Nat), n - q ≤ k → p < q → q ≤ n → endE (fS 7) c n q = e → y = pkT 256 c (min (q - p) 5) p 0 → Wp m_M_oneToken 225 [(0, vr 78), (1, vi (p : Int)), (3, vi (q : Int)), (4, vl (y : Int))] [] (0, 0) w Q := by
  intro k
  induction k with
  | zero =>
    intro q y hk hpq hq hE hy
    have h600 := ht.1
    rw [endE_n (by omega)] at hE
    subst hE
    refine t_M_oneToken_225 (s_M_see ht (s_M_isPart ?_))
    rw [chf_n (by omega), fS4_0.2.2]
    refine ⟨fun _ => ⟨⟨by omega, by omega⟩, fun h1 => s_M_token hc ?_, fun h1 => s_M_token hc ?_⟩, fun h => absurd rfl h⟩
    · exact he (by omega) _ (by rw [hy, show min (q - p) 5 = q - p by omega])
    · exact hb (by omega) _ _ rfl
  | succ k ih =>
    intro q y hk hpq hq hE hy
    have h600 := ht.1
    by_cases hqn : q < n
    · have hch := MtR_ch ht hqn
      refine t_M_oneToken_225 (s_M_see ht (s_M_isPart ?_))
      rw [chf_at hqn, b01_0]
      refine ⟨fun h0 => ⟨⟨by omega, by omega⟩, fun h1 => s_M_token hc ?_, fun h1 => s_M_token hc ?_⟩, fun h0 => ⟨⟨by omega, by omega⟩, fun h1 => ⟨⟨by omega, by omega⟩, ?_⟩, fun h1 => s_M_see ht ⟨⟨by omega, by omega⟩, ?_⟩⟩⟩
      · rw [endE_stop h0] at hE
        subst hE
        exact he (by omega) _ (by rw [hy, show min (q - p) 5 = q - p by omega])
      · rw [endE_stop h0] at hE
        subst hE
        exact hb (by omega) _ _ rfl
      · rw [endE_go hqn (by simpa using h0)] at hE
        exact ih (q + 1) y (by omega) (by omega) (by omega) hE (by rw [hy, show min (q - p) 5 = 5 by omega, show min (q + 1 - p) 5 = 5 by omega])
      · rw [endE_go hqn (by simpa using h0)] at hE
        rw [chf_at hqn]
        have h2 := pkT_lt (B := 256) (c := c) (q - p) p (fun i h3 h4 => by have := MtR_ch ht (p := i) (by omega); omega)
        have h3 : 256 ^ (q - p) ≤ 256 ^ 4 := Nat.pow_le_pow_right (by decide) (by omega)
        rw [show min (q - p) 5 = q - p by omega] at hy
        rw [lor8 (by omega) (by omega)]
        refine ih (q + 1) _ (by omega) (by omega) (by omega) hE ?_
        rw [show min (q + 1 - p) 5 = (q - p) + 1 by omega, pkT_app, show p + (q - p) = q by omega, hy]
    · exact ih q y (by omega) hpq hq hE hy

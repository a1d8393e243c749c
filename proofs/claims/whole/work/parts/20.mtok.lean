/-! the reference's tokens -/
/-- the reference's tape holds the n characters c -/
def MtR (c : Nat → Int) (n : Nat) (w : Wo) : Prop := n ≤ 600 ∧ gI w 78 2 = n ∧ (∀ i, i < n → gI w 79 i = c i) ∧ ∀ i, i < n → 32 ≤ c i ∧ c i ≤ 126
theorem lcmp0 {x y : Int} : b_lcmp x y = 0 ↔ x = y := by
  unfold b_lcmp
  constructor
  · intro h
    split at h
    · omega
    · split at h
      · assumption
      · omega
  · intro h
    rw [if_neg (by omega), if_pos h]
theorem s_M_see {c : Nat → Int} {n p : Nat} {w : Wo} {K : Int → Wo → Prop} (ht : MtR c n w) (h : K (chf c n (p : Int)) w) : MetI m_M_see [vr 78, vi (p : Int)] w K := by
  obtain ⟨h600, hn, hc, -⟩ := ht
  refine met_of (by decide) rfl (Nat.le_of_ble_eq_true rfl) (t_M_see_0 ?_)
  rw [hn]
  refine ⟨fun h1 => kI ?_, fun h1 => ⟨⟨by omega, by omega⟩, kI ?_⟩⟩
  · have e : chf c n (p : Int) = 0 := if_neg (by omega)
    rw [← e]; exact h
  · have e : chf c n (p : Int) = c p := chf_at (by omega)
    have e2 : ((p : Int)).toNat = p := rfl
    rw [e2, hc p (by omega), ← e]; exact h
def b01 (b : Bool) : Int := if b = true then 1 else 0
theorem b01_0 {b : Bool} : b01 b = 0 ↔ b = false := by cases b <;> decide
theorem s_M_isDigit {x : Int} {w : Wo} {K : Int → Wo → Prop} (h : K (b01 (decide (48 ≤ x ∧ x ≤ 57))) w) : MetI m_M_isDigit [vi x] w K := by
  unfold b01 at h
  refine met_of (by decide) rfl (Nat.le_of_ble_eq_true rfl) (t_M_isDigit_0 ⟨fun h1 => kI ?_, fun h1 => ⟨fun h2 => kI ?_, fun h2 => kI ?_⟩⟩)
  · rw [if_neg (by simp; omega)] at h; exact h
  · rw [if_neg (by simp; omega)] at h; exact h
  · rw [if_pos (by simp; omega)] at h; exact h
theorem s_M_isSmall {x : Int} {w : Wo} {K : Int → Wo → Prop} (h : K (b01 (decide (97 ≤ x ∧ x ≤ 122))) w) : MetI m_M_isSmall [vi x] w K := by
  unfold b01 at h
  refine met_of (by decide) rfl (Nat.le_of_ble_eq_true rfl) (t_M_isSmall_0 ⟨fun h1 => kI ?_, fun h1 => ⟨fun h2 => kI ?_, fun h2 => kI ?_⟩⟩)
  · rw [if_neg (by simp; omega)] at h; exact h
  · rw [if_neg (by simp; omega)] at h; exact h
  · rw [if_pos (by simp; omega)] at h; exact h
theorem s_M_isGreat {x : Int} {w : Wo} {K : Int → Wo → Prop} (h : K (b01 (decide (65 ≤ x ∧ x ≤ 90))) w) : MetI m_M_isGreat [vi x] w K := by
  unfold b01 at h
  refine met_of (by decide) rfl (Nat.le_of_ble_eq_true rfl) (t_M_isGreat_0 ⟨fun h1 => kI ?_, fun h1 => ⟨fun h2 => kI ?_, fun h2 => kI ?_⟩⟩)
  · rw [if_neg (by simp; omega)] at h; exact h
  · rw [if_neg (by simp; omega)] at h; exact h
  · rw [if_pos (by simp; omega)] at h; exact h
theorem fS_v (x : Int) : fS 4 x = decide (48 ≤ x ∧ x ≤ 57) ∧ fS 5 x = decide ((97 ≤ x ∧ x ≤ 122) ∨ (48 ≤ x ∧ x ≤ 57)) ∧ fS 7 x = decide ((97 ≤ x ∧ x ≤ 122) ∨ (65 ≤ x ∧ x ≤ 90) ∨ (48 ≤ x ∧ x ≤ 57)) := by
  unfold fS sortOf
  by_cases h1 : 97 ≤ x ∧ x ≤ 122
  · rw [if_pos h1]
    have a : ¬ (48 ≤ x ∧ x ≤ 57) := by omega
    have b : ¬ (65 ≤ x ∧ x ≤ 90) := by omega
    simp only [h1, a, b, and_self, or_false, or_true, true_or, false_or, decide_true, decide_false, true_and, and_true]
    decide
  · rw [if_neg h1]
    by_cases h2 : 65 ≤ x ∧ x ≤ 90
    · rw [if_pos h2]
      have a : ¬ (48 ≤ x ∧ x ≤ 57) := by omega
      simp only [h1, h2, a, and_self, or_false, or_true, true_or, false_or, decide_true, decide_false, true_and, and_true]
      decide
    · rw [if_neg h2]
      by_cases h3 : 48 ≤ x ∧ x ≤ 57
      · rw [if_pos h3]
        simp only [h1, h2, h3, and_self, or_false, or_true, true_or, false_or, decide_true, decide_false, true_and, and_true]
        decide
      · rw [if_neg h3]
        simp only [h1, h2, h3, and_self, or_false, or_true, true_or, false_or, decide_true, decide_false, true_and, and_true]
        decide
theorem s_M_isPart {x : Int} {w : Wo} {K : Int → Wo → Prop} (h : K (b01 (fS 7 x)) w) : MetI m_M_isPart [vi x] w K := by
  rw [(fS_v x).2.2] at h
  unfold b01 at h
  refine met_of (by decide) rfl (Nat.le_of_ble_eq_true rfl) (t_M_isPart_0 (s_M_isSmall ⟨fun h1 => kI ?_, fun h1 => s_M_isGreat ⟨fun h2 => kI ?_, fun h2 => s_M_isDigit ⟨fun h3 => kI ?_, fun h3 => kI ?_⟩⟩⟩))
  · rw [b01_0] at h1; simp only [Bool.not_eq_false, decide_eq_true_eq] at h1
    rw [if_pos (by simp [h1])] at h; exact h
  · rw [b01_0] at h2; simp only [Bool.not_eq_false, decide_eq_true_eq] at h2
    rw [if_pos (by simp [h2])] at h; exact h
  · rw [b01_0] at h1 h2 h3; simp only [decide_eq_false_iff_not] at h1 h2 h3
    rw [if_neg (by simp only [h1, h2, h3, or_self, decide_false]; decide)] at h; exact h
  · rw [b01_0] at h3; simp only [Bool.not_eq_false, decide_eq_true_eq] at h3
    rw [if_pos (by simp [h3])] at h; exact h
/-- one token more -/
def mkAdd (w : Wo) (a cd b v : Int) : Wo := uI (uJ (uI (uI (uI w 80 (gI w 78 5).toNat a) 82 (gI w 78 5).toNat cd) 81 (gI w 78 5).toNat b) 83 (gI w 78 5).toNat v) 78 5 (gI w 78 5 + 1)
theorem s_M_token {w : Wo} {a cd b v : Int} {K : Wo → Prop} (hc : 0 ≤ gI w 78 5 ∧ gI w 78 5 < 602) (h : K (mkAdd w a cd b v)) : MetV m_M_token [vr 78, vi a, vi cd, vi b, vl v] w K := by
  refine met_of (by decide) rfl (Nat.le_of_ble_eq_true rfl) (t_M_token_0 ⟨hc, fun w2 e2 => ?_⟩)
  have g2 : gI w2 78 5 = gI w 78 5 := by rw [e2, gI_uI, if_neg (by omega)]
  rw [g2]
  refine ⟨hc, fun w5 e5 => ?_⟩
  have g5 : gI w5 78 5 = gI w 78 5 := by rw [e5, gI_uI, if_neg (by omega), g2]
  rw [g5]
  refine ⟨hc, fun w8 e8 => ?_⟩
  have g8 : gI w8 78 5 = gI w 78 5 := by rw [e8, gI_uI, if_neg (by omega), g5]
  rw [g8]
  refine ⟨hc, fun w11 e11 => ?_⟩
  have g11 : gI w11 78 5 = gI w 78 5 := by rw [e11, gI_uJ, g8]
  rw [g11]
  refine ⟨⟨by omega, by omega⟩, fun w13 e13 => ⟨rfl, ?_⟩⟩
  have e : w13 = mkAdd w a cd b v := by rw [e13, e11, e8, e5, e2]; rfl
  rw [e]; exact h
theorem s_M_packed {a b c d e : Int} {w : Wo} {K : Int → Wo → Prop} (h : K (b_lor (b_lshl (b_lor (b_lshl (b_lor (b_lshl (b_lor (b_lshl a 8) b) 8) c) 8) d) 8) e) w) : MetJ m_M_packed [vi a, vi b, vi c, vi d, vi e] w K :=
  met_of (by decide) rfl (Nat.le_of_ble_eq_true rfl) (t_M_packed_0 (kJ h))
theorem wK : b_lor (b_lshl (b_lor (b_lshl (b_lor (b_lshl (b_lor (b_lshl 0 8) 0) 8) 0) 8) 105) 8) 115 = 26995 ∧ b_lor (b_lshl (b_lor (b_lshl (b_lor (b_lshl (b_lor (b_lshl 99 8) 111) 8) 117) 8) 110) 8) 116 = 427071729268 ∧ b_lor (b_lshl (b_lor (b_lshl (b_lor (b_lshl (b_lor (b_lshl 0 8) 0) 8) 115) 8) 117) 8) 109 = 7566701 ∧ b_lor (b_lshl (b_lor (b_lshl (b_lor (b_lshl (b_lor (b_lshl 108 8) 101) 8) 97) 8) 115) 8) 116 = 465557353332 ∧ b_lor (b_lshl (b_lor (b_lshl (b_lor (b_lshl (b_lor (b_lshl 0 8) 109) 8) 111) 8) 115) 8) 116 = 1836020596 := by decide +kernel
def wOf (y : Int) : Int := if y = 26995 then 1 else if y = 427071729268 then 2 else if y = 7566701 then 3 else if y = 465557353332 then 4 else if y = 1836020596 then 5 else 0
theorem s_M_wordOf {y : Int} {w : Wo} {K : Int → Wo → Prop} (h : K (wOf y) w) : MetI m_M_wordOf [vl y] w K := by
  unfold wOf at h
  obtain ⟨k1, k2, k3, k4, k5⟩ := wK
  refine met_of (by decide) rfl (Nat.le_of_ble_eq_true rfl) (t_M_wordOf_0 (s_M_packed ?_))
  rw [k1, lcmp0]
  refine ⟨fun h1 => ?_, fun h1 => kI ?_⟩
  · rw [if_neg h1] at h
    refine s_M_packed ?_
    rw [k2, lcmp0]
    refine ⟨fun h1 => ?_, fun h1 => kI ?_⟩
    · rw [if_neg h1] at h
      refine s_M_packed ?_
      rw [k3, lcmp0]
      refine ⟨fun h1 => ?_, fun h1 => kI ?_⟩
      · rw [if_neg h1] at h
        refine s_M_packed ?_
        rw [k4, lcmp0]
        refine ⟨fun h1 => ?_, fun h1 => kI ?_⟩
        · rw [if_neg h1] at h
          refine s_M_packed ?_
          rw [k5, lcmp0]
          refine ⟨fun h1 => kI ?_, fun h1 => kI ?_⟩
          · rw [if_neg h1] at h; exact h
          · rw [if_pos h1] at h; exact h
        · rw [if_pos h1] at h; exact h
      · rw [if_pos h1] at h; exact h
    · rw [if_pos h1] at h; exact h
  · rw [if_pos h1] at h; exact h

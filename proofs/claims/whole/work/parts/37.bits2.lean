/-! 32 bits as natural numbers -/
theorem i_tb (n : Nat) : (nI n).toBitVec = BitVec.ofNat 32 n := rfl
theorem i_inj {a b : Int32} (h : a.toBitVec = b.toBitVec) : a = b := Int32.toBitVec_inj.mp h
theorem i_T {n : Nat} (h : n < 2147483648) : (nI n).toInt = (n : Int) := by
  show (BitVec.ofNat 32 n).toInt = _
  rw [BitVec.toInt_eq_toNat_cond, BitVec.toNat_ofNat, Nat.mod_eq_of_lt (by omega), if_pos (by omega)]
theorem i_or {a b : Nat} (ha : a < 2 ^ 32) (hb : b < 2 ^ 32) : nI a ||| nI b = nI (a ||| b) := by
  apply i_inj
  rw [Int32.toBitVec_or, i_tb, i_tb, i_tb]
  apply BitVec.eq_of_toNat_eq
  rw [BitVec.toNat_or, BitVec.toNat_ofNat, BitVec.toNat_ofNat, BitVec.toNat_ofNat, Nat.mod_eq_of_lt ha, Nat.mod_eq_of_lt hb, Nat.mod_eq_of_lt (Nat.or_lt_two_pow ha hb)]
theorem i_and {a b : Nat} (ha : a < 2 ^ 32) (hb : b < 2 ^ 32) : nI a &&& nI b = nI (a &&& b) := by
  apply i_inj
  rw [Int32.toBitVec_and, i_tb, i_tb, i_tb]
  apply BitVec.eq_of_toNat_eq
  rw [BitVec.toNat_and, BitVec.toNat_ofNat, BitVec.toNat_ofNat, BitVec.toNat_ofNat, Nat.mod_eq_of_lt ha, Nat.mod_eq_of_lt hb, Nat.mod_eq_of_lt (Nat.and_lt_two_pow _ hb)]
theorem b_ior_n {a b : Nat} (ha : a < 2147483648) (hb : b < 2147483648) : b_ior (a : Int) (b : Int) = ((a ||| b : Nat) : Int) := by
  unfold b_ior
  rw [i_ofN, i_ofN, i_or (by omega) (by omega), i_T (Nat.or_lt_two_pow (n := 31) ha hb)]
theorem b_iand_n {a b : Nat} (ha : a < 2147483648) (hb : b < 2147483648) : b_iand (a : Int) (b : Int) = ((a &&& b : Nat) : Int) := by
  unfold b_iand
  rw [i_ofN, i_ofN, i_and (by omega) (by omega), i_T (Nat.and_lt_two_pow (n := 31) _ hb)]
/-- the bits of a that b has not -/
def andn (a b : Nat) : Nat := a ^^^ (a &&& b)
theorem andn_bit (a b i : Nat) : (andn a b).testBit i = (a.testBit i && !b.testBit i) := by
  unfold andn
  rw [Nat.testBit_xor, Nat.testBit_and]
  cases a.testBit i <;> cases b.testBit i <;> rfl
theorem andn_lt {a b k : Nat} (ha : a < 2 ^ k) : andn a b < 2 ^ k := Nat.xor_lt_two_pow ha (Nat.lt_of_le_of_lt Nat.and_le_left ha)
theorem i_andn {a b : Nat} (ha : a < 2 ^ 32) (hb : b < 2 ^ 32) : nI a &&& (nI b ^^^ Int32.ofInt (-1)) = nI (andn a b) := by
  apply i_inj
  have e1 : (Int32.ofInt (-1)).toBitVec = BitVec.allOnes 32 := by decide
  rw [Int32.toBitVec_and, Int32.toBitVec_xor, i_tb, i_tb, i_tb, e1]
  apply BitVec.eq_of_getLsbD_eq
  intro i hi
  rw [BitVec.getLsbD_and, BitVec.getLsbD_xor, BitVec.getLsbD_allOnes, BitVec.getLsbD_ofNat, BitVec.getLsbD_ofNat, BitVec.getLsbD_ofNat, andn_bit]
  simp [hi]
theorem b_iandn_n {a b : Nat} (ha : a < 2147483648) (hb : b < 2147483648) : b_iand (a : Int) (b_ixor (b : Int) (-1)) = ((andn a b : Nat) : Int) := by
  unfold b_iand b_ixor
  rw [Int32.ofInt_toInt, i_ofN, i_ofN, i_andn (by omega) (by omega), i_T (andn_lt (k := 31) ha)]
theorem b_ishl_1 : ∀ k : Nat, k < 31 → b_ishl 1 (k : Int) = ((2 ^ k : Nat) : Int) := by decide +kernel
theorem i_c : ∀ k, k < 32 → (nI k &&& 31) = nI k := by decide +kernel
theorem i_sm : ∀ k, k < 32 → (BitVec.ofNat 32 k).smod 32 = BitVec.ofNat 32 k := by decide +kernel
theorem b_ishr_n {a k : Nat} (ha : a < 2147483648) (hk : k < 32) : b_ishr (a : Int) (k : Int) = ((a / 2 ^ k : Nat) : Int) := by
  unfold b_ishr
  have h : nI a >>> nI k = nI (a / 2 ^ k) := by
    apply i_inj
    rw [Int32.toBitVec_shiftRight, i_tb, i_tb, i_tb, i_sm k hk]
    apply BitVec.eq_of_toNat_eq
    have hm : (BitVec.ofNat 32 a).msb = false := by
      rw [BitVec.msb_eq_decide, BitVec.toNat_ofNat, Nat.mod_eq_of_lt (by omega)]
      simp; omega
    rw [BitVec.sshiftRight', BitVec.sshiftRight_eq_of_msb_false hm, BitVec.toNat_ushiftRight, BitVec.toNat_ofNat, BitVec.toNat_ofNat, BitVec.toNat_ofNat, Nat.mod_eq_of_lt (show a < 2 ^ 32 by omega), Nat.mod_eq_of_lt (show k < 2 ^ 32 by omega), Nat.shiftRight_eq_div_pow, Nat.mod_eq_of_lt (Nat.lt_of_le_of_lt (Nat.div_le_self _ _) (show a < 2 ^ 32 by omega))]
  rw [i_ofN, i_ofN, i_c k hk, h, i_T (Nat.lt_of_le_of_lt (Nat.div_le_self _ _) ha)]
theorem bit_div (a k : Nat) : a / 2 ^ k % 2 = if a.testBit k = true then 1 else 0 := by
  rw [Nat.testBit_eq_decide_div_mod_eq]
  by_cases h : a / 2 ^ k % 2 = 1
  · rw [h]; simp
  · rw [if_neg (by simp [h])]; omega
/-- bit k of a, as the class asks for it -/
theorem b_bit {a k : Nat} (ha : a < 2147483648) (hk : k < 32) : b_iand (b_ishr (a : Int) (k : Int)) 1 = if a.testBit k = true then 1 else 0 := by
  rw [b_ishr_n ha hk, show (1 : Int) = ((1 : Nat) : Int) from rfl, b_iand_n (Nat.lt_of_le_of_lt (Nat.div_le_self _ _) ha) (by decide)]
  have : a / 2 ^ k &&& 1 = a / 2 ^ k % 2 := by
    have := Nat.and_two_pow_sub_one_eq_mod (a / 2 ^ k) 1
    simpa using this
  rw [this, bit_div]
  split <;> rfl
theorem b_bit0 {a k : Nat} (ha : a < 2147483648) (hk : k < 32) : b_iand (b_ishr (a : Int) (k : Int)) 1 = 0 ↔ a.testBit k = false := by
  rw [b_bit ha hk]
  cases a.testBit k <;> simp
theorem andn0 {a b : Nat} : andn a b = 0 ↔ ∀ i, a.testBit i = true → b.testBit i = true := by
  constructor
  · intro h i hi
    have := andn_bit a b i
    rw [h, Nat.zero_testBit, hi] at this
    cases hb : b.testBit i with
    | true => rfl
    | false => rw [hb] at this; cases this
  · intro h
    apply Nat.eq_of_testBit_eq
    intro i
    rw [andn_bit, Nat.zero_testBit]
    cases ha : a.testBit i with
    | false => rfl
    | true => rw [h i ha]; rfl

/-! bytes of a word -/
def lbN (y : Int) : Nat := (Int64.ofInt y).toBitVec.toNat
theorem lbN_lt (y : Int) : lbN y < 2 ^ 64 := (Int64.ofInt y).toBitVec.isLt
theorem lbN_of (y : Int) : Int64.ofInt y = lN (lbN y) := wb_inj (by
  rw [wb_tb]
  apply BitVec.eq_of_toNat_eq
  rw [BitVec.toNat_ofNat, Nat.mod_eq_of_lt (lbN_lt y)]
  rfl)
def byN (y : Int) (k : Nat) : Nat := lbN y / 2 ^ (8 * k) % 256
theorem byN_lt (y : Int) (k : Nat) : byN y k < 256 := Nat.mod_lt _ (by decide)
theorem l32 (m : Nat) : (lN m).toInt32 = nI m := by
  apply i_inj
  rw [Int64.toBitVec_toInt32, wb_tb, i_tb]
  apply BitVec.eq_of_getLsbD_eq
  intro i hi
  rw [BitVec.getLsbD_signExtend, if_pos (by omega), BitVec.getLsbD_ofNat, BitVec.getLsbD_ofNat, decide_eq_true hi, decide_eq_true (show i < 64 by omega), Bool.true_and, Bool.true_and]
theorem nI_and255 (m : Nat) : nI m &&& Int32.ofInt 255 = nI (m % 256) := by
  apply i_inj
  rw [Int32.toBitVec_and, i_tb, i_tb]
  show BitVec.ofNat 32 m &&& BitVec.ofNat 32 255 = _
  apply BitVec.eq_of_toNat_eq
  rw [BitVec.toNat_and, BitVec.toNat_ofNat, BitVec.toNat_ofNat, BitVec.toNat_ofNat]
  have h1 := Nat.and_two_pow_sub_one_eq_mod (m % 2 ^ 32) 8
  have h2 : (255 : Nat) % 2 ^ 32 = 2 ^ 8 - 1 := by decide
  rw [h2, h1]
  omega
theorem b_byte {y : Int} {k : Nat} (hk : k < 8) : b_iand (b_l2i (b_lushr y (8 * (k : Int)))) 255 = (byN y k : Nat) := by
  unfold b_iand b_l2i b_lushr
  rw [show 8 * (k : Int) = ((8 * k : Nat) : Int) by omega, i_ofN, lbN_of y, wb_shr (lbN_lt y) (by omega), Int64.ofInt_toInt, l32, Int32.ofInt_toInt, nI_and255, i_T (by omega)]
  rfl
theorem l_sm : ∀ k, k < 64 → (BitVec.ofNat 64 k).smod 64 = BitVec.ofNat 64 k := wb_sm
theorem b_mbyte {y : Int} {k : Nat} (hk : k < 8) : b_l2i (b_land (b_lshr y (8 * (k : Int))) 255) = (byN y k : Nat) := by
  unfold b_l2i b_land b_lshr
  rw [show 8 * (k : Int) = ((8 * k : Nat) : Int) by omega, i_ofN, lbN_of y, wb_c (8 * k) (by omega), Int64.ofInt_toInt, Int64.ofInt_toInt]
  have h : lN (lbN y) >>> lN (8 * k) &&& Int64.ofInt 255 = lN (byN y k) := by
    apply wb_inj
    rw [Int64.toBitVec_and, Int64.toBitVec_shiftRight, wb_tb, wb_tb, wb_tb, wb_sm (8 * k) (by omega)]
    show (BitVec.ofNat 64 (lbN y)).sshiftRight' (BitVec.ofNat 64 (8 * k)) &&& BitVec.ofNat 64 255 = _
    apply BitVec.eq_of_getLsbD_eq
    intro i hi
    rw [BitVec.getLsbD_and, BitVec.sshiftRight', BitVec.getLsbD_sshiftRight, BitVec.toNat_ofNat, Nat.mod_eq_of_lt (show 8 * k < 2 ^ 64 by omega), BitVec.getLsbD_ofNat, BitVec.getLsbD_ofNat, BitVec.getLsbD_ofNat]
    unfold byN
    rw [show (256 : Nat) = 2 ^ 8 from rfl, Nat.testBit_mod_two_pow, Nat.testBit_div_two_pow, show (255 : Nat) = 2 ^ 8 - 1 from rfl, Nat.testBit_two_pow_sub_one]
    by_cases c : i < 8
    · rw [decide_eq_true c, decide_eq_true hi, if_pos (by omega), decide_eq_true (show 8 * k + i < 64 by omega), show i + 8 * k = 8 * k + i by omega, decide_eq_false (by omega)]
      simp
    · rw [decide_eq_false c]
      simp
  rw [h, l32, i_T (by have := byN_lt y k; omega)]
theorem b_lshr_n {a k : Nat} (ha : a < 9223372036854775808) (hk : k < 64) : b_lshr (a : Int) (k : Int) = ((a / 2 ^ k : Nat) : Int) := by
  unfold b_lshr
  have h : lN a >>> lN k = lN (a / 2 ^ k) := by
    apply wb_inj
    rw [Int64.toBitVec_shiftRight, wb_tb, wb_tb, wb_tb, wb_sm k hk]
    apply BitVec.eq_of_toNat_eq
    have hm : (BitVec.ofNat 64 a).msb = false := by
      rw [BitVec.msb_eq_decide, BitVec.toNat_ofNat, Nat.mod_eq_of_lt (by omega)]
      simp; omega
    rw [BitVec.sshiftRight', BitVec.sshiftRight_eq_of_msb_false hm, BitVec.toNat_ushiftRight, BitVec.toNat_ofNat, BitVec.toNat_ofNat, BitVec.toNat_ofNat, Nat.mod_eq_of_lt (show a < 2 ^ 64 by omega), Nat.mod_eq_of_lt (show k < 2 ^ 64 by omega), Nat.shiftRight_eq_div_pow, Nat.mod_eq_of_lt (Nat.lt_of_le_of_lt (Nat.div_le_self _ _) (show a < 2 ^ 64 by omega))]
  rw [l_ofN, i_ofN, wb_c k hk, h, pk_lT (Nat.lt_of_le_of_lt (Nat.div_le_self _ _) (by omega))]

/-! bits (the wb_ family and g_or stand in kit/laws/BITS.to-paste) -/
theorem wb_tb (n : Nat) : (lN n).toBitVec = BitVec.ofNat 64 n := rfl
theorem wb_inj {a b : Int64} (h : a.toBitVec = b.toBitVec) : a = b := Int64.toBitVec_inj.mp h
theorem wb_tn {n : Nat} (h : n < 2 ^ 64) : (lN n).toBitVec.toNat = n := by rw [wb_tb, BitVec.toNat_ofNat, Nat.mod_eq_of_lt h]
theorem wb_of (x : Int64) : ∃ n, n < 2 ^ 64 ∧ x = lN n := ⟨x.toBitVec.toNat, x.toBitVec.isLt, wb_inj (by rw [wb_tb]; simp)⟩
theorem wb_of32 (x : Int32) : ∃ n, n < 2 ^ 32 ∧ x = nI n := ⟨x.toBitVec.toNat, x.toBitVec.isLt, Int32.toBitVec_inj.mp (by show _ = BitVec.ofNat 32 _; simp)⟩
theorem wb_c : ∀ k, k < 64 → ((nI k).toInt64 &&& 63) = lN k := by decide +kernel
theorem wb_cu : ∀ k, k < 64 → ((nI k).toInt64.toUInt64 &&& Int64.toUInt64 63) = UInt64.ofNat k := by decide +kernel
theorem wb_sm : ∀ k, k < 64 → (BitVec.ofNat 64 k).smod 64 = BitVec.ofNat 64 k := by decide +kernel
theorem wb_pw {a b : Nat} (h : a ≤ b) : 2 ^ b = 2 ^ a * 2 ^ (b - a) := by rw [← Nat.pow_add]; congr 1; omega
theorem wb_lt2 {a b : Nat} (h : a < b) : 2 ^ a < 2 ^ b := Nat.pow_lt_pow_right (by decide) h
theorem wb_mod (n : Nat) : lN n = lN (n % 2 ^ 64) := wb_inj (by rw [wb_tb, wb_tb]; apply BitVec.eq_of_toNat_eq; rw [BitVec.toNat_ofNat, BitVec.toNat_ofNat, Nat.mod_mod])
theorem wb_shr {n k : Nat} (hn : n < 2 ^ 64) (hk : k < 64) : ((lN n).toUInt64 >>> ((nI k).toInt64.toUInt64 &&& Int64.toUInt64 63)).toInt64 = lN (n / 2 ^ k) := by
  rw [wb_cu k hk]
  apply wb_inj
  apply BitVec.eq_of_toNat_eq
  show ((lN n).toUInt64 >>> UInt64.ofNat k).toNat = (BitVec.ofNat 64 _).toNat
  have h1 : (UInt64.ofNat k).toNat = k := by
    show (BitVec.ofNat 64 k).toNat = k
    rw [BitVec.toNat_ofNat, Nat.mod_eq_of_lt (by omega)]
  have h2 : (lN n).toUInt64.toNat = n := wb_tn hn
  rw [UInt64.toNat_shiftRight, h1, h2, Nat.mod_eq_of_lt hk, Nat.shiftRight_eq_div_pow, BitVec.toNat_ofNat, Nat.mod_eq_of_lt (Nat.lt_of_le_of_lt (Nat.div_le_self _ _) hn)]
theorem wb_shl (n : Nat) {k : Nat} (hk : k < 64) : lN n <<< ((nI k).toInt64 &&& 63) = lN (n * 2 ^ k) := by
  rw [wb_c k hk]
  apply wb_inj
  rw [Int64.toBitVec_shiftLeft, wb_tb, wb_tb, wb_tb, wb_sm k hk]
  apply BitVec.eq_of_toNat_eq
  rw [BitVec.shiftLeft_eq', BitVec.toNat_shiftLeft, BitVec.toNat_ofNat, BitVec.toNat_ofNat, BitVec.toNat_ofNat, Nat.mod_eq_of_lt (show k < 2 ^ 64 by omega), Nat.shiftLeft_eq, Nat.mul_mod, Nat.mod_mod, ← Nat.mul_mod]
theorem wb_and {a b : Nat} (ha : a < 2 ^ 64) (hb : b < 2 ^ 64) : lN a &&& lN b = lN (a &&& b) := by
  apply wb_inj
  rw [Int64.toBitVec_and, wb_tb, wb_tb, wb_tb]
  apply BitVec.eq_of_toNat_eq
  rw [BitVec.toNat_and, BitVec.toNat_ofNat, BitVec.toNat_ofNat, BitVec.toNat_ofNat, Nat.mod_eq_of_lt ha, Nat.mod_eq_of_lt hb, Nat.mod_eq_of_lt (Nat.and_lt_two_pow _ hb)]
theorem wb_or {a b : Nat} (ha : a < 2 ^ 64) (hb : b < 2 ^ 64) : lN a ||| lN b = lN (a ||| b) := by
  apply wb_inj
  rw [Int64.toBitVec_or, wb_tb, wb_tb, wb_tb]
  apply BitVec.eq_of_toNat_eq
  rw [BitVec.toNat_or, BitVec.toNat_ofNat, BitVec.toNat_ofNat, BitVec.toNat_ofNat, Nat.mod_eq_of_lt ha, Nat.mod_eq_of_lt hb, Nat.mod_eq_of_lt (Nat.or_lt_two_pow ha hb)]
theorem wb_mask {n k : Nat} (hn : n < 2 ^ 64) (hk : k < 64) : lN n &&& lN (2 ^ k - 1) = lN (n % 2 ^ k) := by
  rw [wb_and hn (by have := wb_lt2 hk; omega), Nat.and_two_pow_sub_one_eq_mod]
theorem wb_a1 {n : Nat} (hn : n < 2 ^ 64) : lN n &&& 1 = lN (n % 2) := wb_mask (k := 1) hn (by decide)
theorem wb_bit {n k : Nat} (hn : n < 2 ^ 64) (hk : k < 64) : ((lN n).toUInt64 >>> ((nI k).toInt64.toUInt64 &&& Int64.toUInt64 63)).toInt64 &&& 1 = lN (n / 2 ^ k % 2) := by
  rw [wb_shr hn hk, wb_a1 (Nat.lt_of_le_of_lt (Nat.div_le_self _ _) hn)]
theorem u_tn {n : Nat} (h : n < 2 ^ 64) : (UInt64.ofNat n).toNat = n := Nat.mod_eq_of_lt h
theorem g_or {k p a b : Nat} (hp : 2 ^ k = p) (ha : a < p) (h : b * p + a < 2 ^ 64) : lN (b * p) ||| lN a = lN (b * p + a) := by
  subst hp
  have h1 : b * 2 ^ k ||| a = b * 2 ^ k + a := by rw [← Nat.shiftLeft_eq, Nat.shiftLeft_add_eq_or_of_lt ha]
  have h3 : UInt64.ofNat (b * 2 ^ k) ||| UInt64.ofNat a = UInt64.ofNat (b * 2 ^ k + a) := UInt64.toNat_inj.mp (by rw [UInt64.toNat_or, u_tn (by omega), u_tn (by omega), u_tn h, h1])
  have h2 := congrArg UInt64.toInt64 h3
  exact h2
theorem l_ofN (n : Nat) : Int64.ofInt (n : Int) = lN n := Int64.ofInt_eq_ofNat
theorem i_ofN (n : Nat) : Int32.ofInt (n : Int) = nI n := Int32.ofInt_eq_ofNat
theorem b_lshl_n {y k : Nat} (hk : k < 64) (h : y * 2 ^ k < 2 ^ 63) : b_lshl (y : Int) (k : Int) = ((y * 2 ^ k : Nat) : Int) := by
  unfold b_lshl
  rw [l_ofN, i_ofN, wb_shl y hk, pk_lT h]
theorem b_lor_n {a b p k : Nat} (hp : 2 ^ k = p) (ha : a < p) (h : b * p + a < 2 ^ 63) : b_lor ((b * p : Nat) : Int) (a : Int) = ((b * p + a : Nat) : Int) := by
  unfold b_lor
  rw [l_ofN, l_ofN, g_or hp ha (by omega), pk_lT h]
/-! PURE PICTURE 1: characters, runs, packed texts; the class's Tape -/
theorem kI {K : Int → Wo → Prop} {x : Int} {w : Wo} (h : K x w) : ∃ y, (some (vi x) : Option AV) = some (vi y) ∧ K y w := ⟨x, rfl, h⟩
theorem kJ {K : Int → Wo → Prop} {x : Int} {w : Wo} (h : K x w) : ∃ y, (some (vl x) : Option AV) = some (vl y) ∧ K y w := ⟨x, rfl, h⟩
/-- the character at a place, 0 where there is none -/
def chf (c : Nat → Int) (n : Nat) (x : Int) : Int := if 0 ≤ x ∧ x < n then c x.toNat else 0
def sortOf (x : Int) : Int := if 97 ≤ x ∧ x ≤ 122 then 1 else if 65 ≤ x ∧ x ≤ 90 then 2 else if 48 ≤ x ∧ x ≤ 57 then 4 else 0
/-- the class's tape holds the n characters c -/
def TpR (c : Nat → Int) (n : Nat) (w : Wo) : Prop := n ≤ 600 ∧ gI w 2 1 = n ∧ (∀ i, i < n → gI w 3 i = c i) ∧ ∀ i, i < n → 32 ≤ c i ∧ c i ≤ 126
theorem chf_rng {c : Nat → Int} {n : Nat} {w : Wo} (h : TpR c n w) (x : Int) : 0 ≤ chf c n x ∧ chf c n x ≤ 126 := by
  unfold chf
  split
  · have := h.2.2.2 x.toNat (by omega)
    omega
  · omega
theorem s_Tp_at {c : Nat → Int} {n : Nat} {w : Wo} {x : Int} {K : Int → Wo → Prop} (ht : TpR c n w) (h : K (chf c n x) w) : MetI m_Tp_at [vr 2, vi x] w K := by
  obtain ⟨h600, hn, hc, -⟩ := ht
  refine met_of (by decide) rfl (Nat.le_of_ble_eq_true rfl) (t_Tp_at_0 ?_)
  rw [hn]
  refine ⟨fun h1 => kI ?_, fun h1 => ⟨fun h2 => kI ?_, fun h2 => ⟨⟨by omega, by omega⟩, kI ?_⟩⟩⟩
  · have e : chf c n x = 0 := if_neg (by omega)
    rw [← e]; exact h
  · have e : chf c n x = 0 := if_neg (by omega)
    rw [← e]; exact h
  · have e : chf c n x = c x.toNat := if_pos (by omega)
    rw [hc x.toNat (by omega), ← e]; exact h
theorem s_Tp_sortAt {c : Nat → Int} {n : Nat} {w : Wo} {x : Int} {K : Int → Wo → Prop} (ht : TpR c n w) (h : K (sortOf (chf c n x)) w) : MetI m_Tp_sortAt [vr 2, vi x] w K := by
  refine met_of (by decide) rfl (Nat.le_of_ble_eq_true rfl) (t_Tp_sortAt_0 (s_Tp_at ht ?_))
  have h20 : (chf c n x < 97 ∨ 122 < chf c n x) → Wp m_Tp_sortAt 20 [(2, vi (chf c n x))] [] (0, 0) w (fun r w' => ∃ y, r = some (vi y) ∧ K y w') := by
    intro h1
    refine t_Tp_sortAt_20 ?_
    generalize chf c n x = y at h h1 ⊢
    unfold sortOf at h
    rw [if_neg (by omega)] at h
    refine ⟨fun h2 => ?_, fun h2 => ⟨fun h3 => ?_, fun h3 => kI ?_⟩⟩
    · rw [if_neg (by omega)] at h
      refine ⟨fun h4 => kI ?_, fun h4 => ⟨fun h5 => kI ?_, fun h5 => kI ?_⟩⟩
      · rw [if_neg (by omega)] at h; exact h
      · rw [if_neg (by omega)] at h; exact h
      · rw [if_pos (by omega)] at h; exact h
    · rw [if_neg (by omega)] at h
      refine ⟨fun h4 => kI ?_, fun h4 => ⟨fun h5 => kI ?_, fun h5 => kI ?_⟩⟩
      · rw [if_neg (by omega)] at h; exact h
      · rw [if_neg (by omega)] at h; exact h
      · omega
    · rw [if_pos (by omega)] at h; exact h
  refine ⟨fun h1 => h20 (Or.inl h1), fun h1 => ⟨fun h2 => h20 (Or.inr h2), fun h2 => kI ?_⟩⟩
  have e : sortOf (chf c n x) = 1 := if_pos (by omega)
  rw [← e]; exact h
/-- how far the characters of a kind go on from p -/
def runE (f : Int → Bool) (c : Nat → Int) (n : Nat) : Nat → Nat → Nat
  | 0, p => p
  | k + 1, p => if p < n ∧ f (c p) = true then runE f c n k (p + 1) else p
def endE (f : Int → Bool) (c : Nat → Int) (n p : Nat) : Nat := runE f c n (n - p) p
theorem endE_n {f : Int → Bool} {c : Nat → Int} {n p : Nat} (h : n ≤ p) : endE f c n p = p := by
  unfold endE
  rw [show n - p = 0 by omega]
  rfl
theorem endE_stop {f : Int → Bool} {c : Nat → Int} {n p : Nat} (h : f (c p) = false) : endE f c n p = p := by
  unfold endE
  cases hk : n - p with
  | zero => rfl
  | succ k => exact if_neg (fun z => by rw [h] at z; exact absurd z.2 (by decide))
theorem endE_go {f : Int → Bool} {c : Nat → Int} {n p : Nat} (hp : p < n) (h : f (c p) = true) : endE f c n p = endE f c n (p + 1) := by
  unfold endE
  rw [show n - p = (n - (p + 1)) + 1 by omega]
  exact if_pos ⟨hp, h⟩
theorem endE_le {f : Int → Bool} {c : Nat → Int} {n : Nat} : ∀ k p, n - p ≤ k → p ≤ n → p ≤ endE f c n p ∧ endE f c n p ≤ n := by
  intro k
  induction k with
  | zero => intro p h1 h2; rw [endE_n (by omega)]; omega
  | succ k ih =>
    intro p h1 h2
    by_cases hp : p < n
    · cases hf : f (c p) with
      | false => rw [endE_stop hf]; omega
      | true =>
        rw [endE_go hp hf]
        have := ih (p + 1) (by omega) (by omega)
        omega
    · rw [endE_n (by omega)]; omega
def fS (S : Int) (x : Int) : Bool := !decide (b_iand (sortOf x) S = 0)
theorem chf_at {c : Nat → Int} {n p : Nat} (h : p < n) : chf c n (p : Int) = c p := by
  unfold chf
  rw [if_pos ⟨by omega, by omega⟩]
  rfl
theorem l_endOfRun {c : Nat → Int} {n : Nat} {w : Wo} {S : Int} {Q : Option AV → Wo → Prop} (ht : TpR c n w) : ∀ (k p : Nat), n - p ≤ k → p ≤ n → Q (some (vi (endE (fS S) c n p : Nat))) w → Wp m_Tp_endOfRun 2 [(0, vr 2), (2, vi S), (3, vi (p : Int))] [] (0, 0) w Q := by
  obtain ⟨h600, hn, hc, hr⟩ := id ht
  intro k
  induction k with
  | zero =>
    intro p h1 h2 h
    refine t_Tp_endOfRun_2 ?_
    rw [hn]
    refine ⟨fun h3 => ?_, fun h3 => ?_⟩
    · rw [endE_n (by omega), show p = n by omega] at h; exact h
    · omega
  | succ k ih =>
    intro p h1 h2 h
    refine t_Tp_endOfRun_2 ?_
    rw [hn]
    refine ⟨fun h3 => ?_, fun h3 => s_Tp_sortAt ht ⟨fun h4 => ⟨⟨by omega, by omega⟩, ?_⟩, fun h4 => ?_⟩⟩
    · rw [endE_n (by omega), show p = n by omega] at h; exact h
    · rw [chf_at (by omega)] at h4
      rw [endE_go (by omega) (by unfold fS; simp [h4])] at h
      exact ih (p + 1) (by omega) (by omega) h
    · rw [chf_at (by omega)] at h4
      rw [endE_stop (by unfold fS; simp [h4])] at h
      exact h
theorem s_Tp_endOfRun {c : Nat → Int} {n p : Nat} {w : Wo} {S : Int} {K : Int → Wo → Prop} (ht : TpR c n w) (hp : p ≤ n) (h : K (endE (fS S) c n p : Nat) w) : MetI m_Tp_endOfRun [vr 2, vi (p : Int), vi S] w K :=
  met_of (by decide) rfl (Nat.le_of_ble_eq_true rfl) (t_Tp_endOfRun_0 (l_endOfRun ht n p (by omega) hp (kI h)))
/-- the text from p on, k characters, packed -/
def pkT (B : Nat) (c : Nat → Int) : Nat → Nat → Nat → Nat
  | 0, _, a => a
  | k + 1, p, a => pkT B c k (p + 1) (a * B + (c p).toNat)
theorem p128 {j : Nat} (h : j ≤ 6) : 128 ^ j ≤ 4398046511104 := Nat.pow_le_pow_right (show 128 > 0 by decide) h
theorem l_packed {c : Nat → Int} {n e : Nat} {w : Wo} {Q : Option AV → Wo → Prop} (ht : TpR c n w) (he : e ≤ n) : ∀ (k p a j : Nat), p + k = e → j + k ≤ 6 → a < 128 ^ j → Q (some (vl (pkT 128 c k p a : Nat))) w → Wp m_Tp_packed 5 [(0, vr 2), (2, vi (e : Int)), (3, vl (a : Int)), (5, vi (p : Int))] [] (0, 0) w Q := by
  obtain ⟨h600, hn, hc, hr⟩ := id ht
  intro k
  induction k with
  | zero =>
    intro p a j h1 h2 h3 h
    refine t_Tp_packed_5 ⟨fun h4 => h, fun h4 => ?_⟩
    omega
  | succ k ih =>
    intro p a j h1 h2 h3 h
    refine t_Tp_packed_5 ⟨fun h4 => ?_, fun h4 => s_Tp_at ht ⟨⟨by omega, by omega⟩, ?_⟩⟩
    · omega
    · have hr1 := hr p (by omega)
      obtain ⟨x, hx⟩ := Int.eq_ofNat_of_zero_le (show 0 ≤ c p by omega)
      have hx2 : x < 128 := by omega
      have h5 := p128 (j := j) (by omega)
      rw [chf_at (by omega), hx, show (7 : Int) = ((7 : Nat) : Int) from rfl, b_lshl_n (by decide) (by omega)]
      have e1 : (a * 2 ^ 7 : Nat) = a * 128 := rfl
      rw [e1, b_lor_n (k := 7) rfl hx2 (by omega)]
      refine ih (p + 1) (a * 128 + x) (j + 1) (by omega) (by omega) ?_ ?_
      · rw [Nat.pow_succ]; omega
      · have e2 : pkT 128 c (k + 1) p a = pkT 128 c k (p + 1) (a * 128 + x) := by
          show pkT 128 c k (p + 1) (a * 128 + (c p).toNat) = _
          rw [hx]; rfl
        rw [← e2]; exact h
theorem s_Tp_packed {c : Nat → Int} {n p e : Nat} {w : Wo} {K : Int → Wo → Prop} (ht : TpR c n w) (hp : p ≤ e) (he : e ≤ n) (h6 : e - p ≤ 6) (h : K (pkT 128 c (e - p) p 0 : Nat) w) : MetJ m_Tp_packed [vr 2, vi (p : Int), vi (e : Int)] w K :=
  met_of (by decide) rfl (Nat.le_of_ble_eq_true rfl) (t_Tp_packed_0 (l_packed ht he (e - p) p 0 0 (by omega) (by omega) (by decide) (kJ h)))
def nmA (c : Nat → Int) : Nat → Nat → Nat → Nat
  | 0, _, a => a
  | k + 1, p, a => nmA c k (p + 1) (a * 10 + (c p - 48).toNat)
theorem p10 {j : Nat} (h : j ≤ 9) : 10 ^ j ≤ 1000000000 := Nat.pow_le_pow_right (show 10 > 0 by decide) h
theorem l_number {c : Nat → Int} {n e : Nat} {w : Wo} {Q : Option AV → Wo → Prop} (ht : TpR c n w) (he : e ≤ n) : ∀ (k p a j : Nat), p + k = e → j + k ≤ 9 → a < 10 ^ j → (∀ i, p ≤ i → i < e → 48 ≤ c i ∧ c i ≤ 57) → Q (some (vl (nmA c k p a : Nat))) w → Wp m_Tp_number 5 [(0, vr 2), (2, vi (e : Int)), (3, vl (a : Int)), (5, vi (p : Int))] [] (0, 0) w Q := by
  obtain ⟨h600, hn, hc, hr⟩ := id ht
  intro k
  induction k with
  | zero =>
    intro p a j h1 h2 h3 hd h
    refine t_Tp_number_5 ⟨fun h4 => h, fun h4 => ?_⟩
    omega
  | succ k ih =>
    intro p a j h1 h2 h3 hd h
    have hr1 := hd p (by omega) (by omega)
    obtain ⟨x, hx⟩ := Int.eq_ofNat_of_zero_le (show 0 ≤ c p - 48 by omega)
    have h5 := p10 (j := j) (by omega)
    have hcx : c p = (x : Int) + 48 := by omega
    refine t_Tp_number_5 ⟨fun h4 => ?_, fun h4 => ⟨⟨by omega, by omega⟩, s_Tp_at ht ?_⟩⟩
    · omega
    · rw [chf_at (by omega), hcx]
      refine ⟨⟨by omega, by omega⟩, ⟨by omega, by omega⟩, ⟨by omega, by omega⟩, ?_⟩
      have e1 : (a : Int) * 10 + ((x : Int) + 48) - 48 = ((a * 10 + x : Nat) : Int) := by omega
      rw [e1]
      refine ih (p + 1) (a * 10 + x) (j + 1) (by omega) (by omega) ?_ (fun i hi hi2 => hd i (by omega) hi2) ?_
      · rw [Nat.pow_succ]; omega
      · have e2 : nmA c (k + 1) p a = nmA c k (p + 1) (a * 10 + x) := by
          show nmA c k (p + 1) (a * 10 + (c p - 48).toNat) = _
          rw [hx]; rfl
        rw [← e2]; exact h
theorem s_Tp_number {c : Nat → Int} {n p e : Nat} {w : Wo} {K : Int → Wo → Prop} (ht : TpR c n w) (hp : p ≤ e) (he : e ≤ n) (h9 : e - p ≤ 9) (hd : ∀ i, p ≤ i → i < e → 48 ≤ c i ∧ c i ≤ 57) (h : K (nmA c (e - p) p 0 : Nat) w) : MetJ m_Tp_number [vr 2, vi (p : Int), vi (e : Int)] w K :=
  met_of (by decide) rfl (Nat.le_of_ble_eq_true rfl) (t_Tp_number_0 (l_number ht he (e - p) p 0 0 (by omega) (by omega) (by decide) hd (kJ h)))

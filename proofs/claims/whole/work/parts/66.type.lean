/-! type -/
def tyC (c : Nat → Int) (n : Nat) (y : Int) (x i : Nat) : Int := if i < n then c i else (byN y (n + x - 1 - i) : Nat)
def tyOK (n : Nat) (y x : Int) : Prop := 1 ≤ x ∧ x ≤ 8 ∧ (n : Int) + x ≤ 600 ∧ ∀ k : Nat, (k : Int) < x → 32 ≤ byN y k ∧ byN y k ≤ 126
theorem s_D_type {c : Nat → Int} {n : Nat} {y x : Int} {w : Wo} {K : Int → Wo → Prop} (ht : TpR c n w) (hx : inr32 x) (h1 : tyOK n y x → ∀ w', TpR (tyC c n y x.toNat) (n + x.toNat) w' → Frm [2, 3] [] w w' → K 1 w') (h0 : ¬ tyOK n y x → K 0 w) : MetI m_D_type [vr 1, vl y, vi x] w K := by
  obtain ⟨g1, g2, g3, g4⟩ := id ht
  have byte : ∀ (k : Nat) (w1 : Wo) (K' : Int → Wo → Prop), k < 8 → K' (byN y k : Nat) w1 → MetI m_D_byteOf [vl y, vi (k : Int)] w1 K' := fun k w1 K' hk h => met_of (by decide) rfl (Nat.le_of_ble_eq_true rfl) (t_D_byteOf_0 ⟨⟨by omega, by omega⟩, by rw [b_byte hk]; exact kI h⟩)
  refine met_of (by decide) rfl (Nat.le_of_ble_eq_true rfl) (t_D_type_0 ?_)
  rw [g2]
  refine ⟨fun z => kI (h0 (fun q => by have := q.1; omega)), fun z => ⟨fun z2 => kI (h0 (fun q => by have := q.2.1; omega)), fun z2 => ⟨⟨by omega, by omega⟩, fun z3 => ?_, fun z3 => kI (h0 (fun q => z3 q.2.2.1))⟩⟩⟩
  obtain ⟨X, hX⟩ : ∃ X : Nat, x = (X : Int) := ⟨x.toNat, by omega⟩
  subst hX
  rw [show ((X : Int)).toNat = X from rfl] at h1
  have store : (∀ k, k < X → 32 ≤ byN y k ∧ byN y k ≤ 126) → ∀ (m : Nat) (w1 : Wo), m ≤ X → TpR (tyC c n y X) (n + X - m) w1 → Frm [2, 3] [] w w1 → Wp m_D_type 72 [(0, vr 1), (1, vl y), (4, vi ((m : Int) - 1))] [] (0, 0) w1 (fun r w' => ∃ y, r = some (vi y) ∧ K y w') := by
    intro hb m
    induction m with
    | zero =>
      intro w1 hm hT F
      exact t_D_type_72 ⟨fun _ => kI (h1 ⟨by omega, by omega, by omega, fun k hk => hb k (by omega)⟩ w1 hT F), fun z => by omega⟩
    | succ m ih =>
      intro w1 hm hT F
      refine t_D_type_72 ⟨fun z => by omega, fun _ => ?_⟩
      rw [show ((m + 1 : Nat) : Int) - 1 = (m : Int) by omega]
      refine byte m w1 _ (by omega) ?_
      obtain ⟨q1, q2, q3, q4⟩ := hT
      have bm := hb m (by omega)
      refine met_of (by decide) rfl (Nat.le_of_ble_eq_true rfl) (t_Tp_add_0 ?_)
      rw [q2, show (((n + X - (m + 1) : Nat) : Int)).toNat = n + X - (m + 1) from rfl]
      refine ⟨fun z => by omega, fun _ => ⟨⟨by omega, by omega⟩, ⟨by omega, by omega⟩, ⟨by omega, by omega⟩, fun w2 e2 => ?_⟩⟩
      have x2 : gI w2 2 1 = ((n + X - (m + 1) : Nat) : Int) := by rw [e2, gI_uI, if_neg (by omega)]; exact q2
      rw [x2]
      refine ⟨⟨by omega, by omega⟩, fun w4 e4 => ⟨rfl, ⟨⟨by omega, by omega⟩, ?_⟩⟩⟩
      rw [show (m : Int) + -1 = (m : Int) - 1 by omega]
      refine ih w4 (by omega) ⟨by omega, ?_, fun i hi => ?_, fun i hi => ?_⟩ (by rw [e4, e2]; exact (F.uI (by simp)).uI (by simp))
      · rw [e4, gI_uI, if_pos ⟨rfl, rfl⟩]; omega
      · rw [e4, gI_uI, if_neg (by omega), e2, gI_uI]
        by_cases c1 : i = n + X - (m + 1)
        · rw [if_pos ⟨rfl, c1⟩]
          unfold tyC
          rw [if_neg (by omega), show n + X - 1 - i = m by omega]
        · rw [if_neg (fun q => c1 q.2)]; exact q3 i (by omega)
      · by_cases c1 : i = n + X - (m + 1)
        · unfold tyC
          rw [if_neg (by omega), show n + X - 1 - i = m by omega]
          omega
        · exact q4 i (by omega)
  have chk : ∀ (m k : Nat), X - k ≤ m → k ≤ X → (∀ j, j < k → 32 ≤ byN y j ∧ byN y j ≤ 126) → Wp m_D_type 31 [(0, vr 1), (1, vl y), (3, vi (X : Int)), (4, vi (k : Int))] [] (0, 0) w (fun r w' => ∃ y, r = some (vi y) ∧ K y w') := by
    intro m
    induction m with
    | zero =>
      intro k hm hk hj
      have e : k = X := by omega
      subst e
      refine t_D_type_31 ⟨fun _ => ⟨⟨by omega, by omega⟩, store hj k w (Nat.le_refl _) ?_ Frm.rf⟩, fun z => by omega⟩
      rw [Nat.add_sub_cancel]
      refine ⟨g1, g2, fun i hi => ?_, fun i hi => ?_⟩
      · unfold tyC; rw [if_pos hi]; exact g3 i hi
      · unfold tyC; rw [if_pos hi]; exact g4 i hi
    | succ m ih =>
      intro k hm hk hj
      by_cases hkx : k < X
      · refine t_D_type_31 ⟨fun z => by omega, fun _ => byte k w _ (by omega) ⟨fun z => kI (h0 (fun q => by have := q.2.2.2 k (by omega); omega)), fun z => ⟨fun z2 => ⟨⟨by omega, by omega⟩, ih (k + 1) (by omega) (by omega) (fun j hj2 => ?_)⟩, fun z2 => kI (h0 (fun q => by have := q.2.2.2 k (by omega); omega))⟩⟩⟩
        by_cases e : j = k
        · rw [e]; omega
        · exact hj j (by omega)
      · exact ih k (by omega) hk hj
  exact chk X 0 (by omega) (Nat.zero_le _) (fun j hj => by omega)
def oTy : OkF := fun o k => (o = 78 ∧ (k = 0 ∨ k = 2)) ∨ o = 79
theorem s_M_type {c : Nat → Int} {n : Nat} {y x : Int} {w : Wo} {K : Int → Wo → Prop} (ht : MtR c n w) (hx : inr32 x) (h1 : tyOK n y x → ∀ w', MtR (tyC c n y x.toNat) (n + x.toNat) w' → FX oTy o0 w w' → K 1 w') (h0 : ¬ tyOK n y x → ∀ w', MtR c n w' → FX oTy o0 w w' → K 0 w') : MetI m_M_type [vr 78, vl y, vi x] w K := by
  refine met_of (by decide) rfl (Nat.le_of_ble_eq_true rfl) (t_M_type_0 (fun w0 e0 => ?_))
  have F0 : FX oTy o0 w w0 := by rw [e0]; exact FX.rf.uI (by unfold oTy; omega)
  have ht0 : MtR c n w0 := by
    obtain ⟨g1, g2, g3, g4⟩ := ht
    exact ⟨g1, by rw [e0, gI_uI, if_neg (by omega)]; exact g2, fun i hi => by rw [e0, gI_uI, if_neg (by omega)]; exact g3 i hi, g4⟩
  have hN : ¬ tyOK n y x → ∃ u, (some (vi 0) : Option AV) = some (vi u) ∧ K u w0 := fun q => kI (h0 q w0 ht0 F0)
  obtain ⟨g1, g2, g3, g4⟩ := id ht0
  rw [g2]
  refine ⟨fun z => hN (fun q => by have := q.1; omega), fun z => ⟨fun z2 => hN (fun q => by have := q.2.1; omega), fun z2 => ⟨⟨by omega, by omega⟩, fun z3 => ?_, fun z3 => hN (fun q => z3 q.2.2.1)⟩⟩⟩
  obtain ⟨X, hX⟩ : ∃ X : Nat, x = (X : Int) := ⟨x.toNat, by omega⟩
  subst hX
  rw [show ((X : Int)).toNat = X from rfl] at h1
  have store : (∀ k, k < X → 32 ≤ byN y k ∧ byN y k ≤ 126) → ∀ (m : Nat) (w1 : Wo), m ≤ X → MtR (tyC c n y X) (n + X - m) w1 → FX oTy o0 w w1 → Wp m_M_type 80 [(0, vr 78), (1, vl y), (4, vi ((m : Int) - 1))] [] (0, 0) w1 (fun r w' => ∃ y, r = some (vi y) ∧ K y w') := by
    intro hb m
    induction m with
    | zero =>
      intro w1 hm hT F
      exact t_M_type_80 ⟨fun _ => kI (h1 ⟨by omega, by omega, by omega, fun k hk => hb k (by omega)⟩ w1 hT F), fun z => by omega⟩
    | succ m ih =>
      intro w1 hm hT F
      obtain ⟨q1, q2, q3, q4⟩ := hT
      have bm := hb m (by omega)
      refine t_M_type_80 ⟨fun z => by omega, fun _ => ?_⟩
      rw [show ((m + 1 : Nat) : Int) - 1 = (m : Int) by omega, b_mbyte (show m < 8 by omega), q2, show (((n + X - (m + 1) : Nat) : Int)).toNat = n + X - (m + 1) from rfl]
      refine ⟨⟨by omega, by omega⟩, ⟨by omega, by omega⟩, fun w2 e2 => ?_⟩
      have x2 : gI w2 78 2 = ((n + X - (m + 1) : Nat) : Int) := by rw [e2, gI_uI, if_neg (by omega)]; exact q2
      rw [x2]
      refine ⟨⟨by omega, by omega⟩, fun w4 e4 => ⟨⟨by omega, by omega⟩, ?_⟩⟩
      rw [show (m : Int) + -1 = (m : Int) - 1 by omega]
      refine ih w4 (by omega) ⟨by omega, ?_, fun i hi => ?_, fun i hi => ?_⟩ (by rw [e4, e2]; exact (F.uI (by unfold oTy; omega)).uI (by unfold oTy; omega))
      · rw [e4, gI_uI, if_pos ⟨rfl, rfl⟩]; omega
      · rw [e4, gI_uI, if_neg (by omega), e2, gI_uI]
        by_cases c1 : i = n + X - (m + 1)
        · rw [if_pos ⟨rfl, c1⟩]
          unfold tyC
          rw [if_neg (by omega), show n + X - 1 - i = m by omega]
        · rw [if_neg (fun q => c1 q.2)]; exact q3 i (by omega)
      · by_cases c1 : i = n + X - (m + 1)
        · unfold tyC
          rw [if_neg (by omega), show n + X - 1 - i = m by omega]
          omega
        · exact q4 i (by omega)
  have chk : ∀ (m k : Nat), X - k ≤ m → k ≤ X → (∀ j, j < k → 32 ≤ byN y j ∧ byN y j ≤ 126) → Wp m_M_type 33 [(0, vr 78), (1, vl y), (3, vi (X : Int)), (4, vi (k : Int))] [] (0, 0) w0 (fun r w' => ∃ y, r = some (vi y) ∧ K y w') := by
    intro m
    induction m with
    | zero =>
      intro k hm hk hj
      have e : k = X := by omega
      subst e
      refine t_M_type_33 ⟨fun _ => ⟨⟨by omega, by omega⟩, store hj k w0 (Nat.le_refl _) ?_ F0⟩, fun z => by omega⟩
      rw [Nat.add_sub_cancel]
      refine ⟨g1, g2, fun i hi => ?_, fun i hi => ?_⟩
      · unfold tyC; rw [if_pos hi]; exact g3 i hi
      · unfold tyC; rw [if_pos hi]; exact g4 i hi
    | succ m ih =>
      intro k hm hk hj
      by_cases hkx : k < X
      · refine t_M_type_33 ⟨fun z => by omega, fun _ => ?_⟩
        rw [b_mbyte (show k < 8 by omega)]
        refine ⟨⟨by omega, by omega⟩, fun z => hN (fun q => by have := q.2.2.2 k (by omega); omega), fun z => ⟨fun z2 => ⟨⟨by omega, by omega⟩, ih (k + 1) (by omega) (by omega) (fun j hj2 => ?_)⟩, fun z2 => hN (fun q => by have := q.2.2.2 k (by omega); omega)⟩⟩
        by_cases e : j = k
        · rw [e]; omega
        · exact hj j (by omega)
      · exact ih k (by omega) hk hj
  exact chk X 0 (by omega) (Nat.zero_le _) (fun j hj => by omega)
/-- how many letters a name has -/
def ltN : Nat → Nat → Nat
  | 0, _ => 0
  | f + 1, x => if x = 0 then 0 else ltN f (x / 128) + 1
theorem ltN_le : ∀ f x, ltN f x ≤ f := by
  intro f
  induction f with
  | zero => intro x; exact Nat.le_refl _
  | succ f ih =>
    intro x
    show (if x = 0 then 0 else ltN f (x / 128) + 1) ≤ f + 1
    split
    · omega
    · have := ih (x / 128); omega
theorem d128 (x k : Nat) : x / 2 ^ (7 * k) / 128 = x / 2 ^ (7 * (k + 1)) := by
  rw [Nat.div_div_eq_div_mul, show 7 * (k + 1) = 7 * k + 7 by omega, Nat.pow_add]
theorem s_D_letters {x : Nat} {w : Wo} {K : Int → Wo → Prop} (hx : x < 4398046511104) (h : K (ltN 6 x : Nat) w) : MetI m_D_letters [vl (x : Int)] w K := by
  have lp : ∀ (m k : Nat), m + k = 6 → ltN 6 x = k + ltN m (x / 2 ^ (7 * k)) → Wp m_D_letters 2 [(0, vl (x : Int)), (2, vi (k : Int))] [] (0, 0) w (fun r w' => ∃ y, r = some (vi y) ∧ K y w') := by
    intro m
    induction m with
    | zero =>
      intro k hk e
      have e : ltN 6 x = k := by rw [e]; rfl
      rw [e] at h
      exact t_D_letters_2 ⟨fun _ => kI h, fun z => by omega⟩
    | succ m ih =>
      intro k hk e
      refine t_D_letters_2 ⟨fun z => by omega, fun _ => ?_⟩
      have e2 : ltN (m + 1) (x / 2 ^ (7 * k)) = if x / 2 ^ (7 * k) = 0 then 0 else ltN m (x / 2 ^ (7 * k) / 128) + 1 := rfl
      rw [show 7 * (k : Int) = ((7 * k : Nat) : Int) by omega, b_lshr_n (by omega) (by omega), lcmp0]
      refine ⟨⟨by omega, by omega⟩, fun z => ?_, fun z => ⟨⟨by omega, by omega⟩, ih (k + 1) (by omega) ?_⟩⟩
      · rw [if_pos (by omega)] at e2
        rw [e2] at e
        rw [e] at h
        exact kI h
      · rw [if_neg (by omega), d128] at e2
        rw [e, e2]; omega
  exact met_of (by decide) rfl (Nat.le_of_ble_eq_true rfl) (t_D_letters_0 (lp 6 0 rfl (by rw [Nat.mul_zero, Nat.pow_zero, Nat.div_one, Nat.zero_add])))
theorem cN_d (f x : Nat) : cN (f + 1) x / 256 = cN f (x / 128) ∧ cN (f + 1) x % 256 = x % 128 := by
  have := cN_s f (x / 128) (x % 128) (Nat.mod_lt _ (by decide))
  rw [show x / 128 * 128 + x % 128 = x by omega] at this
  rw [this]
  have := Nat.mod_lt x (show 128 > 0 by decide)
  omega
theorem cN_0 {f x : Nat} (hx : x < 128 ^ f) : cN f x = 0 ↔ x = 0 := by
  constructor
  · intro h
    exact cN_inj f x 0 hx (Nat.pow_pos (by decide)) (by rw [h, cN_z])
  · intro h; rw [h, cN_z]
theorem s_M_letters {x : Nat} {w : Wo} {K : Int → Wo → Prop} (hx : x < 4398046511104) (h : K (ltN 6 x : Nat) w) : MetI m_M_letters [vl (c8 (x : Int))] w K := by
  have lp : ∀ (f k z : Nat), f + k ≤ 6 → z < 128 ^ f → ltN 6 x = k + ltN f z → Wp m_M_letters 4 [(2, vi (k : Int)), (3, vl ((cN f z : Nat) : Int))] [] (0, 0) w (fun r w' => ∃ y, r = some (vi y) ∧ K y w') := by
    intro f
    induction f with
    | zero =>
      intro k z hk hz e
      have hz0 : z = 0 := by rw [Nat.pow_zero] at hz; omega
      have e : ltN 6 x = k := by rw [e]; rfl
      rw [e] at h
      rw [hz0]
      refine t_M_letters_4 ⟨fun _ => kI h, fun q => absurd ?_ q⟩
      show b_lcmp ((0 : Nat) : Int) 0 ≤ 0
      decide
    | succ f ih =>
      intro k z hk hz e
      have lt := cN_lt (f + 1) z
      have lt2 : 256 ^ (f + 1) ≤ 256 ^ 6 := Nat.pow_le_pow_right (by decide) (by omega)
      have c0 := cN_0 hz
      have e2 : ltN (f + 1) z = if z = 0 then 0 else ltN f (z / 128) + 1 := rfl
      refine t_M_letters_4 ⟨fun q => ?_, fun q => ⟨⟨by omega, by omega⟩, ?_⟩⟩
      · have hz0 : z = 0 := c0.mp (by
          unfold b_lcmp at q
          split at q
          · omega
          · split at q
            · omega
            · omega)
        rw [if_pos hz0] at e2
        rw [e2] at e
        rw [e] at h
        exact kI h
      · have hz0 : z ≠ 0 := fun hz0 => q (by rw [c0.mpr hz0]; decide)
        rw [if_neg hz0] at e2
        have l2 : cN (f + 1) z < 9223372036854775808 := Nat.lt_of_lt_of_le lt (Nat.le_trans lt2 (by decide))
        rw [show (8 : Int) = ((8 : Nat) : Int) from rfl, b_lshr_n l2 (by decide), show (2 : Nat) ^ 8 = 256 from rfl, (cN_d f z).1]
        exact ih (k + 1) (z / 128) (by omega) (by rw [Nat.pow_succ] at hz; omega) (by rw [e, e2]; omega)
  refine met_of (by decide) rfl (Nat.le_of_ble_eq_true rfl) (t_M_letters_0 ?_)
  exact lp 6 0 x (Nat.le_refl _) (by show x < 128 ^ 6; omega) (by omega)
theorem cN_sh : ∀ (k f x : Nat), k < f → cN f x / 256 ^ k % 256 = x / 128 ^ k % 128 := by
  intro k
  induction k with
  | zero =>
    intro f x hk
    obtain ⟨f', rfl⟩ : ∃ f', f = f' + 1 := ⟨f - 1, by omega⟩
    simp only [Nat.pow_zero, Nat.div_one]
    exact (cN_d f' x).2
  | succ k ih =>
    intro f x hk
    obtain ⟨f', rfl⟩ : ∃ f', f = f' + 1 := ⟨f - 1, by omega⟩
    have := ih f' (x / 128) (by omega)
    rw [← (cN_d f' x).1] at this
    rw [Nat.pow_succ, Nat.pow_succ, Nat.mul_comm (256 ^ k), Nat.mul_comm (128 ^ k), ← Nat.div_div_eq_div_mul, ← Nat.div_div_eq_div_mul]
    exact this

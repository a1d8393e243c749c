/-! the class keeps rules and facts -/
abbrev arR (w w1 : Wo) (q n k : Nat) (src : Nat → Int) : Prop := ∀ j, gI w1 q j = if 6 * n ≤ j ∧ j < 6 * n + k then src (j - 6 * n) else gI w q j
theorem arS {w w1 w2 : Wo} {src : Nat → Int} {q n k : Nat} (h : arR w w1 q n k src) (h' : ∀ j, gI w2 q j = if j = 6 * n + k then src k else gI w1 q j) : arR w w2 q n (k + 1) src := by
  intro j
  rw [h' j]
  by_cases e : j = 6 * n + k
  · rw [if_pos e, if_pos (by omega), show j - 6 * n = k by omega]
  · rw [if_neg e, h j]
    by_cases e2 : 6 * n ≤ j ∧ j < 6 * n + k
    · rw [if_pos e2, if_pos (by omega)]
    · rw [if_neg e2, if_neg (by omega)]
/-- the rows of one rule are laid down -/
def RlA (r n k : Nat) (w w1 : Wo) : Prop := arR w w1 (r + 6) n k (fun i => gI w (19 + 3 * i) 0) ∧ arR w w1 (r + 7) n k (fun i => gI w (19 + 3 * i) 2) ∧ arR w w1 (r + 8) n k (fun i => gI w (19 + 3 * i) 1) ∧ arR w w1 (r + 9) n k (fun i => gI w 16 i) ∧ arR w w1 (r + 10) n k (fun i => gI w 17 i) ∧ arR w w1 (r + 11) n k (fun i => gI w 18 i)
abbrev FR (r : Nat) (w w' : Wo) : Prop := Frm [r, r + 1, r + 2, r + 3, r + 4, r + 5, r + 6, r + 7, r + 8, r + 9, r + 10, r + 11] [] w w'
theorem rl_c {r : Nat} (h : isRl r) : r = 41 ∨ r = 60 := h
theorem l_Rl_add {r n sz : Nat} {w : Wo} {Q : Option AV → Wo → Prop} (hr : isRl r) (hn : gI w r 0 = (n : Nat)) (hn30 : n < 30) (hsz : gI w 9 2 = (sz : Nat)) (hs6 : sz ≤ 6) (h : ∀ w', RlA r n sz w w' → gI w' r 0 = n + 1 → (∀ q, q ≤ 5 → 1 ≤ q → ∀ j, gI w' (r + q) j = gI w (r + q) j) → FR r w w' → Q none w') : ∀ (m k : Nat) (w1 : Wo), sz - k ≤ m → k ≤ sz → RlA r n k w w1 → gI w1 r 0 = (n : Nat) → (∀ q, q ≤ 5 → 1 ≤ q → ∀ j, gI w1 (r + q) j = gI w (r + q) j) → FR r w w1 → Wp m_Rl_add 80 [(0, vr r), (1, vr 9), (2, vi (k : Int))] [] (0, 0) w1 Q := by
  have rc := rl_c hr
  intro m
  induction m with
  | zero =>
    intro k w1 hm hk hA h0 hq F
    have e : k = sz := by omega
    subst e
    have z1 : gI w1 9 2 = (k : Nat) := by rw [F.1 9 (by simp; omega)]; exact hsz
    refine t_Rl_add_80 hr ⟨fun _ => ⟨by rw [h0]; exact ⟨by omega, by omega⟩, fun w2 e2 => ?_⟩, fun z => by omega⟩
    have hne : ∀ q, 1 ≤ q → ∀ j, gI w2 (r + q) j = gI w1 (r + q) j := fun q hq j => by rw [e2, gI_uI, if_neg (by omega)]
    refine h w2 ⟨fun j => ?_, fun j => ?_, fun j => ?_, fun j => ?_, fun j => ?_, fun j => ?_⟩ ?_ (fun q h5 h1 j => ?_) ?_
    · rw [hne 6 (by decide)]; exact hA.1 j
    · rw [hne 7 (by decide)]; exact hA.2.1 j
    · rw [hne 8 (by decide)]; exact hA.2.2.1 j
    · rw [hne 9 (by decide)]; exact hA.2.2.2.1 j
    · rw [hne 10 (by decide)]; exact hA.2.2.2.2.1 j
    · rw [hne 11 (by decide)]; exact hA.2.2.2.2.2 j
    · rw [e2, gI_uI, if_pos ⟨rfl, rfl⟩, h0]
    · rw [hne q h1]; exact hq q h5 h1 j
    · rw [e2]; exact F.uI (by simp)
  | succ m ih =>
    intro k w1 hm hk hA h0 hq F
    by_cases hks : k < sz
    · have z1 : gI w1 9 2 = (sz : Nat) := by rw [F.1 9 (by simp; omega)]; exact hsz
      have k0 : ∀ (i j : Nat), i < 6 → gI w1 (19 + 3 * i) j = gI w (19 + 3 * i) j := fun i j hi => F.1 _ (by simp; omega) j
      have k16 : ∀ j, gI w1 16 j = gI w 16 j := fun j => F.1 16 (by simp; omega) j
      have k17 : ∀ j, gI w1 17 j = gI w 17 j := fun j => F.1 17 (by simp; omega) j
      have k18 : ∀ j, gI w1 18 j = gI w 18 j := fun j => F.1 18 (by simp; omega) j
      refine t_Rl_add_80 hr ⟨fun z => by omega, fun _ => ?_⟩
      rw [h0]
      have eI : ((n : Int) * 6 + (k : Int)).toNat = 6 * n + k := by omega
      rw [eI, show ((k : Int)).toNat = k from rfl]
      refine ⟨⟨by omega, by omega⟩, ⟨by omega, by omega⟩, ⟨by omega, by omega⟩, ⟨by omega, by omega⟩, fun w6 e6 => ⟨⟨by omega, by omega⟩, ⟨by omega, by omega⟩, fun w11 e11 => ⟨⟨by omega, by omega⟩, ⟨by omega, by omega⟩, fun w16 e16 => ⟨⟨by omega, by omega⟩, ⟨by omega, by omega⟩, fun w20 e20 => ⟨⟨by omega, by omega⟩, ⟨by omega, by omega⟩, fun w24 e24 => ⟨⟨by omega, by omega⟩, ⟨by omega, by omega⟩, fun w28 e28 => ⟨⟨by omega, by omega⟩, ?_⟩⟩⟩⟩⟩⟩⟩
      have d6 : gI w6 (19 + 3 * k) 2 = gI w (19 + 3 * k) 2 := by rw [e6, gI_uI, if_neg (by omega)]; exact k0 k 2 (by omega)
      have d11 : gI w11 (19 + 3 * k) 1 = gI w (19 + 3 * k) 1 := by rw [e11, gI_uI, if_neg (by omega), e6, gI_uI, if_neg (by omega)]; exact k0 k 1 (by omega)
      have d16 : gI w16 16 k = gI w 16 k := by rw [e16, gI_uI, if_neg (by omega), e11, gI_uI, if_neg (by omega), e6, gI_uI, if_neg (by omega)]; exact k16 k
      have d20 : gI w20 17 k = gI w 17 k := by rw [e20, gI_uI, if_neg (by omega), e16, gI_uI, if_neg (by omega), e11, gI_uI, if_neg (by omega), e6, gI_uI, if_neg (by omega)]; exact k17 k
      have d24 : gI w24 18 k = gI w 18 k := by rw [e24, gI_uI, if_neg (by omega), e20, gI_uI, if_neg (by omega), e16, gI_uI, if_neg (by omega), e11, gI_uI, if_neg (by omega), e6, gI_uI, if_neg (by omega)]; exact k18 k
      rw [k0 k 0 (by omega)] at e6
      rw [d6] at e11
      rw [d11] at e16
      rw [d16] at e20
      rw [d20] at e24
      rw [d24] at e28
      have up : ∀ (q j : Nat), gI w28 q j = if q = r + 11 ∧ j = 6 * n + k then gI w 18 k else if q = r + 10 ∧ j = 6 * n + k then gI w 17 k else if q = r + 9 ∧ j = 6 * n + k then gI w 16 k else if q = r + 8 ∧ j = 6 * n + k then gI w (19 + 3 * k) 1 else if q = r + 7 ∧ j = 6 * n + k then gI w (19 + 3 * k) 2 else if q = r + 6 ∧ j = 6 * n + k then gI w (19 + 3 * k) 0 else gI w1 q j := by
        intro q j
        rw [e28, gI_uI, e24, gI_uI, e20, gI_uI, e16, gI_uI, e11, gI_uI, e6, gI_uI]
      refine ih (k + 1) w28 (by omega) (by omega) ⟨arS hA.1 (fun j => ?_), arS hA.2.1 (fun j => ?_), arS hA.2.2.1 (fun j => ?_), arS hA.2.2.2.1 (fun j => ?_), arS hA.2.2.2.2.1 (fun j => ?_), arS hA.2.2.2.2.2 (fun j => ?_)⟩ ?_ (fun q h5 h1 j => ?_) ?_
      · rw [up, if_neg (by omega), if_neg (by omega), if_neg (by omega), if_neg (by omega), if_neg (by omega)]
        by_cases e : j = 6 * n + k
        · rw [if_pos ⟨rfl, e⟩, if_pos e]
        · rw [if_neg (by omega), if_neg e]
      · rw [up, if_neg (by omega), if_neg (by omega), if_neg (by omega), if_neg (by omega)]
        by_cases e : j = 6 * n + k
        · rw [if_pos ⟨rfl, e⟩, if_pos e]
        · rw [if_neg (by omega), if_neg e, if_neg (by omega)]
      · rw [up, if_neg (by omega), if_neg (by omega), if_neg (by omega)]
        by_cases e : j = 6 * n + k
        · rw [if_pos ⟨rfl, e⟩, if_pos e]
        · rw [if_neg (by omega), if_neg e, if_neg (by omega), if_neg (by omega)]
      · rw [up, if_neg (by omega), if_neg (by omega)]
        by_cases e : j = 6 * n + k
        · rw [if_pos ⟨rfl, e⟩, if_pos e]
        · rw [if_neg (by omega), if_neg e, if_neg (by omega), if_neg (by omega), if_neg (by omega)]
      · rw [up, if_neg (by omega)]
        by_cases e : j = 6 * n + k
        · rw [if_pos ⟨rfl, e⟩, if_pos e]
        · rw [if_neg (by omega), if_neg e, if_neg (by omega), if_neg (by omega), if_neg (by omega), if_neg (by omega)]
      · rw [up]
        by_cases e : j = 6 * n + k
        · rw [if_pos ⟨rfl, e⟩, if_pos e]
        · rw [if_neg (by omega), if_neg e, if_neg (by omega), if_neg (by omega), if_neg (by omega), if_neg (by omega), if_neg (by omega)]
      · rw [up, if_neg (by omega), if_neg (by omega), if_neg (by omega), if_neg (by omega), if_neg (by omega), if_neg (by omega)]; exact h0
      · rw [up, if_neg (by omega), if_neg (by omega), if_neg (by omega), if_neg (by omega), if_neg (by omega), if_neg (by omega)]; exact hq q h5 h1 j
      · rw [e28, e24, e20, e16, e11, e6]
        exact (((((F.uI (by simp)).uI (by simp)).uI (by simp)).uI (by simp)).uI (by simp)).uI (by simp)
    · exact ih k w1 (by omega) hk hA h0 hq F
theorem s_Rl_add {r n sz : Nat} {w : Wo} {K : Wo → Prop} (hr : isRl r) (hn : gI w r 0 = (n : Nat)) (hn30 : n < 30) (hsz : gI w 9 2 = (sz : Nat)) (hs6 : sz ≤ 6) (h : ∀ w', RlA r n sz w w' → gI w' r 0 = n + 1 → (∀ q, q ≤ 5 → 1 ≤ q → ∀ j, gI w' (r + q) j = if j = n then (if q = 1 then gI w 10 2 else if q = 2 then gI w 9 2 else if q = 3 then gI w 9 6 else if q = 4 then gI w 9 4 else gI w 9 5) else gI w (r + q) j) → FR r w w' → K w') : MetV m_Rl_add [vr r, vr 9] w K := by
  have rc := rl_c hr
  refine met_of (by decide) rfl (Nat.le_of_ble_eq_true rfl) (t_Rl_add_0 hr ?_)
  rw [hn, show ((n : Int)).toNat = n from rfl]
  refine ⟨fun _ => ⟨⟨by omega, by omega⟩, fun w2 e2 => ?_⟩, fun z => by omega⟩
  have n2 : gI w2 r 0 = (n : Nat) := by rw [e2, gI_uI, if_neg (by omega)]; exact hn
  rw [n2, show ((n : Int)).toNat = n from rfl]
  have a2 : gI w2 9 2 = gI w 9 2 := by rw [e2, gI_uI, if_neg (by omega)]
  rw [a2]
  refine ⟨⟨by omega, by omega⟩, fun w5 e5 => ?_⟩
  have n5 : gI w5 r 0 = (n : Nat) := by rw [e5, gI_uI, if_neg (by omega)]; exact n2
  have a5 : gI w5 9 6 = gI w 9 6 := by rw [e5, gI_uI, if_neg (by omega), e2, gI_uI, if_neg (by omega)]
  rw [n5, a5, show ((n : Int)).toNat = n from rfl]
  refine ⟨⟨by omega, by omega⟩, fun w8 e8 => ?_⟩
  have n8 : gI w8 r 0 = (n : Nat) := by rw [e8, gI_uI, if_neg (by omega)]; exact n5
  have a8 : gI w8 9 4 = gI w 9 4 := by rw [e8, gI_uI, if_neg (by omega), e5, gI_uI, if_neg (by omega), e2, gI_uI, if_neg (by omega)]
  rw [n8, a8, show ((n : Int)).toNat = n from rfl]
  refine ⟨⟨by omega, by omega⟩, fun w11 e11 => ?_⟩
  have n11 : gI w11 r 0 = (n : Nat) := by rw [e11, gI_uI, if_neg (by omega)]; exact n8
  have a11 : gI w11 9 5 = gI w 9 5 := by rw [e11, gI_uI, if_neg (by omega), e8, gI_uI, if_neg (by omega), e5, gI_uI, if_neg (by omega), e2, gI_uI, if_neg (by omega)]
  rw [n11, a11, show ((n : Int)).toNat = n from rfl]
  refine ⟨⟨by omega, by omega⟩, fun w14 e14 => ?_⟩
  have n14 : gI w14 r 0 = (n : Nat) := by rw [e14, gI_uI, if_neg (by omega)]; exact n11
  have up : ∀ (q j : Nat), gI w14 q j = if q = r + 5 ∧ j = n then gI w 9 5 else if q = r + 4 ∧ j = n then gI w 9 4 else if q = r + 3 ∧ j = n then gI w 9 6 else if q = r + 2 ∧ j = n then gI w 9 2 else if q = r + 1 ∧ j = n then gI w 10 2 else gI w q j := by
    intro q j
    rw [e14, gI_uI, e11, gI_uI, e8, gI_uI, e5, gI_uI, e2, gI_uI]
  have F14 : FR r w w14 := by
    rw [e14, e11, e8, e5, e2]
    exact ((((Frm.rf.uI (by simp)).uI (by simp)).uI (by simp)).uI (by simp)).uI (by simp)
  have s14 : gI w14 9 2 = (sz : Nat) := by rw [F14.1 9 (by simp; omega)]; exact hsz
  have f6 : ∀ (q j : Nat), 6 ≤ q → gI w14 (r + q) j = gI w (r + q) j := by
    intro q j hq
    rw [up, if_neg (by omega), if_neg (by omega), if_neg (by omega), if_neg (by omega), if_neg (by omega)]
  have fl : ∀ (i j : Nat), i < 6 → gI w14 (19 + 3 * i) j = gI w (19 + 3 * i) j := fun i j hi => F14.1 _ (by simp; omega) j
  have fo : ∀ o, o = 16 ∨ o = 17 ∨ o = 18 → ∀ j, gI w14 o j = gI w o j := fun o ho j => F14.1 o (by simp; omega) j
  have h0A : RlA r n 0 w14 w14 := ⟨fun j => by rw [if_neg (by omega)], fun j => by rw [if_neg (by omega)], fun j => by rw [if_neg (by omega)], fun j => by rw [if_neg (by omega)], fun j => by rw [if_neg (by omega)], fun j => by rw [if_neg (by omega)]⟩
  refine l_Rl_add (n := n) (sz := sz) (w := w14) hr n14 hn30 s14 hs6 (fun w' A' N' q' F' => ⟨rfl, ?_⟩) sz 0 w14 (by omega) (Nat.zero_le _) h0A n14 (fun q _ _ j => rfl) Frm.rf
  refine h w' ⟨fun j => ?_, fun j => ?_, fun j => ?_, fun j => ?_, fun j => ?_, fun j => ?_⟩ N' (fun q h5 h1 j => ?_) (F14.tr F')
  · rw [A'.1 j]
    by_cases e : 6 * n ≤ j ∧ j < 6 * n + sz
    · rw [if_pos e, if_pos e]; exact fl _ _ (by omega)
    · rw [if_neg e, if_neg e]; exact f6 6 j (by decide)
  · rw [A'.2.1 j]
    by_cases e : 6 * n ≤ j ∧ j < 6 * n + sz
    · rw [if_pos e, if_pos e]; exact fl _ _ (by omega)
    · rw [if_neg e, if_neg e]; exact f6 7 j (by decide)
  · rw [A'.2.2.1 j]
    by_cases e : 6 * n ≤ j ∧ j < 6 * n + sz
    · rw [if_pos e, if_pos e]; exact fl _ _ (by omega)
    · rw [if_neg e, if_neg e]; exact f6 8 j (by decide)
  · rw [A'.2.2.2.1 j]
    by_cases e : 6 * n ≤ j ∧ j < 6 * n + sz
    · rw [if_pos e, if_pos e]; exact fo 16 (by decide) _
    · rw [if_neg e, if_neg e]; exact f6 9 j (by decide)
  · rw [A'.2.2.2.2.1 j]
    by_cases e : 6 * n ≤ j ∧ j < 6 * n + sz
    · rw [if_pos e, if_pos e]; exact fo 17 (by decide) _
    · rw [if_neg e, if_neg e]; exact f6 10 j (by decide)
  · rw [A'.2.2.2.2.2 j]
    by_cases e : 6 * n ≤ j ∧ j < 6 * n + sz
    · rw [if_pos e, if_pos e]; exact fo 18 (by decide) _
    · rw [if_neg e, if_neg e]; exact f6 11 j (by decide)
  · rw [q' q h5 h1 j, up]
    have hq : q = 1 ∨ q = 2 ∨ q = 3 ∨ q = 4 ∨ q = 5 := by omega
    by_cases e : j = n
    · rw [if_pos e]
      rcases hq with rfl | rfl | rfl | rfl | rfl
      · rw [if_neg (by omega), if_neg (by omega), if_neg (by omega), if_neg (by omega), if_pos ⟨rfl, e⟩, if_pos rfl]
      · rw [if_neg (by omega), if_neg (by omega), if_neg (by omega), if_pos ⟨rfl, e⟩, if_neg (by decide), if_pos rfl]
      · rw [if_neg (by omega), if_neg (by omega), if_pos ⟨rfl, e⟩, if_neg (by decide), if_neg (by decide), if_pos rfl]
      · rw [if_neg (by omega), if_pos ⟨rfl, e⟩, if_neg (by decide), if_neg (by decide), if_neg (by decide), if_pos rfl]
      · rw [if_pos ⟨rfl, e⟩, if_neg (by decide), if_neg (by decide), if_neg (by decide), if_neg (by decide)]
    · rw [if_neg e, if_neg (by omega), if_neg (by omega), if_neg (by omega), if_neg (by omega), if_neg (by omega)]
/-- one fact the same as the one in literal l -/
def sameF (w : Wo) (l i : Nat) (sz : Nat) : Prop := ∀ k, k < sz → gJ w 39 (4 * i + k) = gJ w (l + 1) k
theorem s_Fc_isSame {l i sz : Nat} {w : Wo} {K : Int → Wo → Prop} (hl : isLt l) (hi : i < 120) (hsz : gI w l 4 = (sz : Nat)) (h4 : sz ≤ 4) (h1 : sameF w l i sz → K 1 w) (h0 : ¬ sameF w l i sz → K 0 w) : MetI m_Fc_isSame [vr 37, vi (i : Int), vr l] w K := by
  have lp : ∀ (m k : Nat), sz - k ≤ m → k ≤ sz → (∀ j, j < k → gJ w 39 (4 * i + j) = gJ w (l + 1) j) → Wp m_Fc_isSame 2 [(0, vr 37), (1, vi (i : Int)), (2, vr l), (3, vi (k : Int))] [] (0, 0) w (fun r w' => ∃ y, r = some (vi y) ∧ K y w') := by
    intro m
    induction m with
    | zero =>
      intro k hm hk hj
      have e : k = sz := by omega
      subst e
      exact t_Fc_isSame_2 hl ⟨fun _ => kI (h1 hj), fun z => by omega⟩
    | succ m ih =>
      intro k hm hk hj
      by_cases hks : k < sz
      · refine t_Fc_isSame_2 hl ⟨fun z => by omega, fun _ => ⟨⟨by omega, by omega⟩, ⟨by omega, by omega⟩, ⟨by omega, by omega⟩, ⟨by omega, by omega⟩, ?_⟩⟩
        rw [show ((i : Int) * 4 + (k : Int)).toNat = 4 * i + k by omega, show ((k : Int)).toNat = k from rfl, lcmp0]
        refine ⟨fun z => ⟨⟨by omega, by omega⟩, ih (k + 1) (by omega) (by omega) (fun j hj2 => ?_)⟩, fun z => kI (h0 (fun q => z (q k hks)))⟩
        by_cases e : j = k
        · rw [e]; exact z
        · exact hj j (by omega)
      · exact ih k (by omega) hk hj
  exact met_of (by decide) rfl (Nat.le_of_ble_eq_true rfl) (t_Fc_isSame_0 hl (lp sz 0 (by omega) (Nat.zero_le _) (fun j hj => by omega)))
theorem s_Fc_add {l n sz : Nat} {w : Wo} {K : Int → Wo → Prop} (hl : isLt l) (hn : gI w 37 2 = (n : Nat)) (hn1 : n < 120) (hsz : gI w l 4 = (sz : Nat)) (h4 : sz ≤ 4) (h0 : (∃ i, i < n ∧ gI w 38 i = gI w l 2 ∧ sameF w l i sz) → K 0 w) (h1 : ¬ (∃ i, i < n ∧ gI w 38 i = gI w l 2 ∧ sameF w l i sz) → ∀ w', gI w' 37 2 = n + 1 → (∀ j, gI w' 38 j = if j = n then gI w l 2 else gI w 38 j) → (∀ j, gJ w' 39 j = if 4 * n ≤ j ∧ j < 4 * n + sz then gJ w (l + 1) (j - 4 * n) else gJ w 39 j) → Frm [37, 38] [39] w w' → K 1 w') : MetI m_Fc_add [vr 37, vr l] w K := by
  have lc := lt_c hl
  have lp : ∀ (m k : Nat), n - k ≤ m → k ≤ n → (∀ i, i < k → ¬ (gI w 38 i = gI w l 2 ∧ sameF w l i sz)) → Wp m_Fc_add 2 [(0, vr 37), (1, vr l), (2, vi (k : Int))] [] (0, 0) w (fun r w' => ∃ y, r = some (vi y) ∧ K y w') := by
    intro m
    induction m with
    | zero =>
      intro k hm hk hj
      have e : k = n := by omega
      subst e
      refine t_Fc_add_2 hl ⟨fun _ => ⟨fun z => by omega, fun _ => ?_⟩, fun z => by omega⟩
      rw [hn, show ((k : Int)).toNat = k from rfl]
      refine ⟨⟨by omega, by omega⟩, fun w2 e2 => ?_⟩
      have n2 : gI w2 37 2 = (k : Nat) := by rw [e2, gI_uI, if_neg (by omega)]; exact hn
      have s2 : gI w2 l 4 = (sz : Nat) := by rw [e2, gI_uI, if_neg (by omega)]; exact hsz
      rw [n2, s2, show ((k : Int) * 4).toNat = 4 * k by omega, show ((sz : Int)).toNat = sz from rfl]
      refine ⟨⟨by omega, by omega⟩, ⟨by omega, by omega, by omega, by omega, by omega⟩, fun w4 e4 => ?_⟩
      have n4 : gI w4 37 2 = (k : Nat) := by rw [e4]; exact n2
      rw [n4]
      refine ⟨⟨by omega, by omega⟩, fun w6 e6 => kI (h1 (fun ⟨i, q1, q2⟩ => hj i q1 q2) w6 ?_ (fun j => ?_) (fun j => ?_) ⟨fun o ho j => ?_, fun o ho j => ?_, fun o j => ?_⟩)⟩
      · rw [e6, gI_uI, if_pos ⟨rfl, rfl⟩]
      · rw [e6, gI_uI, if_neg (by omega), e4]
        show gI w2 38 j = _
        rw [e2, gI_uI]
        by_cases hjk : j = k
        · rw [if_pos ⟨rfl, hjk⟩, if_pos hjk]
        · rw [if_neg (by omega), if_neg hjk]
      · rw [e6, gJ_uI, e4]
        show (if 39 = 39 ∧ 4 * k ≤ j ∧ j < 4 * k + sz then gJ w2 (l + 1) (0 + (j - 4 * k)) else gJ w2 39 j) = _
        by_cases hc : 4 * k ≤ j ∧ j < 4 * k + sz
        · rw [if_pos ⟨rfl, hc⟩, if_pos hc, Nat.zero_add, e2, gJ_uI]
        · rw [if_neg (fun q => hc q.2), if_neg hc, e2, gJ_uI]
      · simp only [List.mem_cons, List.not_mem_nil, not_or, or_false] at ho
        rw [e6, gI_uI, if_neg (fun q => ho.1 q.1), e4]
        show gI w2 o j = _
        rw [e2, gI_uI, if_neg (fun q => ho.2 q.1)]
      · simp only [List.mem_cons, List.not_mem_nil, or_false] at ho
        rw [e6, gJ_uI, e4]
        show (if o = 39 ∧ 4 * k ≤ j ∧ j < 4 * k + sz then gJ w2 (l + 1) (0 + (j - 4 * k)) else gJ w2 o j) = _
        rw [if_neg (fun q => ho q.1), e2, gJ_uI]
      · rw [e6, gP_uI, e4]
        show gP w2 o j = _
        rw [e2, gP_uI]
    | succ m ih =>
      intro k hm hk hj
      by_cases hks : k < n
      · have go : ¬ (gI w 38 k = gI w l 2 ∧ sameF w l k sz) → Wp m_Fc_add 2 [(0, vr 37), (1, vr l), (2, vi ((k : Int) + 1))] [] (0, 0) w (fun r w' => ∃ y, r = some (vi y) ∧ K y w') := by
          intro hne
          refine ih (k + 1) (by omega) (by omega) (fun j hj2 => ?_)
          by_cases e : j = k
          · rw [e]; exact hne
          · exact hj j (by omega)
        refine t_Fc_add_2 hl ⟨fun z => by omega, fun _ => ⟨⟨by omega, by omega⟩, ?_⟩⟩
        rw [show ((k : Int)).toNat = k from rfl]
        refine ⟨fun z => ⟨⟨by omega, by omega⟩, go (fun q => z q.1)⟩, fun z => s_Fc_isSame hl (by omega) hsz h4 (fun hs => ⟨fun q => absurd q (by decide), fun _ => kI (h0 ⟨k, hks, z, hs⟩)⟩) (fun hs => ⟨fun _ => ⟨⟨by omega, by omega⟩, go (fun q => hs q.2)⟩, fun q => absurd rfl q⟩)⟩
      · exact ih k (by omega) hk hj
  exact met_of (by decide) rfl (Nat.le_of_ble_eq_true rfl) (t_Fc_add_0 hl (lp n 0 (by omega) (Nat.zero_le _) (fun j hj => by omega)))

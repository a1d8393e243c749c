/-! what is bound: the plan's end, and the reference's closure -/
def sle (a b : Nat) : Prop := ∀ i, a.testBit i = true → b.testBit i = true
theorem sub_mono {t : Int} {a b : Nat} (h : sle a b) (hs : sub t a = true) : sub t b = true := by
  unfold sub at hs ⊢
  split
  · rename_i hc
    rw [if_pos hc] at hs
    exact h _ hs
  · rfl
theorem canL_mono {L : Lit} {a b : Nat} (h : sle a b) (hs : canL L a = true) : canL L b = true := by
  unfold canL at hs ⊢
  split
  · rename_i hc
    rw [if_pos hc] at hs
    rw [List.all_eq_true] at hs ⊢
    exact fun t ht => sub_mono h (hs t ht)
  · rename_i hc
    rw [if_neg hc] at hs
    rw [Bool.or_eq_true] at hs ⊢
    rcases hs with hs | hs
    · exact Or.inl (sub_mono h hs)
    · exact Or.inr (sub_mono h hs)
theorem vbN_sle {t : Int} {D : Nat} : sle (vbN t) D ↔ sub t D = true := by
  rw [← sub_andn, andn0]; rfl
theorem vmA_sle {ar : List Int} {D : Nat} : sle (vmA ar) D ↔ ∀ t ∈ ar, sub t D = true := by
  rw [← List.all_eq_true (p := fun t => sub t D), ← vmA_andn, andn0]; rfl
theorem or_sle {a b D : Nat} (h1 : sle a D) (h2 : sle b D) : sle (a ||| b) D := fun i hi => by
  rw [Nat.testBit_or, Bool.or_eq_true] at hi
  rcases hi with hi | hi
  · exact h1 i hi
  · exact h2 i hi
theorem sle_l {a b : Nat} : sle a (a ||| b) := fun i hi => by rw [Nat.testBit_or, hi]; rfl
theorem sle_r {a b : Nat} : sle b (a ||| b) := fun i hi => by rw [Nat.testBit_or, hi, Bool.or_true]
theorem sle.trans {a b c : Nat} (h1 : sle a b) (h2 : sle b c) : sle a c := fun i hi => h2 i (h1 i hi)
def clsd (ls : List Lit) (D : Nat) : Prop := ∀ L ∈ ls, (L.1 = 0 ∨ canL L D = true) → ∀ t ∈ L.2.2.2.2, sub t D = true
theorem nxt_kind {ls : List Lit} {left hv : Nat} (h : ¬ nxt ls left hv < 0) : (ls.getD (nxt ls left hv).toNat dfL).1 = 0 ∨ canL (ls.getD (nxt ls left hv).toNat dfL) hv = true := by
  have fs := fT_spec (p := tAt ls left hv) ls.length
  have bs := bA_spec (g := gAt ls left hv) (fun i => gAt_rng) ls.length
  by_cases hc : fT (tAt ls left hv) ls.length < ls.length
  · have e : nxt ls left hv = ((fT (tAt ls left hv) ls.length : Nat) : Int) := if_pos hc
    have := fs.2.1 hc
    rw [e]
    unfold tAt at this
    rw [Bool.and_eq_true] at this
    exact Or.inr this.2
  · have e : nxt ls left hv = (bA (gAt ls left hv) ls.length).1 := if_neg hc
    rcases bs.1 with q | ⟨j, q1, q2, q3, q4⟩
    · omega
    · rw [e, q2]
      refine Or.inl ?_
      unfold gAt at q4
      by_cases hj : left.testBit j = true ∧ (ls.getD j dfL).1 = 0
      · exact hj.2
      · rw [if_neg hj] at q4; omega
theorem plan_sle {ls : List Lit} {D : Nat} (h : clsd ls D) : ∀ k, sle (plan ls k).1 D := by
  intro k
  induction k with
  | zero => intro i hi; rw [show (plan ls 0).1 = 0 from rfl, Nat.zero_testBit] at hi; cases hi
  | succ k ih =>
    rw [plan]
    split
    · exact ih
    · rename_i hn
      refine or_sle ih ?_
      rw [vmA_sle]
      rcases nxt_rng (ls := ls) (left := (plan ls k).2.1) (hv := (plan ls k).1) with e | ⟨e1, e2, e3⟩
      · omega
      · have hg := getD_at (ls := ls) (i := (nxt ls (plan ls k).2.1 (plan ls k).1).toNat) (by omega)
        refine h _ (List.mem_of_getElem? hg) ?_
        rcases nxt_kind hn with q | q
        · exact Or.inl q
        · exact Or.inr (canL_mono ih q)
theorem plan_took {ls : List Lit} : ∀ k i, i < ls.length → (plan ls k).2.1.testBit i = false → ∀ t ∈ (ls.getD i dfL).2.2.2.2, sub t (plan ls k).1 = true := by
  intro k
  induction k with
  | zero =>
    intro i hi hb
    have hb : (2 ^ ls.length - 1).testBit i = false := hb
    rw [Nat.testBit_two_pow_sub_one, decide_eq_true hi] at hb
    cases hb
  | succ k ih =>
    intro i hi hb
    rw [plan] at hb ⊢
    split at hb
    · rename_i hn
      rw [if_pos hn]
      exact ih i hi hb
    · rename_i hn
      rw [if_neg hn]
      have hb : (andn (plan ls k).2.1 (2 ^ (nxt ls (plan ls k).2.1 (plan ls k).1).toNat)).testBit i = false := hb
      intro t ht
      show sub t ((plan ls k).1 ||| vmA (ls.getD (nxt ls (plan ls k).2.1 (plan ls k).1).toNat dfL).2.2.2.2) = true
      by_cases e : (nxt ls (plan ls k).2.1 (plan ls k).1).toNat = i
      · rw [e]
        exact sub_mono sle_r (vmA_sle.mp (fun _ z => z) t ht)
      · rw [andn_bit, Nat.testBit_two_pow_of_ne e] at hb
        have hb : (plan ls k).2.1.testBit i = false := by simpa using hb
        exact sub_mono sle_l (ih i hi hb t ht)
theorem plan_adv {ls : List Lit} : ∀ k, (plan ls k).2.2.length = k ∨ nxt ls (plan ls k).2.1 (plan ls k).1 < 0 := by
  intro k
  induction k with
  | zero => exact Or.inl rfl
  | succ k ih =>
    by_cases hn : nxt ls (plan ls k).2.1 (plan ls k).1 < 0
    · refine Or.inr ?_
      rw [plan, if_pos hn]; exact hn
    · rcases ih with ih | ih
      · refine Or.inl ?_
        rw [plan, if_neg hn]
        show ((plan ls k).2.2 ++ [_]).length = k + 1
        rw [List.length_append]
        show (plan ls k).2.2.length + 1 = k + 1
        omega
      · exact absurd ih hn
theorem plan_cl (ls : List Lit) : clsd ls (plan ls ls.length).1 := by
  intro L hL hk
  obtain ⟨i, hi⟩ := List.getElem?_of_mem hL
  have hlt := (List.getElem?_eq_some_iff.mp hi).1
  have eL : ls.getD i dfL = L := by rw [List.getD_eq_getElem?_getD, hi]; rfl
  cases hb : (plan ls ls.length).2.1.testBit i with
  | false =>
    have := plan_took ls.length i hlt hb
    rw [eL] at this
    exact this
  | true =>
    exfalso
    have hc := plan_cnt (ls := ls) ls.length
    have hpos : 1 ≤ cnt (fun j => (plan ls ls.length).2.1.testBit j) ls.length := by
      have := cnt_str (p := fun _ => false) (q := fun j => (plan ls ls.length).2.1.testBit j) (j := i) rfl hb ls.length hlt (fun _ _ q => by cases q)
      omega
    have hn : nxt ls (plan ls ls.length).2.1 (plan ls ls.length).1 < 0 := by
      rcases plan_adv (ls := ls) ls.length with q | q
      · omega
      · exact q
    unfold nxt at hn
    by_cases h0 : L.1 = 0
    · split at hn
      · omega
      · have bs := bA_spec (g := gAt ls (plan ls ls.length).2.1 (plan ls ls.length).1) (fun i => gAt_rng) ls.length
        have h2 := bs.2.1 i hlt
        have h3 : 0 ≤ gAt ls (plan ls ls.length).2.1 (plan ls ls.length).1 i := by
          unfold gAt
          rw [if_pos ⟨hb, by rw [eL]; exact h0⟩]
          omega
        rcases bs.1 with q | ⟨j, q1, q2, q3, q4⟩
        · omega
        · omega
    · have hcan : canL L (plan ls ls.length).1 = true := by
        rcases hk with q | q
        · exact absurd q h0
        · exact q
      have ht : tAt ls (plan ls ls.length).2.1 (plan ls ls.length).1 i = true := by
        unfold tAt
        rw [hb, eL, hcan, decide_eq_true h0]
        rfl
      have fs := fT_spec (p := tAt ls (plan ls ls.length).2.1 (plan ls ls.length).1) ls.length
      by_cases hlt2 : fT (tAt ls (plan ls ls.length).2.1 (plan ls ls.length).1) ls.length < ls.length
      · rw [if_pos hlt2] at hn; omega
      · have := fs.2.2 i (by omega)
        rw [ht] at this
        cases this
/-- a closed set that lies in every closed set is the plan's end -/
theorem plan_end {ls : List Lit} {B : Nat} (h1 : clsd ls B) (h2 : ∀ D, clsd ls D → sle B D) (i : Nat) : (plan ls ls.length).1.testBit i = B.testBit i := by
  have a := plan_sle h1 ls.length i
  have b := h2 _ (plan_cl ls) i
  cases e1 : (plan ls ls.length).1.testBit i with
  | true => exact (a e1).symm
  | false =>
    cases e2 : B.testBit i with
    | false => rfl
    | true => rw [b e2] at e1; cases e1
def BdM (B : Nat) (w : Wo) : Prop := ∀ v, v < 9 → gI w 105 v = b01 (B.testBit v)
theorem l2i8 : ∀ n : Nat, n < 8 → b_l2i (n : Int) = (n : Int) := by decide +kernel
theorem rk_c {t : Int} (h : tmOK t) : (rk t = 2 ∧ t = 4503599627370496 ∧ sub t 0 = true) ∨ (rk t = 1 ∧ 281474976710656 ≤ t ∧ t < 281474976710664 ∧ rv t = (((t - 281474976710656).toNat : Nat) : Int) ∧ (t - 281474976710656).toNat < 8 ∧ (∀ B, sub t B = B.testBit (t - 281474976710656).toNat) ∧ vbN t = 2 ^ (t - 281474976710656).toNat) ∨ (rk t = 0 ∧ t < 281474976710656 ∧ (∀ B, sub t B = true) ∧ vbN t = 0) := by
  unfold tmOK at h
  by_cases c1 : t = 4503599627370496
  · refine Or.inl ⟨?_, c1, ?_⟩
    · unfold rk; rw [if_pos c1]
    · unfold sub; rw [if_neg (by omega)]
  · by_cases c2 : 281474976710656 ≤ t
    · refine Or.inr (Or.inl ⟨?_, c2, by omega, ?_, by omega, fun B => ?_, ?_⟩)
      · unfold rk; rw [if_neg c1, if_pos c2]
      · unfold rv; rw [if_pos c2]; omega
      · unfold sub; rw [if_pos (by omega)]
      · unfold vbN; rw [if_pos (by omega)]
    · refine Or.inr (Or.inr ⟨?_, by omega, fun B => ?_, ?_⟩)
      · unfold rk; rw [if_neg c1, if_neg c2]
      · unfold sub; rw [if_neg (by omega)]
      · unfold vbN; rw [if_neg (by omega)]
theorem s_M_isBound {l k B : Nat} {t : Int} {w : Wo} {K : Int → Wo → Prop} (hl : l < 366) (hk : k < 4) (ht : tmOK t) (hT : TmM l k t w) (hB : BdM B w) (h : K (b01 (kno t B)) w) : MetI m_M_isBound [vr 78, vi (l : Int), vi (k : Int)] w K := by
  refine met_of (by decide) rfl (Nat.le_of_ble_eq_true rfl) (t_M_isBound_0 ?_)
  rw [show (4 * (l : Int) + (k : Int)).toNat = 4 * l + k by omega, hT.1]
  have c1 : inr32 (4 * (l : Int)) := ⟨by omega, by omega⟩
  have c2 : inr32 (4 * (l : Int) + (k : Int)) := ⟨by omega, by omega⟩
  have c3 : 0 ≤ 4 * (l : Int) + (k : Int) ∧ 4 * (l : Int) + (k : Int) < 1464 := ⟨by omega, by omega⟩
  rcases rk_c ht with ⟨r1, r2, r3⟩ | ⟨r1, r2, r3, r4, r5, r6, r7⟩ | ⟨r1, r2, r3, r4⟩
  · rw [r1]
    have e : kno t B = false := by unfold kno; rw [decide_eq_false (fun q => q r2)]; rfl
    rw [e] at h
    exact ⟨c1, c2, c3, fun z => absurd z (by decide), fun _ => ⟨c1, c2, c3, fun _ => kI h, fun z => absurd z (by decide)⟩⟩
  · rw [hT.2 (by omega), r4, l2i8 _ r5, r1]
    have e : kno t B = B.testBit (t - 281474976710656).toNat := by unfold kno; rw [decide_eq_true (show t ≠ ANYT by show t ≠ 4503599627370496; omega), r6]; rfl
    rw [e] at h
    rw [show (((t - 281474976710656).toNat : Nat) : Int).toNat = (t - 281474976710656).toNat from rfl, hB _ (by omega)]
    refine ⟨c1, c2, c3, fun z => absurd z (by decide), fun _ => ⟨c1, c2, c3, fun z => absurd rfl z, fun _ => ⟨c1, c2, c3, ⟨by omega, by omega⟩, fun z => ?_, fun z => ?_⟩⟩⟩
    · rw [z] at h; exact kI h
    · cases eb : B.testBit (t - 281474976710656).toNat with
      | true => rw [eb] at h; exact kI h
      | false => rw [eb] at z; exact absurd rfl z
  · rw [r1]
    have e : kno t B = true := by unfold kno; rw [decide_eq_true (show t ≠ ANYT by show t ≠ 4503599627370496; omega), r3]; rfl
    rw [e] at h
    exact ⟨c1, c2, c3, fun _ => kI h, fun z => absurd rfl z⟩
def o5 : OkF := fun o _ => o = 105
theorem s_M_bind {l k B : Nat} {t : Int} {w : Wo} {K : Wo → Prop} (hl : l < 366) (hk : k < 4) (ht : tmOK t) (hT : TmM l k t w) (hB : BdM B w) (h : ∀ w', BdM (B ||| vbN t) w' → FX o5 o0 w w' → K w') : MetV m_M_bind [vr 78, vi (l : Int), vi (k : Int)] w K := by
  refine met_of (by decide) rfl (Nat.le_of_ble_eq_true rfl) (t_M_bind_0 ?_)
  rw [show (4 * (l : Int) + (k : Int)).toNat = 4 * l + k by omega, hT.1]
  have c1 : inr32 (4 * (l : Int)) := ⟨by omega, by omega⟩
  have c2 : inr32 (4 * (l : Int) + (k : Int)) := ⟨by omega, by omega⟩
  have c3 : 0 ≤ 4 * (l : Int) + (k : Int) ∧ 4 * (l : Int) + (k : Int) < 1464 := ⟨by omega, by omega⟩
  rcases rk_c ht with ⟨r1, r2, r3⟩ | ⟨r1, r2, r3, r4, r5, r6, r7⟩ | ⟨r1, r2, r3, r4⟩
  · rw [r1]
    have e : vbN t = 0 := by unfold vbN; rw [if_neg (by omega)]
    rw [e, Nat.or_zero] at h
    exact ⟨c1, c2, c3, fun _ => ⟨rfl, h w hB FX.rf⟩, fun z => absurd z (by decide)⟩
  · rw [hT.2 (by omega), r4, l2i8 _ r5, r1]
    rw [show (((t - 281474976710656).toNat : Nat) : Int).toNat = (t - 281474976710656).toNat from rfl]
    refine ⟨c1, c2, c3, fun z => absurd rfl z, fun _ => ⟨c1, c2, c3, ⟨by omega, by omega⟩, fun w4 e4 => ⟨rfl, h w4 (fun v hv => ?_) (by rw [e4]; exact FX.rf.uI rfl)⟩⟩⟩
    rw [e4, gI_uI, Nat.testBit_or, r7]
    by_cases ev : v = (t - 281474976710656).toNat
    · rw [if_pos ⟨rfl, ev⟩, ev, Nat.testBit_two_pow_self, Bool.or_true]; rfl
    · rw [if_neg (fun q => ev q.2), Nat.testBit_two_pow_of_ne (fun q => ev q.symm), Bool.or_false]; exact hB v hv
  · rw [r1]
    rw [r4, Nat.or_zero] at h
    exact ⟨c1, c2, c3, fun _ => ⟨rfl, h w hB FX.rf⟩, fun z => absurd z (by decide)⟩

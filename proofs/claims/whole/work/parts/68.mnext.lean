/-! the reference's plan: its leaves -/
def HsM (hv : Nat) (w : Wo) : Prop := ∀ v, v < 9 → gI w 115 v = b01 (hv.testBit v)
def TkM (left n : Nat) (w : Wo) : Prop := ∀ k, k < n → gI w 116 k = b01 (!left.testBit k)
theorem s_M_isKnownTerm {l k B : Nat} {t : Int} {w : Wo} {K : Int → Wo → Prop} (hl : l < 366) (hk : k < 4) (ht : tmOK t) (hT : TmM l k t w) (hB : HsM B w) (h : K (b01 (kno t B)) w) : MetI m_M_isKnownTerm [vr 78, vi (l : Int), vi (k : Int)] w K := by
  refine met_of (by decide) rfl (Nat.le_of_ble_eq_true rfl) (t_M_isKnownTerm_0 ?_)
  rw [show (4 * (l : Int) + (k : Int)).toNat = 4 * l + k by omega, hT.1]
  have c1 : inr32 (4 * (l : Int)) := ⟨by omega, by omega⟩
  have c2 : inr32 (4 * (l : Int) + (k : Int)) := ⟨by omega, by omega⟩
  have c3 : 0 ≤ 4 * (l : Int) + (k : Int) ∧ 4 * (l : Int) + (k : Int) < 1464 := ⟨by omega, by omega⟩
  rcases rk_c ht with ⟨r1, r2, r3⟩ | ⟨r1, r2, r3, r4, r5, r6, r7⟩ | ⟨r1, r2, r3, r4⟩
  · rw [r1]
    have e : kno t B = false := by unfold kno; rw [decide_eq_false (fun q => q r2)]; rfl
    rw [e] at h
    exact ⟨c1, c2, c3, fun z => absurd z (by decide), fun _ => ⟨c1, c2, c3, fun _ => kI h, fun z => absurd z (by decide)⟩⟩
  · rw [hT.2 (by omega), r4, l2i8 _ r5, r1]
    have e : kno t B = B.testBit (t - 281474976710656).toNat := by unfold kno; rw [decide_eq_true (show t ≠ ANYT by show t ≠ 4503599627370496; omega), r6]; rfl
    rw [e] at h
    rw [show (((t - 281474976710656).toNat : Nat) : Int).toNat = (t - 281474976710656).toNat from rfl, hB _ (by omega)]
    refine ⟨c1, c2, c3, fun z => absurd z (by decide), fun _ => ⟨c1, c2, c3, fun z => absurd rfl z, fun _ => ⟨c1, c2, c3, ⟨by omega, by omega⟩, fun z => ?_, fun z => ?_⟩⟩⟩
    · rw [z] at h; exact kI h
    · cases eb : B.testBit (t - 281474976710656).toNat with
      | true => rw [eb] at h; exact kI h
      | false => rw [eb] at z; exact absurd rfl z
  · rw [r1]
    have e : kno t B = true := by unfold kno; rw [decide_eq_true (show t ≠ ANYT by show t ≠ 4503599627370496; omega), r3]; rfl
    rw [e] at h
    exact ⟨c1, c2, c3, fun _ => kI h, fun z => absurd rfl z⟩
theorem or_add {a k : Nat} (h : a < 2 ^ k) : a ||| 2 ^ k = a + 2 ^ k := by
  have := Nat.two_pow_add_eq_or_of_lt h 1
  rw [Nat.mul_one] at this
  rw [Nat.or_comm, ← this, Nat.add_comm]
theorem s_M_knownIn {l B : Nat} {L : Lit} {w : Wo} {K : Int → Wo → Prop} (hl : l < 366) (hL : LiM l L w) (hA : L.1 = 0 ∨ L.1 = 1) (ho : litOK L) (hB : HsM B w) (h : K (knA L.2.2.2.2 B : Nat) w) : MetI m_M_knownIn [vr 78, vi (l : Int)] w K := by
  obtain ⟨i1, i2, i3, i4, i5, i6⟩ := hL
  have lp : ∀ (m k : Nat), L.2.2.2.2.length - k ≤ m → k ≤ L.2.2.2.2.length → Wp m_M_knownIn 4 [(0, vr 78), (1, vi (l : Int)), (2, vi ((knA (L.2.2.2.2.take k) B : Nat) : Int)), (3, vi (k : Int))] [] (0, 0) w (fun r w' => ∃ y, r = some (vi y) ∧ K y w') := by
    intro m
    induction m with
    | zero =>
      intro k hm hk
      have e : k = L.2.2.2.2.length := by omega
      refine t_M_knownIn_4 ?_
      rw [show ((l : Int)).toNat = l from rfl, (i3 hA).2]
      rw [e, List.take_length]
      exact ⟨⟨by omega, by omega⟩, fun _ => kI h, fun z => by omega⟩
    | succ m ih =>
      intro k hm hk
      by_cases hkl : k < L.2.2.2.2.length
      · have ht := getD_in hkl
        have hkn := knA_lt (L.2.2.2.2.take k) B
        have hlen : (L.2.2.2.2.take k).length = k := by rw [List.length_take]; omega
        rw [hlen] at hkn
        have hp : 2 ^ k ≤ 8 := Nat.le_trans (Nat.pow_le_pow_right (n := 2) (by decide) (show k ≤ 3 by omega)) (by decide)
        have happ := knA_app (L.2.2.2.2.take k) (L.2.2.2.2.getD k 0) B
        rw [← take_s ht, hlen] at happ
        refine t_M_knownIn_4 ?_
        rw [show ((l : Int)).toNat = l from rfl, (i3 hA).2]
        refine ⟨⟨by omega, by omega⟩, fun z => by omega, fun _ => s_M_isKnownTerm hl (by omega) (ho.1 _ (List.mem_of_getElem? ht)) (i6 k _ ht) hB ⟨fun z => ⟨⟨by omega, by omega⟩, ?_⟩, fun z => ⟨⟨by omega, by omega⟩, ?_⟩⟩⟩
        · have e : kno (L.2.2.2.2.getD k 0) B = false := b01_0.mp z
          rw [e, if_neg (by decide)] at happ
          have happ : knA (L.2.2.2.2.take (k + 1)) B = knA (L.2.2.2.2.take k) B := happ
          rw [show (0 : Int) = ((0 : Nat) : Int) from rfl, b_ior_n (by omega) (by decide), Nat.or_zero, ← happ]
          exact ih (k + 1) (by omega) (by omega)
        · have e : kno (L.2.2.2.2.getD k 0) B = true := by
            cases q : kno (L.2.2.2.2.getD k 0) B with
            | true => rfl
            | false => rw [q] at z; exact absurd rfl z
          rw [e, if_pos rfl] at happ
          rw [b_ishl_1 k (by omega), b_ior_n (by omega) (by omega), or_add hkn, ← happ]
          exact ih (k + 1) (by omega) (by omega)
      · exact ih k (by omega) hk
  exact met_of (by decide) rfl (Nat.le_of_ble_eq_true rfl) (t_M_knownIn_0 (lp L.2.2.2.2.length 0 (by omega) (Nat.zero_le _)))
def pcF : Nat → Nat → Nat
  | 0, _ => 0
  | f + 1, x => x % 2 + pcF f (x / 2)
theorem pcF_z : ∀ f, pcF f 0 = 0 := by
  intro f
  induction f with
  | zero => rfl
  | succ f ih => show 0 % 2 + pcF f (0 / 2) = 0; rw [Nat.zero_div, ih]
theorem pcF_popc : ∀ x, x < 16 → pcF 4 x = popc x := by decide +kernel
theorem popc_add : ∀ hv, hv < 256 → ∀ v, v < 8 → hv.testBit v = false → popc (hv ||| 2 ^ v) = popc hv + 1 := by decide +kernel
theorem s_M_many {x : Nat} {w : Wo} {K : Int → Wo → Prop} (hx : x < 16) (h : K (popc x : Nat) w) : MetI m_M_many [vi (x : Int)] w K := by
  rw [← pcF_popc x hx] at h
  have lp : ∀ (f k y : Nat), f + 4 ≤ 8 → y < 2 ^ f → k ≤ 4 - f → k + pcF f y = pcF 4 x → Wp m_M_many 4 [(1, vi (k : Int)), (2, vi (y : Int))] [] (0, 0) w (fun r w' => ∃ y, r = some (vi y) ∧ K y w') := by
    intro f
    induction f with
    | zero =>
      intro k y hf hy hk e
      have hy0 : y = 0 := by rw [Nat.pow_zero] at hy; omega
      have e : k = pcF 4 x := e
      rw [← e] at h
      refine t_M_many_4 ⟨fun _ => kI h, fun z => by omega⟩
    | succ f ih =>
      intro k y hf hy hk e
      have hp : 2 ^ (f + 1) ≤ 16 := Nat.le_trans (Nat.pow_le_pow_right (n := 2) (by decide) (show f + 1 ≤ 4 by omega)) (by decide)
      refine t_M_many_4 ⟨fun z => ?_, fun z => ?_⟩
      · have hy0 : y = 0 := by omega
        rw [hy0, pcF_z, Nat.add_zero] at e
        rw [← e] at h
        exact kI h
      · have e1 : b_iand (y : Int) 1 = ((y % 2 : Nat) : Int) := by
          rw [show (1 : Int) = ((1 : Nat) : Int) from rfl, b_iand_n (by omega) (by decide)]
          have := Nat.and_two_pow_sub_one_eq_mod y 1
          rw [show 2 ^ 1 - 1 = 1 from rfl, show 2 ^ 1 = 2 from rfl] at this
          rw [this]
        have e2 : b_ishr (y : Int) 1 = ((y / 2 : Nat) : Int) := by
          rw [show (1 : Int) = ((1 : Nat) : Int) from rfl, b_ishr_n (by omega) (by decide)]
        rw [e1, e2]
        refine ⟨⟨by omega, by omega⟩, ?_⟩
        rw [show (k : Int) + ((y % 2 : Nat) : Int) = ((k + y % 2 : Nat) : Int) by omega]
        have e : k + (y % 2 + pcF f (y / 2)) = pcF 4 x := e
        exact ih (k + y % 2) (y / 2) (by omega) (by rw [Nat.pow_succ] at hy; omega) (by omega) (by omega)
  exact met_of (by decide) rfl (Nat.le_of_ble_eq_true rfl) (t_M_many_0 (lp 4 0 x (by decide) hx (Nat.le_refl _) (by omega)))
theorem s_M_canAsk {l B : Nat} {L : Lit} {w : Wo} {K : Int → Wo → Prop} (hl : l < 366) (hL : LiM l L w) (h0 : L.1 ≠ 0) (ho : litOK L) (hB : HsM B w) (h : K (b01 (canL L B)) w) : MetI m_M_canAsk [vr 78, vi (l : Int)] w K := by
  obtain ⟨i1, i2, i3, i4, i5, i6⟩ := id hL
  have tok : ∀ k, k < L.2.2.2.2.length → tmOK (tmA L k) := fun k hk => ho.1 _ (List.mem_of_getElem? (getD_in hk))
  have TT : ∀ k, k < L.2.2.2.2.length → TmM l k (tmA L k) w := fun k hk => i6 k _ (getD_in hk)
  have yes : canL L B = true → K 1 w := fun q => by rw [q] at h; exact h
  have no : canL L B ≠ true → K 0 w := fun q => by
    cases e : canL L B with
    | true => exact absurd e q
    | false => rw [e] at h; exact h
  have b1 : ∀ {b : Bool}, ¬ b01 b = 0 → b = true := fun {b} q => by
    cases b with
    | true => rfl
    | false => exact absurd rfl q
  refine met_of (by decide) rfl (Nat.le_of_ble_eq_true rfl) (t_M_canAsk_0 ?_)
  rw [show ((l : Int)).toNat = l from rfl, i1]
  refine ⟨⟨by omega, by omega⟩, fun z3 => ⟨⟨by omega, by omega⟩, fun z2 => ?_, fun z2 => ⟨⟨by omega, by omega⟩, fun ze => ?_, fun ze => ?_⟩⟩, fun z3 => ?_⟩
  · -- denied
    have hk : L.1 = 1 := by
      rcases ho.kd with q | q | q | q
      · exact absurd q h0
      · exact q
      · exact absurd q z2
      · exact absurd q z3
    have he : L.2.2.2.1 = 0 := by
      rcases ho.2.2 with q | q | q
      · exact q.2.2.2.1
      · omega
      · omega
    have hc : canL L B = true ↔ ∀ t ∈ L.2.2.2.2, sub t B = true := by
      unfold canL
      rw [if_pos he, if_neg z3, List.all_eq_true]
    have lp : ∀ (m k : Nat), L.2.2.2.2.length - k ≤ m → k ≤ L.2.2.2.2.length → (∀ j t, j < k → L.2.2.2.2[j]? = some t → sub t B = true) → Wp m_M_canAsk 107 [(0, vr 78), (1, vi (l : Int)), (2, vi (k : Int))] [] (0, 0) w (fun r w' => ∃ y, r = some (vi y) ∧ K y w') := by
      intro m
      induction m with
      | zero =>
        intro k hm hk2 hj
        refine t_M_canAsk_107 ?_
        rw [show ((l : Int)).toNat = l from rfl, (i3 (Or.inr hk)).2]
        refine ⟨⟨by omega, by omega⟩, fun _ => kI (yes (hc.mpr (fun t ht => ?_))), fun z => by omega⟩
        obtain ⟨j, hj2⟩ := List.getElem?_of_mem ht
        exact hj j t (by have := (List.getElem?_eq_some_iff.mp hj2).1; omega) hj2
      | succ m ih =>
        intro k hm hk2 hj
        by_cases hkl : k < L.2.2.2.2.length
        · have ht := getD_in hkl
          have ext : sub (tmA L k) B = true → ∀ j t, j < k + 1 → L.2.2.2.2[j]? = some t → sub t B = true := by
            intro hs j t hj2 hjt
            by_cases e : j = k
            · subst e
              rw [ht] at hjt
              injection hjt with hjt
              rw [← hjt]; exact hs
            · exact hj j t (by omega) hjt
          have tc := rk_c (tok k hkl)
          refine t_M_canAsk_107 ?_
          rw [show ((l : Int)).toNat = l from rfl, (i3 (Or.inr hk)).2, show (4 * (l : Int) + (k : Int)).toNat = 4 * l + k by omega, (TT k hkl).1]
          refine ⟨⟨by omega, by omega⟩, fun z => by omega, fun _ => ⟨⟨by omega, by omega⟩, ⟨by omega, by omega⟩, ⟨by omega, by omega⟩, fun z => ⟨⟨by omega, by omega⟩, ih (k + 1) (by omega) (by omega) (ext ?_)⟩, fun z => ?_⟩⟩
          · rcases tc with ⟨r1, r2, r3⟩ | ⟨r1, r2, r3, r4, r5, r6, r7⟩ | ⟨r1, r2, r3, r4⟩
            · exact sub_mono (fun i hi => by rw [Nat.zero_testBit] at hi; cases hi) r3
            · omega
            · omega
          · have hna : tmA L k ≠ ANYT := by
              rcases tc with ⟨r1, r2, r3⟩ | ⟨r1, r2, r3, r4, r5, r6, r7⟩ | ⟨r1, r2, r3, r4⟩
              · exact absurd r1 z
              · show tmA L k ≠ 4503599627370496; omega
              · show tmA L k ≠ 4503599627370496; omega
            refine s_M_isKnownTerm hl (by omega) (tok k hkl) (TT k hkl) hB ⟨fun q => ⟨⟨by omega, by omega⟩, ih (k + 1) (by omega) (by omega) (ext ?_)⟩, fun q => kI (no (fun q2 => ?_))⟩
            · rw [← kno_sub hna]; exact b1 q
            · have := hc.mp q2 _ (List.mem_of_getElem? ht)
              have q3 := b01_0.mp q
              rw [kno_sub hna, this] at q3
              cases q3
        · exact ih k (by omega) hk2 hj
    exact lp L.2.2.2.2.length 0 (by omega) (Nat.zero_le _) (fun j t hj => by omega)
  · -- a relation
    obtain ⟨u1, u2, u3⟩ := ho.k2 z2
    have he : L.2.2.2.1 = 0 := by
      rcases u1 with q | q
      · exact q
      · exact absurd ((i4 z2).mpr q) ze
    have a0 : tmA L 0 ≠ ANYT := u3 _ (List.mem_of_getElem? (getD_in (by omega)))
    have a1 : tmA L 1 ≠ ANYT := u3 _ (List.mem_of_getElem? (getD_in (by omega)))
    have hc : canL L B = true ↔ sub (tmA L 0) B = true ∧ sub (tmA L 1) B = true := by
      unfold canL
      rw [if_pos he, if_neg z3, List.all_eq_true]
      exact ⟨fun q => ⟨q _ (List.mem_of_getElem? (getD_in (by omega))), q _ (List.mem_of_getElem? (getD_in (by omega)))⟩, fun q => all2 u2 q.1 q.2⟩
    refine s_M_isKnownTerm (k := 0) hl (by decide) (tok 0 (by omega)) (TT 0 (by omega)) hB ⟨fun q => kI (no (fun q2 => ?_)), fun q => s_M_isKnownTerm (k := 1) hl (by decide) (tok 1 (by omega)) (TT 1 (by omega)) hB ⟨fun q3 => kI (no (fun q2 => ?_)), fun q3 => kI (yes (hc.mpr ⟨?_, ?_⟩))⟩⟩
    · have := b01_0.mp q
      rw [kno_sub a0, (hc.mp q2).1] at this; cases this
    · have := b01_0.mp q3
      rw [kno_sub a1, (hc.mp q2).2] at this; cases this
    · rw [← kno_sub a0]; exact b1 q
    · rw [← kno_sub a1]; exact b1 q3
  · -- an equation
    obtain ⟨u1, u2, u3⟩ := ho.k2 z2
    have he : L.2.2.2.1 = 1 := (i4 z2).mp ze
    have a0 : tmA L 0 ≠ ANYT := u3 _ (List.mem_of_getElem? (getD_in (by omega)))
    have a1 : tmA L 1 ≠ ANYT := u3 _ (List.mem_of_getElem? (getD_in (by omega)))
    have hc := can2 (L := L) he (D := B)
    refine s_M_isKnownTerm (k := 0) hl (by decide) (tok 0 (by omega)) (TT 0 (by omega)) hB ⟨fun q => kI (yes (hc.mpr (Or.inl ?_))), fun q => s_M_isKnownTerm (k := 1) hl (by decide) (tok 1 (by omega)) (TT 1 (by omega)) hB ⟨fun q3 => kI (no (fun q2 => ?_)), fun q3 => kI (yes (hc.mpr (Or.inr ?_)))⟩⟩
    · rw [← kno_sub a0]; exact b1 q
    · have e0 := b01_0.mp q
      have e1 := b01_0.mp q3
      rw [kno_sub a0] at e0
      rw [kno_sub a1] at e1
      rcases hc.mp q2 with q4 | q4
      · rw [e0] at q4; cases q4
      · rw [e1] at q4; cases q4
    · rw [← kno_sub a1]; exact b1 q3
  · -- an is
    obtain ⟨u1, u2, u3⟩ := ho.k3 z3
    have a1 : tmA L 1 ≠ ANYT := u3 _ (List.mem_of_getElem? (getD_in (by omega)))
    have a2 : tmA L 2 ≠ ANYT := u3 _ (List.mem_of_getElem? (getD_in (by omega)))
    have hc := can3 ho z3 (D := B)
    refine s_M_isKnownTerm (k := 1) hl (by decide) (tok 1 (by omega)) (TT 1 (by omega)) hB ⟨fun q => kI (no (fun q2 => ?_)), fun q => s_M_isKnownTerm (k := 2) hl (by decide) (tok 2 (by omega)) (TT 2 (by omega)) hB ⟨fun q3 => kI (no (fun q2 => ?_)), fun q3 => kI (yes (hc.mpr ⟨?_, ?_⟩))⟩⟩
    · have := b01_0.mp q
      rw [kno_sub a1, (hc.mp q2).1] at this; cases this
    · have := b01_0.mp q3
      rw [kno_sub a2, (hc.mp q2).2] at this; cases this
    · rw [← kno_sub a1]; exact b1 q
    · rw [← kno_sub a2]; exact b1 q3
theorem s_M_nextLiteral {c left hv : Nat} {ls : List Lit} {w : Wo} {K : Int → Wo → Prop} (hc : c < 61) (hl : LsM c ls w) (h6 : ls.length ≤ 6) (hok : lisOK ls) (hB : HsM hv w) (hT : TkM left ls.length w) (h : K (nxt ls left hv) w) : MetI m_M_nextLiteral [vr 78, vi (c : Int)] w K := by
  have fs := fT_spec (p := tAt ls left hv) ls.length
  have get : ∀ i L, ls[i]? = some L → ls.getD i dfL = L := fun i L hi => by rw [List.getD_eq_getElem?_getD, hi]; rfl
  have bs := fun m => bA_spec (g := gAt ls left hv) (fun i => gAt_rng) m
  have second : fT (tAt ls left hv) ls.length = ls.length → ∀ (m k : Nat), ls.length - k ≤ m → k ≤ ls.length → Wp m_M_nextLiteral 60 [(0, vr 78), (1, vi (c : Int)), (2, vi (bA (gAt ls left hv) k).1), (3, vi (k : Int))] [] (0, 0) w (fun r w' => ∃ y, r = some (vi y) ∧ K y w') := by
    intro hfn m
    induction m with
    | zero =>
      intro k hm hk
      have e : k = ls.length := by omega
      subst e
      have e2 : nxt ls left hv = (bA (gAt ls left hv) ls.length).1 := if_neg (by omega)
      rw [e2] at h
      refine t_M_nextLiteral_60 ?_
      rw [show ((c : Int)).toNat = c from rfl, hl.1]
      exact ⟨⟨by omega, by omega⟩, fun _ => kI h, fun z => by omega⟩
    | succ m ih =>
      intro k hm hk
      by_cases hkl : k < ls.length
      · obtain ⟨L, hL⟩ : ∃ L, ls[k]? = some L := ⟨_, List.getElem?_eq_getElem hkl⟩
        have ho := hok L (List.mem_of_getElem? hL)
        have hLi := hl.2 k L hL
        have eL := get k L hL
        have ebA : bA (gAt ls left hv) (k + 1) = if gAt ls left hv k ≤ (bA (gAt ls left hv) k).2 then bA (gAt ls left hv) k else ((k : Int), gAt ls left hv k) := rfl
        have skip : gAt ls left hv k = -1 → inr32 ((k : Int) + 1) ∧ Wp m_M_nextLiteral 60 [(0, vr 78), (1, vi (c : Int)), (2, vi (bA (gAt ls left hv) k).1), (3, vi ((k : Int) + 1))] [] (0, 0) w (fun r w' => ∃ y, r = some (vi y) ∧ K y w') := by
          intro hg
          have hb := (bs k).2.2.1
          have := ih (k + 1) (by omega) (by omega)
          rw [ebA, if_pos (by omega)] at this
          exact ⟨⟨by omega, by omega⟩, this⟩
        refine t_M_nextLiteral_60 ?_
        rw [show ((c : Int)).toNat = c from rfl, hl.1, show ((k : Int)).toNat = k from rfl, hT k hkl, show (6 * (c : Int) + (k : Int)).toNat = 6 * c + k by omega, hLi.1]
        refine ⟨⟨by omega, by omega⟩, fun z => by omega, fun _ => ⟨⟨by omega, by omega⟩, fun z => skip ?_, fun z => ⟨⟨by omega, by omega⟩, ⟨by omega, by omega⟩, ⟨by omega, by omega⟩, fun z0 => ?_, fun z0 => skip ?_⟩⟩⟩
        · unfold gAt
          rw [if_neg (fun q => ?_)]
          rw [q.1] at z
          exact absurd rfl z
        · have hlb : left.testBit k = true := by
            have := b01_0.mp z
            simpa using this
          have hg : gAt ls left hv k = ((popc (knA L.2.2.2.2 hv) : Nat) : Int) := by
            unfold gAt
            rw [if_pos ⟨hlb, by rw [eL]; exact z0⟩, eL]
          have hkl16 : knA L.2.2.2.2 hv < 16 := Nat.lt_of_lt_of_le (knA_lt _ _) (Nat.le_trans (Nat.pow_le_pow_right (n := 2) (by decide) ho.2.1) (by decide))
          have take1 : (bA (gAt ls left hv) k).2 < gAt ls left hv k → inr32 ((k : Int) + 1) ∧ Wp m_M_nextLiteral 60 [(0, vr 78), (1, vi (c : Int)), (2, vi (k : Int)), (3, vi ((k : Int) + 1))] [] (0, 0) w (fun r w' => ∃ y, r = some (vi y) ∧ K y w') := by
            intro hlt
            have := ih (k + 1) (by omega) (by omega)
            rw [ebA, if_neg (by omega)] at this
            exact ⟨⟨by omega, by omega⟩, this⟩
          rcases (bs k).1 with ⟨q1, q2⟩ | ⟨j, q1, q2, q3, q4⟩
          · rw [q1]
            refine ⟨fun _ => take1 (by omega), fun z5 => absurd rfl z5⟩
          · have hjl : j < ls.length := by omega
            obtain ⟨L', hL'⟩ : ∃ L', ls[j]? = some L' := ⟨_, List.getElem?_eq_getElem hjl⟩
            have ho' := hok L' (List.mem_of_getElem? hL')
            have hLi' := hl.2 j L' hL'
            have eL' := get j L' hL'
            have hj0 : left.testBit j = true ∧ (ls.getD j dfL).1 = 0 := by
              by_cases c1 : left.testBit j = true ∧ (ls.getD j dfL).1 = 0
              · exact c1
              · unfold gAt at q4
                rw [if_neg c1] at q4
                omega
            have hgj : gAt ls left hv j = ((popc (knA L'.2.2.2.2 hv) : Nat) : Int) := by
              unfold gAt
              rw [if_pos hj0, eL']
            have hkl16' : knA L'.2.2.2.2 hv < 16 := Nat.lt_of_lt_of_le (knA_lt _ _) (Nat.le_trans (Nat.pow_le_pow_right (n := 2) (by decide) ho'.2.1) (by decide))
            rw [eL'] at hj0
            rw [q2]
            refine ⟨fun z5 => by omega, fun z5 => ⟨⟨by omega, by omega⟩, ⟨by omega, by omega⟩, ?_⟩⟩
            rw [show 6 * (c : Int) + (k : Int) = ((6 * c + k : Nat) : Int) by omega, show 6 * (c : Int) + (j : Int) = ((6 * c + j : Nat) : Int) by omega]
            refine s_M_knownIn (by omega) hLi (Or.inl z0) ho hB (s_M_many hkl16 ⟨⟨by omega, by omega⟩, ⟨by omega, by omega⟩, s_M_knownIn (by omega) hLi' (Or.inl hj0.2) ho' hB (s_M_many hkl16' ⟨fun z6 => ?_, fun z6 => take1 (by omega)⟩)⟩)
            have := ih (k + 1) (by omega) (by omega)
            rw [ebA, if_pos (by omega), q2] at this
            exact ⟨⟨by omega, by omega⟩, this⟩
        · unfold gAt
          rw [if_neg (fun q => ?_)]
          rw [eL] at q
          exact z0 q.2
      · exact ih k (by omega) hk
  have first : ∀ (m k : Nat), ls.length - k ≤ m → k ≤ ls.length → (∀ j, j < k → tAt ls left hv j = false) → Wp m_M_nextLiteral 4 [(0, vr 78), (1, vi (c : Int)), (2, vi (-1)), (3, vi (k : Int))] [] (0, 0) w (fun r w' => ∃ y, r = some (vi y) ∧ K y w') := by
    intro m
    induction m with
    | zero =>
      intro k hm hk hj
      have e : k = ls.length := by omega
      subst e
      refine t_M_nextLiteral_4 ?_
      rw [show ((c : Int)).toNat = c from rfl, hl.1]
      exact ⟨⟨by omega, by omega⟩, fun _ => second (fT_none _ hj) ls.length 0 (by omega) (Nat.zero_le _), fun z => by omega⟩
    | succ m ih =>
      intro k hm hk hj
      by_cases hkl : k < ls.length
      · obtain ⟨L, hL⟩ : ∃ L, ls[k]? = some L := ⟨_, List.getElem?_eq_getElem hkl⟩
        have ho := hok L (List.mem_of_getElem? hL)
        have hLi := hl.2 k L hL
        have eL := get k L hL
        have skip : tAt ls left hv k = false → inr32 ((k : Int) + 1) ∧ Wp m_M_nextLiteral 4 [(0, vr 78), (1, vi (c : Int)), (2, vi (-1)), (3, vi ((k : Int) + 1))] [] (0, 0) w (fun r w' => ∃ y, r = some (vi y) ∧ K y w') := by
          intro ht
          refine ⟨⟨by omega, by omega⟩, ih (k + 1) (by omega) (by omega) (fun j hj2 => ?_)⟩
          by_cases e : j = k
          · rw [e]; exact ht
          · exact hj j (by omega)
        refine t_M_nextLiteral_4 ?_
        rw [show ((c : Int)).toNat = c from rfl, hl.1, show ((k : Int)).toNat = k from rfl, hT k hkl, show (6 * (c : Int) + (k : Int)).toNat = 6 * c + k by omega, hLi.1]
        refine ⟨⟨by omega, by omega⟩, fun z => by omega, fun _ => ⟨⟨by omega, by omega⟩, fun z => skip ?_, fun z => ⟨⟨by omega, by omega⟩, ⟨by omega, by omega⟩, ⟨by omega, by omega⟩, fun z0 => skip ?_, fun z0 => ⟨⟨by omega, by omega⟩, ⟨by omega, by omega⟩, ?_⟩⟩⟩⟩
        · unfold tAt
          cases q : left.testBit k with
          | false => rfl
          | true => rw [q] at z; exact absurd rfl z
        · unfold tAt
          rw [eL, decide_eq_false (fun q => q z0), Bool.and_false, Bool.false_and]
        · have hlb : left.testBit k = true := by
            have := b01_0.mp z
            simpa using this
          have ht : tAt ls left hv k = canL L hv := by
            unfold tAt
            rw [eL, hlb, decide_eq_true z0, Bool.true_and, Bool.true_and]
          rw [show 6 * (c : Int) + (k : Int) = ((6 * c + k : Nat) : Int) by omega]
          refine s_M_canAsk (by omega) hLi z0 ho hB ⟨fun q => skip (by rw [ht]; exact b01_0.mp q), fun q => ?_⟩
          have hcan : canL L hv = true := by
            cases e : canL L hv with
            | true => rfl
            | false => rw [e] at q; exact absurd rfl q
          have e1 := fT_at ls.length k hkl (by rw [ht]; exact hcan) hj
          have e2 : nxt ls left hv = ((k : Nat) : Int) := by
            unfold nxt
            rw [e1, if_pos hkl]
          rw [e2] at h
          exact kI h
      · exact ih k (by omega) hk hj
  exact met_of (by decide) rfl (Nat.le_of_ble_eq_true rfl) (t_M_nextLiteral_0 (first ls.length 0 (by omega) (Nat.zero_le _) (fun j hj => by omega)))

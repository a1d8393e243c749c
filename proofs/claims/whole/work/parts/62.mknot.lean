/-! the reference: knots -/
def fo (x : Option Int) : Int × Int := match x with
  | none => (0, 0)
  | some q => (4, q)
def FtM (f : Int × Int) (w : Wo) : Prop := gI w 78 3 = f.1 ∧ gI w 78 4 = f.2
theorem s_M_noteR {f : Int × Int} {w : Wo} {k p : Int} {K : Wo → Prop} (hf : FtM f w) (h1 : f.1 ≠ 1) (h : ∀ w', FtM (nt f k p) w' → FX oF o0 w w' → K w') : MetV m_M_note [vr 78, vi k, vi p] w K := by
  obtain ⟨h6, h7⟩ := id hf
  have st : (f.1 = 0 ∨ p < f.2) → ∀ w1, w1 = uI w 78 3 k → ∀ w3, w3 = uI w1 78 4 p → K w3 := by
    intro hc w1 e1 w3 e3
    have hx : FX oF o0 w w3 := by rw [e3, e1]; exact (FX.rf.uI (by unfold oF; omega)).uI (by unfold oF; omega)
    have en : nt f k p = (k, p) := if_pos hc
    refine h w3 ?_ hx
    rw [en]
    exact ⟨by rw [e3, gI_uI, if_neg (by omega), e1, gI_uI, if_pos ⟨rfl, rfl⟩], by rw [e3, gI_uI, if_pos ⟨rfl, rfl⟩]⟩
  refine met_of (by decide) rfl (Nat.le_of_ble_eq_true rfl) (t_M_note_0 ?_)
  rw [h6, h7]
  refine ⟨fun z => absurd z h1, fun _ => ⟨fun z w1 e1 w3 e3 => ⟨rfl, st (Or.inl z) w1 e1 w3 e3⟩, fun z => ⟨fun z2 w5 e5 w7 e7 => ⟨rfl, st (Or.inr z2) w5 e5 w7 e7⟩, fun z2 => ⟨rfl, ?_⟩⟩⟩⟩
  have e : nt f k p = f := if_neg (by omega)
  rw [e] at h
  exact h w hf FX.rf
theorem fo_1 (x : Option Int) : (fo x).1 ≠ 1 := by
  cases x with
  | none => show (0 : Int) ≠ 1; decide
  | some q => show (4 : Int) ≠ 1; decide
theorem fo_0 {x : Option Int} : (fo x).1 = 0 ↔ x = none := by
  cases x with
  | none => exact ⟨fun _ => rfl, fun _ => rfl⟩
  | some q => exact ⟨fun h => absurd h (by show ¬ (4 : Int) = 0; decide), fun h => by cases h⟩
abbrev kc (W : Nat → Nat → Bool) (r : Rul) (L : Lit) : Prop := (0 < r.2.2.1 ∨ L.1 = 1) ∧ (L.1 = 0 ∨ L.1 = 1) ∧ lbk W r.1 L.2.2.1 = true
def kp (r : Rul) (L : Lit) : Int := if r.2.2.1 ≤ 0 then L.2.1 else r.2.2.2.1
theorem knL_app {W : Nat → Nat → Bool} {r : Rul} {ls : List Lit} {L : Lit} : (∀ q, knL W r ls = some q → knL W r (ls ++ [L]) = some q) ∧ (knL W r ls = none → kc W r L → knL W r (ls ++ [L]) = some (kp r L)) ∧ (knL W r ls = none → ¬ kc W r L → knL W r (ls ++ [L]) = none) := by
  induction ls with
  | nil => exact ⟨fun q h => (by cases h), fun _ h => if_pos h, fun _ h => if_neg h⟩
  | cons x ls ih =>
    have e : ∀ l, knL W r (x :: l) = if kc W r x then some (kp r x) else knL W r l := fun l => rfl
    refine ⟨fun q h => ?_, fun h hc => ?_, fun h hc => ?_⟩
    · rw [e] at h
      rw [List.cons_append, e]
      split at h
      · rename_i hx
        rw [if_pos hx]; exact h
      · rename_i hx
        rw [if_neg hx]; exact ih.1 q h
    · rw [e] at h
      rw [List.cons_append, e]
      split at h
      · cases h
      · rename_i hx
        rw [if_neg hx]; exact ih.2.1 h hc
    · rw [e] at h
      rw [List.cons_append, e]
      split at h
      · cases h
      · rename_i hx
        rw [if_neg hx]; exact ih.2.2 h hc
theorem knL_same {W : Nat → Nat → Bool} {r : Rul} {ls : List Lit} {L : Lit} (hc : ¬ kc W r L) : knL W r (ls ++ [L]) = knL W r ls := by
  cases e : knL W r ls with
  | none => exact knL_app.2.2 e hc
  | some q => exact knL_app.1 q e
theorem knL_in {W : Nat → Nat → Bool} {r : Rul} {ls : List Lit} {q : Int} (h : knL W r ls = some q) : ∃ L ∈ ls, q = kp r L := by
  induction ls with
  | nil => cases h
  | cons x ls ih =>
    have h : (if kc W r x then some (kp r x) else knL W r ls) = some q := h
    split at h
    · injection h with h
      exact ⟨x, List.mem_cons_self .., h.symm⟩
    · obtain ⟨L, l1, l2⟩ := ih h
      exact ⟨L, List.mem_cons_of_mem _ l1, l2⟩
theorem kn_app {W : Nat → Nat → Bool} {R R' : List Rul} : (∀ q, kn W R = some q → kn W (R ++ R') = some q) ∧ (kn W R = none → kn W (R ++ R') = kn W R') := by
  induction R with
  | nil => exact ⟨fun q h => (by cases h), fun _ => rfl⟩
  | cons x R ih =>
    cases e : knL W x x.2.2.2.2 with
    | some p =>
      rw [List.cons_append, kn_s e, kn_s e]
      exact ⟨fun q h => h, fun h => by cases h⟩
    | none =>
      rw [List.cons_append, kn_n e, kn_n e]
      exact ih
theorem nt_keep {q p : Int} (h : ¬ p < q) : nt (4, q) 4 p = (4, q) := if_neg (by show ¬ ((4 : Int) = 0 ∨ p < q); omega)
theorem s_M_lookAbsence {sd n : Nat} {R : List Rul} {w : Wo} {K : Wo → Prop} (h37 : gI w 78 37 = (sd : Int)) (hsd : sd < 2) (hn : n ≤ 16) (hR : RsM sd R w) (hok : ∀ r ∈ R, RuOK n r) (hf : FtM (0, 0) w) (h : ∀ w', BkE (hgs R n) w' → FtM (fo (kn (hgs R n) R)) w' → FX (fun o k => o = 111 ∨ (o = 78 ∧ (k = 3 ∨ k = 4))) o0 w w' → K w') : MetV m_M_lookAbsence [vr 78] w K := by
  refine met_of (by decide) rfl (Nat.le_of_ble_eq_true rfl) (t_M_lookAbsence_0 (s_M_lookHangs h37 hsd hn hR hok (fun w1 hE F1 => ?_)))
  have hl := hR.2.1
  have x37 : ∀ w2, FX oF o0 w1 w2 → gI w2 78 37 = (sd : Int) := fun w2 F => by rw [F.1 78 37 (by unfold oF; omega), F1.1 78 37 (by unfold oHg; omega)]; exact h37
  have xR : ∀ w2, FX oF o0 w1 w2 → RsM sd R w2 := fun w2 F => (hR.hg F1 (fun o k z => Or.inl z) (fun o k z => z)).hg F (fun o k z => by unfold oF at z; omega) (fun o k z => z)
  have xE : ∀ w2, FX oF o0 w1 w2 → BkE (hgs R n) w2 := fun w2 F a b ha hb => by rw [F.1 111 _ (by unfold oF; omega)]; exact hE a b ha hb
  have xF : ∀ w2, FX oF o0 w1 w2 → FX (fun o k => o = 111 ∨ (o = 78 ∧ (k = 3 ∨ k = 4))) o0 w w2 := fun w2 F => (F1.sub (fun o k z => Or.inl z) (fun o k z => z)).tr (F.sub (fun o k z => Or.inr z) (fun o k z => z))
  have rules : ∀ (k i : Nat) (w2 : Wo), R.length - i ≤ k → i ≤ R.length → FtM (fo (kn (hgs R n) (R.take i))) w2 → FX oF o0 w1 w2 → Wp m_M_lookAbsence 12 [(0, vr 78), (1, vi (30 * (sd : Int) + (i : Int)))] [] (0, 0) w2 (fun r w' => r = none ∧ K w') := by
    intro k
    induction k with
    | zero =>
      intro i w2 hk hi hF F
      have e : i = R.length := by omega
      refine t_M_lookAbsence_12 ?_
      rw [x37 w2 F, show ((sd : Int)).toNat = sd from rfl, (xR w2 F).1]
      rw [e, List.take_length] at hF
      exact ⟨⟨by omega, by omega⟩, ⟨by omega, by omega⟩, ⟨by omega, by omega⟩, fun _ => ⟨rfl, h w2 (xE w2 F) hF (xF w2 F)⟩, fun z => by omega⟩
    | succ k ih =>
      intro i w2 hk hi hF F
      by_cases hin : i < R.length
      · obtain ⟨r, hr⟩ : ∃ r, R[i]? = some r := ⟨_, List.getElem?_eq_getElem hin⟩
        have hrm := List.mem_of_getElem? hr
        obtain ⟨u1, u2, u3, u4, u5, u6, u7, u8, u9, u10, u11, u12, u13⟩ := hok r hrm
        refine t_M_lookAbsence_12 ?_
        rw [x37 w2 F, show ((sd : Int)).toNat = sd from rfl, (xR w2 F).1, hF.1]
        refine ⟨⟨by omega, by omega⟩, ⟨by omega, by omega⟩, ⟨by omega, by omega⟩, fun z => by omega, fun _ => ⟨fun z => ⟨rfl, h w2 (xE w2 F) ?_ (xF w2 F)⟩, fun z => ⟨⟨by omega, by omega⟩, ?_⟩⟩⟩
        · cases e : kn (hgs R n) (R.take i) with
          | none => rw [e] at z; exact absurd rfl z
          | some q =>
            have := (kn_app (R' := R.drop i)).1 q e
            rw [List.take_append_drop] at this
            rw [this, ← e]; exact hF
        · have hkn : kn (hgs R n) (R.take i) = none := fo_0.mp z
          rw [hkn] at hF
          have hstep : kn (hgs R n) (R.take (i + 1)) = knL (hgs R n) r r.2.2.2.2 := by
            rw [take_s hr, kn_app.2 hkn]
            cases e : knL (hgs R n) r r.2.2.2.2 with
            | none => rw [kn_n e]; rfl
            | some q => rw [kn_s e]
          -- the denied
          have den : ∀ (k2 j : Nat) (w3 : Wo), r.2.2.2.2.length - j ≤ k2 → j ≤ r.2.2.2.2.length → FtM (fo (if r.2.2.1 ≤ 0 then knL (hgs R n) r (r.2.2.2.2.take j) else knL (hgs R n) r r.2.2.2.2)) w3 → FX oF o0 w1 w3 → Wp m_M_lookAbsence 118 [(0, vr 78), (1, vi (30 * (sd : Int) + (i : Int))), (2, vi (6 * (30 * (sd : Int) + (i : Int)) + (j : Int)))] [] (0, 0) w3 (fun r w' => r = none ∧ K w') := by
            intro k2
            induction k2 with
            | zero =>
              intro j w3 hk2 hj hF3 F3
              have e : j = r.2.2.2.2.length := by omega
              obtain ⟨q1, q2, q3, q4, q5⟩ := (xR w3 F3).2.2.2 i r hr
              refine t_M_lookAbsence_118 ?_
              rw [show (30 * (sd : Int) + (i : Int)).toNat = 30 * sd + i by omega, q5.1]
              refine ⟨⟨by omega, by omega⟩, ⟨by omega, by omega⟩, ⟨by omega, by omega⟩, fun _ => ⟨⟨by omega, by omega⟩, ?_⟩, fun z => by omega⟩
              rw [show 30 * (sd : Int) + (i : Int) + 1 = 30 * (sd : Int) + ((i + 1 : Nat) : Int) by omega]
              refine ih (i + 1) w3 (by omega) (by omega) ?_ F3
              rw [hstep]
              rw [e, List.take_length, ite_self] at hF3
              exact hF3
            | succ k2 ih2 =>
              intro j w3 hk2 hj hF3 F3
              by_cases hjn : j < r.2.2.2.2.length
              · obtain ⟨L, hL⟩ : ∃ L, r.2.2.2.2[j]? = some L := ⟨_, List.getElem?_eq_getElem hjn⟩
                have hLm := List.mem_of_getElem? hL
                have hN := u11 L hLm
                have ht := take_s hL
                obtain ⟨q1, q2, q3, q4, q5⟩ := (xR w3 F3).2.2.2 i r hr
                have hLi := q5.2 j L hL
                have go : ∀ w4, FtM (fo (if r.2.2.1 ≤ 0 then knL (hgs R n) r (r.2.2.2.2.take (j + 1)) else knL (hgs R n) r r.2.2.2.2)) w4 → FX oF o0 w1 w4 → inr32 (6 * (30 * (sd : Int) + (i : Int)) + (j : Int) + 1) ∧ Wp m_M_lookAbsence 118 [(0, vr 78), (1, vi (30 * (sd : Int) + (i : Int))), (2, vi (6 * (30 * (sd : Int) + (i : Int)) + (j : Int) + 1))] [] (0, 0) w4 (fun r w' => r = none ∧ K w') := by
                  intro w4 hF4 F4
                  refine ⟨⟨by omega, by omega⟩, ?_⟩
                  rw [show 6 * (30 * (sd : Int) + (i : Int)) + (j : Int) + 1 = 6 * (30 * (sd : Int) + (i : Int)) + ((j + 1 : Nat) : Int) by omega]
                  exact ih2 (j + 1) w4 (by omega) (by omega) hF4 F4
                have same : ¬ kc (hgs R n) r L → FtM (fo (if r.2.2.1 ≤ 0 then knL (hgs R n) r (r.2.2.2.2.take (j + 1)) else knL (hgs R n) r r.2.2.2.2)) w3 := by
                  intro hc
                  rw [ht, knL_same hc]; exact hF3
                have samet : ¬ r.2.2.1 ≤ 0 → FtM (fo (if r.2.2.1 ≤ 0 then knL (hgs R n) r (r.2.2.2.2.take (j + 1)) else knL (hgs R n) r r.2.2.2.2)) w3 := by
                  intro hc
                  rw [if_neg hc] at hF3 ⊢
                  exact hF3
                refine t_M_lookAbsence_118 ?_
                rw [show (30 * (sd : Int) + (i : Int)).toNat = 30 * sd + i by omega, q5.1, show (6 * (30 * (sd : Int) + (i : Int)) + (j : Int)).toNat = 6 * (30 * sd + i) + j by omega, hLi.1, q1]
                refine ⟨⟨by omega, by omega⟩, ⟨by omega, by omega⟩, ⟨by omega, by omega⟩, fun z => by omega, fun _ => ⟨⟨by omega, by omega⟩, fun z => ?_, fun z => ⟨⟨by omega, by omega⟩, ⟨by omega, by omega⟩, ?_⟩⟩⟩
                · refine go w3 ?_ F3
                  by_cases c : r.2.2.1 ≤ 0
                  · exact same (fun q => by rcases q.1 with q | q; omega; exact z q)
                  · exact samet c
                · have ha := hN.1.a (Or.inr z)
                  have hb := hN.2.2
                  rw [(hLi.2.2.1 (Or.inr z)).1]
                  refine s_M_isBack (xE w3 F3) ⟨u1, by omega⟩ ⟨ha.1, ha.2⟩ (fun hl1 => ⟨fun q => absurd q (by decide), fun _ => ⟨⟨by omega, by omega⟩, ?_⟩⟩) (fun hl0 => ⟨fun _ => go w3 ?_ F3, fun q => absurd rfl q⟩)
                  · rw [hLi.2.1]
                    refine s_M_noteR hF3 (fo_1 _) (fun w8 hF8 F8 => go w8 ?_ (F3.tr F8))
                    have hkc : kc (hgs R n) r L := ⟨Or.inr z, Or.inr z, hl1⟩
                    by_cases c : r.2.2.1 ≤ 0
                    · rw [if_pos c] at hF8 ⊢
                      rw [ht]
                      cases e : knL (hgs R n) r (r.2.2.2.2.take j) with
                      | none =>
                        rw [knL_app.2.1 e hkc]
                        rw [e] at hF8
                        have : kp r L = L.2.1 := if_pos c
                        rw [this]
                        exact hF8
                      | some q =>
                        rw [knL_app.1 q e]
                        rw [e] at hF8
                        obtain ⟨L', l1, l2⟩ := knL_in e
                        have e3 : kp r L' = L'.2.1 := if_pos c
                        obtain ⟨j', hj'⟩ := List.getElem?_of_mem l1
                        obtain ⟨g1, g2⟩ := List.getElem?_eq_some_iff.mp hj'
                        have g3 : j' < j := by rw [List.length_take] at g1; omega
                        have g4 : r.2.2.2.2[j']? = some L' := by
                          rw [List.getElem?_take] at hj'
                          rw [if_pos g3] at hj'
                          exact hj'
                        obtain ⟨g5, g6⟩ := List.getElem?_eq_some_iff.mp g4
                        obtain ⟨g7, g8⟩ := List.getElem?_eq_some_iff.mp hL
                        have := List.pairwise_iff_getElem.mp u12 j' j g5 g7 g3
                        rw [g6, g8] at this
                        have hF8 : FtM (nt (4, q) 4 L.2.1) w8 := hF8
                        rw [nt_keep (by omega)] at hF8
                        exact hF8
                    · rw [if_neg c] at hF8 ⊢
                      have hex : ∃ q, knL (hgs R n) r r.2.2.2.2 = some q := by
                        cases e : knL (hgs R n) r r.2.2.2.2 with
                        | some q => exact ⟨q, rfl⟩
                        | none =>
                          have := knL_n e L hLm (Or.inr z) (Or.inr z)
                          rw [this] at hl1; cases hl1
                      obtain ⟨q, e⟩ := hex
                      rw [e] at hF8 ⊢
                      obtain ⟨L', l1, l2⟩ := knL_in e
                      have e3 : kp r L' = r.2.2.2.1 := if_neg c
                      have := (u13 L hLm).2.2 (by omega)
                      have hF8 : FtM (nt (4, q) 4 L.2.1) w8 := hF8
                      rw [nt_keep (by omega)] at hF8
                      exact hF8
                  · by_cases c : r.2.2.1 ≤ 0
                    · exact same (fun q => by have q2 := q.2.2; rw [hl0] at q2; cases q2)
                    · exact samet c
              · exact ih2 j w3 (by omega) hj hF3 F3
          -- the totals
          have tots : ∀ (k2 j : Nat) (w3 : Wo), r.2.2.2.2.length - j ≤ k2 → j ≤ r.2.2.2.2.length → FtM (fo (if r.2.2.1 ≤ 0 then none else knL (hgs R n) r (r.2.2.2.2.take j))) w3 → FX oF o0 w1 w3 → Wp m_M_lookAbsence 45 [(0, vr 78), (1, vi (30 * (sd : Int) + (i : Int))), (2, vi (6 * (30 * (sd : Int) + (i : Int)) + (j : Int)))] [] (0, 0) w3 (fun r w' => r = none ∧ K w') := by
            intro k2
            induction k2 with
            | zero =>
              intro j w3 hk2 hj hF3 F3
              have e : j = r.2.2.2.2.length := by omega
              obtain ⟨q1, q2, q3, q4, q5⟩ := (xR w3 F3).2.2.2 i r hr
              refine t_M_lookAbsence_45 ?_
              rw [show (30 * (sd : Int) + (i : Int)).toNat = 30 * sd + i by omega, q5.1]
              refine ⟨⟨by omega, by omega⟩, ⟨by omega, by omega⟩, ⟨by omega, by omega⟩, fun _ => ⟨⟨by omega, by omega⟩, ?_⟩, fun z => by omega⟩
              have := den r.2.2.2.2.length 0 w3 (by omega) (Nat.zero_le _) (by rw [e, List.take_length] at hF3; exact hF3) F3
              rw [show 6 * (30 * (sd : Int) + (i : Int)) + ((0 : Nat) : Int) = 6 * (30 * (sd : Int) + (i : Int)) by omega] at this
              exact this
            | succ k2 ih2 =>
              intro j w3 hk2 hj hF3 F3
              by_cases hjn : j < r.2.2.2.2.length
              · obtain ⟨L, hL⟩ : ∃ L, r.2.2.2.2[j]? = some L := ⟨_, List.getElem?_eq_getElem hjn⟩
                have hLm := List.mem_of_getElem? hL
                have hN := u11 L hLm
                have ht := take_s hL
                obtain ⟨q1, q2, q3, q4, q5⟩ := (xR w3 F3).2.2.2 i r hr
                have hLi := q5.2 j L hL
                have go : ∀ w4, FtM (fo (if r.2.2.1 ≤ 0 then none else knL (hgs R n) r (r.2.2.2.2.take (j + 1)))) w4 → FX oF o0 w1 w4 → inr32 (((6 * (30 * sd + i) + j : Nat) : Int) + 1) ∧ Wp m_M_lookAbsence 45 [(0, vr 78), (1, vi (30 * (sd : Int) + (i : Int))), (2, vi (((6 * (30 * sd + i) + j : Nat) : Int) + 1))] [] (0, 0) w4 (fun r w' => r = none ∧ K w') := by
                  intro w4 hF4 F4
                  refine ⟨⟨by omega, by omega⟩, ?_⟩
                  rw [show ((6 * (30 * sd + i) + j : Nat) : Int) + 1 = 6 * (30 * (sd : Int) + (i : Int)) + ((j + 1 : Nat) : Int) by omega]
                  exact ih2 (j + 1) w4 (by omega) (by omega) hF4 F4
                have same : ¬ kc (hgs R n) r L → FtM (fo (if r.2.2.1 ≤ 0 then none else knL (hgs R n) r (r.2.2.2.2.take (j + 1)))) w3 := by
                  intro hc
                  rw [ht, knL_same hc]; exact hF3
                refine t_M_lookAbsence_45 ?_
                rw [show (30 * (sd : Int) + (i : Int)).toNat = 30 * sd + i by omega, q5.1, q3, show 6 * (30 * (sd : Int) + (i : Int)) + (j : Int) = ((6 * (30 * sd + i) + j : Nat) : Int) by omega]
                refine ⟨⟨by omega, by omega⟩, ⟨by omega, by omega⟩, ⟨by omega, by omega⟩, fun z => by omega, fun _ => ⟨⟨by omega, by omega⟩, fun z => ?_, fun z => ?_⟩⟩
                · have c : r.2.2.1 ≤ 0 := by
                    by_cases c : 0 < r.2.2.1
                    · rw [if_pos c] at z; omega
                    · omega
                  refine go w3 ?_ F3
                  rw [if_pos c] at hF3 ⊢
                  exact hF3
                · have c : 0 < r.2.2.1 := by
                    by_cases c : 0 < r.2.2.1
                    · exact c
                    · rw [if_neg c] at z; omega
                  refine s_M_isAtom (by omega) hLi (fun hA => ⟨fun q => absurd q (by decide), fun _ => ?_⟩) (fun hA => ⟨fun _ => go w3 (same (fun q => hA q.2.1)) F3, fun q => absurd rfl q⟩)
                  have ha := hN.1.a hA
                  have hb := hN.2.2
                  rw [q1, show (((6 * (30 * sd + i) + j : Nat) : Int)).toNat = 6 * (30 * sd + i) + j from rfl, (hLi.2.2.1 hA).1]
                  refine ⟨⟨by omega, by omega⟩, ⟨by omega, by omega⟩, s_M_isBack (xE w3 F3) ⟨u1, by omega⟩ ⟨ha.1, ha.2⟩ (fun hl1 => ⟨fun q => absurd q (by decide), fun _ => ⟨⟨by omega, by omega⟩, ?_⟩⟩) (fun hl0 => ⟨fun _ => go w3 (same (fun q => by have q2 := q.2.2; rw [hl0] at q2; cases q2)) F3, fun q => absurd rfl q⟩)⟩
                  rw [q4 c]
                  refine s_M_noteR hF3 (fo_1 _) (fun w8 hF8 F8 => go w8 ?_ (F3.tr F8))
                  have hkc : kc (hgs R n) r L := ⟨Or.inl c, hA, hl1⟩
                  rw [if_neg (by omega)] at hF8 ⊢
                  rw [ht]
                  cases e : knL (hgs R n) r (r.2.2.2.2.take j) with
                  | none =>
                    rw [knL_app.2.1 e hkc]
                    rw [e] at hF8
                    have : kp r L = r.2.2.2.1 := if_neg (by omega)
                    rw [this]
                    exact hF8
                  | some q =>
                    rw [knL_app.1 q e]
                    rw [e] at hF8
                    obtain ⟨L', l1, l2⟩ := knL_in e
                    have e3 : kp r L' = r.2.2.2.1 := if_neg (by omega)
                    have hF8 : FtM (nt (4, q) 4 r.2.2.2.1) w8 := hF8
                    rw [nt_keep (by omega)] at hF8
                    exact hF8
              · exact ih2 j w3 (by omega) hj hF3 F3
          have := tots r.2.2.2.2.length 0 w2 (by omega) (Nat.zero_le _) (by
            rw [List.take_zero, show knL (hgs R n) r [] = none from rfl, ite_self]; exact hF) F
          rw [show 6 * (30 * (sd : Int) + (i : Int)) + ((0 : Nat) : Int) = 6 * (30 * (sd : Int) + (i : Int)) by omega] at this
          exact this
      · exact ih i w2 (by omega) hi hF F
  have F11 : FX oF o0 w1 w1 := FX.rf
  rw [x37 w1 F11]
  have := rules R.length 0 w1 (by omega) (Nat.zero_le _) (by
    rw [List.take_zero]
    exact ⟨by rw [F1.1 78 3 (by unfold oHg; omega)]; exact hf.1, by rw [F1.1 78 4 (by unfold oHg; omega)]; exact hf.2⟩) F11
  rw [show 30 * (sd : Int) + ((0 : Nat) : Int) = 30 * (sd : Int) by omega] at this
  exact ⟨⟨by omega, by omega⟩, this⟩

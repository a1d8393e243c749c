/-! the reference: strata -/
def oS (sd : Nat) : OkF := fun o k => o = 87 ∧ 16 * sd ≤ k ∧ k < 16 * sd + 16
def StS (sd n : Nat) (S : Nat → Int) (w : Wo) : Prop := ∀ p, p < n → gI w 87 (16 * sd + p) = S p
theorem str_eq {R : List Rul} {n k : Nat} (h : ∀ r ∈ R, RuOK n r) (hk : kn (hgs R n) R = none) (hf : rnd (edR R) (itr (edR R) k) = itr (edR R) k) : itr (edR R) k = str R n := by
  have hs := str_fix h hk
  by_cases c : k ≤ n
  · have := itr_fix hf (n - k)
    rw [show k + (n - k) = n by omega] at this
    exact this.symm
  · have := itr_fix (L := edR R) (k := n) hs (k - n)
    rw [show n + (k - n) = k by omega] at this
    exact this
theorem edL_sub {r : Rul} {ls : List Lit} {j : Nat} : ∀ e ∈ edL r (ls.take j), e ∈ edL r ls := by
  intro e he
  obtain ⟨x, x1, x2, x3⟩ := edL_mem he
  have : ∀ (l : List Lit), x ∈ l → (r.1.toNat, x.2.2.1.toNat, if 0 < r.2.2.1 ∨ x.1 = 1 then 1 else 0) ∈ edL r l := by
    intro l
    induction l with
    | nil => intro hx; cases hx
    | cons y l ih =>
      intro hx
      show _ ∈ (if y.1 = 0 ∨ y.1 = 1 then _ :: edL r l else edL r l)
      rcases List.mem_cons.mp hx with hx | hx
      · subst hx
        rw [if_pos x2]
        exact List.mem_cons_self ..
      · split
        · exact List.mem_cons_of_mem _ (ih hx)
        · exact ih hx
  rw [x3]
  exact this _ (List.mem_of_mem_take x1)
theorem edR_in {R : List Rul} {r : Rul} (hr : r ∈ R) : ∀ e ∈ edL r r.2.2.2.2, e ∈ edR R := by
  induction R with
  | nil => cases hr
  | cons x R ih =>
    intro e he
    rcases List.mem_cons.mp hr with hr | hr
    · rw [hr] at he; exact List.mem_append.mpr (Or.inl he)
    · exact List.mem_append.mpr (Or.inr (ih hr e he))
theorem s_M_lookStrata {sd n : Nat} {R : List Rul} {w : Wo} {K : Wo → Prop} (h37 : gI w 78 37 = (sd : Int)) (hsd : sd < 2) (hn : n ≤ 16) (hR : RsM sd R w) (hok : ∀ r ∈ R, RuOK n r) (hk : kn (hgs R n) R = none) (h : ∀ w', StS sd n (str R n) w' → FX (oS sd) o0 w w' → K w') : MetV m_M_lookStrata [vr 78] w K := by
  have hl := hR.2.1
  have hcl := str_clo hok hk
  have hu0 : ∀ p, 0 ≤ lvl (hgs R n) n p := fun p => lvl_rng.1
  have hu1 : ∀ p, lvl (hgs R n) n p ≤ 16 := fun p => by have := (lvl_rng (W := hgs R n) (n := n) (p := p)).2; omega
  have x37 : ∀ w2, FX (oS sd) o0 w w2 → gI w2 78 37 = (sd : Int) := fun w2 F => by rw [F.1 78 37 (by unfold oS; omega)]; exact h37
  have xR : ∀ w2, FX (oS sd) o0 w w2 → RsM sd R w2 := fun w2 F => hR.hg F (fun o k z => Or.inr (Or.inl z.1)) (fun o k z => z)
  have bnd : ∀ (k i : Nat) (r : Rul) (j : Nat), r ∈ R → ∀ p, 0 ≤ rnd (edL r (r.2.2.2.2.take j)) (rnd (edR (R.take i)) (itr (edR R) k)) p ∧ rnd (edL r (r.2.2.2.2.take j)) (rnd (edR (R.take i)) (itr (edR R) k)) p ≤ 16 := by
    intro k i r j hr p
    refine ⟨Int.le_trans (Int.le_trans (itr_0 k p) (rnd_ge _ _ p)) (rnd_ge _ _ p), Int.le_trans (rnd_le _ _ (lvl (hgs R n) n) (rnd_le _ _ (lvl (hgs R n) n) (itr_le hu0 hcl k) (fun e he => ?_)) (fun e he => ?_) p) (hu1 p)⟩
    · obtain ⟨x, x1, x2⟩ := edR_mem he
      exact hcl e (edR_in (List.mem_of_mem_take x1) e x2)
    · exact hcl e (edR_in hr e (edL_sub e he))
  have main : ∀ (m k : Nat) (w1 : Wo), n - k ≤ m → k ≤ n → StS sd n (itr (edR R) k) w1 → FX (oS sd) o0 w w1 → Wp m_M_lookStrata 33 [(0, vr 78), (1, vi (16 * (sd : Int))), (2, vi 1)] [] (0, 0) w1 (fun r w' => r = none ∧ K w') := by
    intro m
    induction m with
    | zero => ?_
    | succ m ih => ?_
    all_goals (
      intro k w1 hm hkn hS F
      refine t_M_lookStrata_33 ⟨fun z => absurd z (by decide), fun _ => ?_⟩
      rw [x37 w1 F]
      have rules : ∀ (k2 i : Nat) (mo : Bool) (w2 : Wo), R.length - i ≤ k2 → i ≤ R.length → StS sd n (rnd (edR (R.take i)) (itr (edR R) k)) w2 → (mo = false → ∀ p, rnd (edR (R.take i)) (itr (edR R) k) p = itr (edR R) k p) → (mo = true → ∃ p, itr (edR R) k p < rnd (edR (R.take i)) (itr (edR R) k) p) → FX (oS sd) o0 w w2 → Wp m_M_lookStrata 47 [(0, vr 78), (1, vi (16 * (sd : Int))), (2, vi (b01 mo)), (3, vi (30 * (sd : Int) + (i : Int)))] [] (0, 0) w2 (fun r w' => r = none ∧ K w') := by
        intro k2
        induction k2 with
        | zero =>
          intro i mo w2 hk2 hi hS2 hf ht F2
          have e : i = R.length := by omega
          rw [e, List.take_length] at hS2 hf ht
          refine t_M_lookStrata_47 ?_
          rw [x37 w2 F2, show ((sd : Int)).toNat = sd from rfl, (xR w2 F2).1]
          refine ⟨⟨by omega, by omega⟩, ⟨by omega, by omega⟩, ⟨by omega, by omega⟩, fun _ => ?_, fun z => by omega⟩
          cases mo with
          | false =>
            have hfix : rnd (edR R) (itr (edR R) k) = itr (edR R) k := by funext p; exact hf rfl p
            refine t_M_lookStrata_33 ⟨fun _ => ⟨rfl, h w2 (fun p hp => ?_) F2⟩, fun z => absurd rfl z⟩
            rw [hS2 p hp, hfix, str_eq hok hk hfix]
          | true =>
            obtain ⟨p, hp⟩ := ht rfl
            have hlt : k < n := by
              by_cases c : k = n
              · subst c
                have := str_fix hok hk
                have hp : str R k p < rnd (edR R) (str R k) p := hp
                rw [this] at hp
                omega
              · omega
            first
              | exact absurd hlt (by omega)
              | exact ih (k + 1) w2 (by omega) (by omega) hS2 F2
        | succ k2 ih2 =>
          intro i mo w2 hk2 hi hS2 hf ht F2
          by_cases hin : i < R.length
          · obtain ⟨r, hr⟩ : ∃ r, R[i]? = some r := ⟨_, List.getElem?_eq_getElem hin⟩
            have hrm := List.mem_of_getElem? hr
            obtain ⟨u1, u2, u3, u4, u5, u6, u7, u8, u9, u10, u11, -⟩ := hok r hrm
            have lits : ∀ (k3 j : Nat) (mo2 : Bool) (w3 : Wo), r.2.2.2.2.length - j ≤ k3 → j ≤ r.2.2.2.2.length → StS sd n (rnd (edL r (r.2.2.2.2.take j)) (rnd (edR (R.take i)) (itr (edR R) k))) w3 → (mo2 = false → ∀ p, rnd (edL r (r.2.2.2.2.take j)) (rnd (edR (R.take i)) (itr (edR R) k)) p = itr (edR R) k p) → (mo2 = true → ∃ p, itr (edR R) k p < rnd (edL r (r.2.2.2.2.take j)) (rnd (edR (R.take i)) (itr (edR R) k)) p) → FX (oS sd) o0 w w3 → Wp m_M_lookStrata 74 [(0, vr 78), (1, vi (16 * (sd : Int))), (2, vi (b01 mo2)), (3, vi (30 * (sd : Int) + (i : Int))), (4, vi (6 * (30 * (sd : Int) + (i : Int)) + (j : Int)))] [] (0, 0) w3 (fun r w' => r = none ∧ K w') := by
              intro k3
              induction k3 with
              | zero =>
                intro j mo2 w3 hk3 hj hS3 hf3 ht3 F3
                have e : j = r.2.2.2.2.length := by omega
                obtain ⟨q1, q2, q3, q4, q5⟩ := (xR w3 F3).2.2.2 i r hr
                refine t_M_lookStrata_74 ?_
                rw [show (30 * (sd : Int) + (i : Int)).toNat = 30 * sd + i by omega, q5.1]
                refine ⟨⟨by omega, by omega⟩, ⟨by omega, by omega⟩, ⟨by omega, by omega⟩, fun _ => ⟨⟨by omega, by omega⟩, ?_⟩, fun z => by omega⟩
                rw [show 30 * (sd : Int) + (i : Int) + 1 = 30 * (sd : Int) + ((i + 1 : Nat) : Int) by omega]
                rw [e, List.take_length, ← rnd_app, ← edR_app, ← take_s hr] at hS3 hf3 ht3
                exact ih2 (i + 1) mo2 w3 (by omega) (by omega) hS3 hf3 ht3 F3
              | succ k3 ih3 =>
                intro j mo2 w3 hk3 hj hS3 hf3 ht3 F3
                by_cases hjn : j < r.2.2.2.2.length
                · obtain ⟨L, hL⟩ : ∃ L, r.2.2.2.2[j]? = some L := ⟨_, List.getElem?_eq_getElem hjn⟩
                  have hN := u11 L (List.mem_of_getElem? hL)
                  have hts := take_s hL
                  obtain ⟨q1, q2, q3, q4, q5⟩ := (xR w3 F3).2.2.2 i r hr
                  have hLi := q5.2 j L hL
                  have bd := bnd k i r j hrm
                  refine t_M_lookStrata_74 ?_
                  rw [show (30 * (sd : Int) + (i : Int)).toNat = 30 * sd + i by omega, q5.1, show 6 * (30 * (sd : Int) + (i : Int)) + (j : Int) = ((6 * (30 * sd + i) + j : Nat) : Int) by omega]
                  refine ⟨⟨by omega, by omega⟩, ⟨by omega, by omega⟩, ⟨by omega, by omega⟩, fun z => by omega, fun _ => ?_⟩
                  refine s_M_isAtom (by omega) hLi (fun hA => ⟨fun _ => ?_, fun q => absurd q (by decide)⟩) (fun hA => ⟨fun q => absurd rfl q, fun _ => ⟨⟨by omega, by omega⟩, ?_⟩⟩)
                  · have ha := hN.1.a hA
                    have hb := hN.2.2
                    have sa := hS3 L.2.2.1.toNat (by omega)
                    have sh := hS3 r.1.toNat (by omega)
                    have ba := bd L.2.2.1.toNat
                    rw [show (((6 * (30 * sd + i) + j : Nat) : Int)).toNat = 6 * (30 * sd + i) + j from rfl, (hLi.2.2.1 hA).1, hLi.1, q3, show (16 * (sd : Int) + L.2.2.1).toNat = 16 * sd + L.2.2.1.toNat by omega, sa]
                    have at141 : ∀ (wt : Nat), (if 0 < r.2.2.1 ∨ L.1 = 1 then 1 else 0) = wt → wt ≤ 1 → Wp m_M_lookStrata 141 [(0, vr 78), (1, vi (16 * (sd : Int))), (2, vi (b01 mo2)), (3, vi (30 * (sd : Int) + (i : Int))), (4, vi (((6 * (30 * sd + i) + j : Nat) : Int)))] [vi (wt : Int), vi (rnd (edL r (r.2.2.2.2.take j)) (rnd (edR (R.take i)) (itr (edR R) k)) L.2.2.1.toNat)] (0, 0) w3 (fun r w' => r = none ∧ K w') := by
                      intro wt hwt hw1
                      have hup : ∀ p, rnd (edL r (r.2.2.2.2.take (j + 1))) (rnd (edR (R.take i)) (itr (edR R) k)) p = upS (rnd (edL r (r.2.2.2.2.take j)) (rnd (edR (R.take i)) (itr (edR R) k))) (r.1.toNat, L.2.2.1.toNat, wt) p := fun p => by
                        rw [hts, edL_app, if_pos hA, rnd_app, hwt]; rfl
                      refine t_M_lookStrata_141 ?_
                      rw [show (30 * (sd : Int) + (i : Int)).toNat = 30 * sd + i by omega, q1, show (16 * (sd : Int) + r.1).toNat = 16 * sd + r.1.toNat by omega, sh]
                      refine ⟨⟨by omega, by omega⟩, ⟨by omega, by omega⟩, ⟨by omega, by omega⟩, ⟨by omega, by omega⟩, fun z => ⟨⟨by omega, by omega⟩, ⟨by omega, by omega⟩, ⟨by omega, by omega⟩, fun w5 e5 => ⟨⟨by omega, by omega⟩, ?_⟩⟩, fun z => ⟨⟨by omega, by omega⟩, ?_⟩⟩
                      · rw [show ((6 * (30 * sd + i) + j : Nat) : Int) + 1 = 6 * (30 * (sd : Int) + (i : Int)) + ((j + 1 : Nat) : Int) by omega]
                        refine ih3 (j + 1) true w5 (by omega) (by omega) (fun p hp => ?_) (fun q => by cases q) (fun _ => ⟨r.1.toNat, ?_⟩) (by rw [e5]; exact F3.uI ⟨rfl, by omega, by omega⟩)
                        · rw [hup, e5, gI_uI]
                          unfold upS
                          by_cases ep : p = r.1.toNat
                          · rw [if_pos ⟨rfl, by omega⟩, if_pos ep, if_pos z]
                          · rw [if_neg (by omega), if_neg ep]; exact hS3 p hp
                        · rw [hup]
                          have hge := Int.le_trans (rnd_ge (edR (R.take i)) (itr (edR R) k) r.1.toNat) (rnd_ge (edL r (r.2.2.2.2.take j)) (rnd (edR (R.take i)) (itr (edR R) k)) r.1.toNat)
                          unfold upS
                          rw [if_pos rfl, if_pos z]
                          show _ < rnd (edL r (r.2.2.2.2.take j)) (rnd (edR (R.take i)) (itr (edR R) k)) L.2.2.1.toNat + (wt : Int)
                          omega
                      · rw [show ((6 * (30 * sd + i) + j : Nat) : Int) + 1 = 6 * (30 * (sd : Int) + (i : Int)) + ((j + 1 : Nat) : Int) by omega]
                        have hsame : ∀ p, rnd (edL r (r.2.2.2.2.take (j + 1))) (rnd (edR (R.take i)) (itr (edR R) k)) p = rnd (edL r (r.2.2.2.2.take j)) (rnd (edR (R.take i)) (itr (edR R) k)) p := fun p => by
                          rw [hup]
                          unfold upS
                          by_cases ep : p = r.1.toNat
                          · rw [if_pos ep, if_neg z, ep]
                          · rw [if_neg ep]
                        refine ih3 (j + 1) mo2 w3 (by omega) (by omega) (fun p hp => by rw [hsame]; exact hS3 p hp) (fun q p => by rw [hsame]; exact hf3 q p) (fun q => ?_) F3
                        obtain ⟨p, hp⟩ := ht3 q
                        exact ⟨p, by rw [hsame]; exact hp⟩
                    refine ⟨⟨by omega, by omega⟩, ⟨by omega, by omega⟩, ⟨by omega, by omega⟩, ⟨by omega, by omega⟩, fun z => t_M_lookStrata_136 (at141 1 (if_pos (Or.inr z)) (by decide)), fun z => ⟨⟨by omega, by omega⟩, fun z2 => ?_, fun z2 => ?_⟩⟩
                    · refine at141 0 (if_neg (fun q => ?_)) (by decide)
                      rcases q with q | q
                      · rw [if_pos q] at z2; omega
                      · exact z q
                    · refine t_M_lookStrata_136 (at141 1 (if_pos (Or.inl ?_)) (by decide))
                      by_cases c : 0 < r.2.2.1
                      · exact c
                      · rw [if_neg c] at z2; omega
                  · rw [show ((6 * (30 * sd + i) + j : Nat) : Int) + 1 = 6 * (30 * (sd : Int) + (i : Int)) + ((j + 1 : Nat) : Int) by omega]
                    have hsame : edL r (r.2.2.2.2.take (j + 1)) = edL r (r.2.2.2.2.take j) := by rw [hts, edL_app, if_neg hA, List.append_nil]
                    rw [← hsame] at hS3 hf3 ht3
                    exact ih3 (j + 1) mo2 w3 (by omega) (by omega) hS3 hf3 ht3 F3
                · exact ih3 j mo2 w3 (by omega) hj hS3 hf3 ht3 F3
            refine t_M_lookStrata_47 ?_
            rw [x37 w2 F2, show ((sd : Int)).toNat = sd from rfl, (xR w2 F2).1]
            refine ⟨⟨by omega, by omega⟩, ⟨by omega, by omega⟩, ⟨by omega, by omega⟩, fun z => by omega, fun _ => ⟨⟨by omega, by omega⟩, ?_⟩⟩
            have := lits r.2.2.2.2.length 0 mo w2 (by omega) (Nat.zero_le _) hS2 hf ht F2
            rw [show 6 * (30 * (sd : Int) + (i : Int)) + ((0 : Nat) : Int) = 6 * (30 * (sd : Int) + (i : Int)) by omega] at this
            exact this
          · exact ih2 i mo w2 (by omega) hi hS2 hf ht F2
      have := rules R.length 0 false w1 (by omega) (Nat.zero_le _) hS (fun _ p => rfl) (fun q => by cases q) F
      rw [show 30 * (sd : Int) + ((0 : Nat) : Int) = 30 * (sd : Int) by omega] at this
      exact ⟨⟨by omega, by omega⟩, this⟩)
  have clr : ∀ (k v : Nat) (w1 : Wo), 16 - v ≤ k → v ≤ 16 → (∀ u, u < v → gI w1 87 (16 * sd + u) = 0) → FX (oS sd) o0 w w1 → Wp m_M_lookStrata 10 [(0, vr 78), (1, vi (16 * (sd : Int))), (2, vi (16 * (sd : Int) + (v : Int)))] [] (0, 0) w1 (fun r w' => r = none ∧ K w') := by
    intro k
    induction k with
    | zero =>
      intro v w1 hk2 hv hu F
      exact t_M_lookStrata_10 ⟨⟨by omega, by omega⟩, fun _ => main n 0 w1 (by omega) (Nat.zero_le _) (fun p hp => hu p (by omega)) F, fun z => by omega⟩
    | succ k ih =>
      intro v w1 hk2 hv hu F
      by_cases hv2 : v < 16
      · refine t_M_lookStrata_10 ⟨⟨by omega, by omega⟩, fun z => by omega, fun _ => ⟨⟨by omega, by omega⟩, fun w2 e2 => ⟨⟨by omega, by omega⟩, ?_⟩⟩⟩
        rw [show (16 * (sd : Int) + (v : Int)).toNat = 16 * sd + v by omega] at e2
        rw [show 16 * (sd : Int) + (v : Int) + 1 = 16 * (sd : Int) + ((v + 1 : Nat) : Int) by omega]
        refine ih (v + 1) w2 (by omega) (by omega) (fun u hu2 => ?_) (by rw [e2]; exact F.uI ⟨rfl, by omega, by omega⟩)
        rw [e2, gI_uI]
        by_cases eu : u = v
        · rw [if_pos ⟨rfl, by omega⟩]
        · rw [if_neg (by omega)]; exact hu u (by omega)
      · exact ih v w1 (by omega) hv hu F
  refine met_of (by decide) rfl (Nat.le_of_ble_eq_true rfl) (t_M_lookStrata_0 ?_)
  rw [h37]
  have := clr 16 0 w (by omega) (Nat.zero_le _) (fun u hu => by omega) FX.rf
  rw [show 16 * (sd : Int) + ((0 : Nat) : Int) = 16 * (sd : Int) by omega] at this
  exact ⟨⟨by omega, by omega⟩, this⟩

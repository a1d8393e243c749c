/-! the class's strata, and the end of the reading -/
def edL (r : Rul) : List Lit → List Edg
  | [] => []
  | L :: ls => if L.1 = 0 ∨ L.1 = 1 then (r.1.toNat, L.2.2.1.toNat, if 0 < r.2.2.1 ∨ L.1 = 1 then 1 else 0) :: edL r ls else edL r ls
def edR : List Rul → List Edg
  | [] => []
  | r :: R => edL r r.2.2.2.2 ++ edR R
theorem edL_app (r : Rul) (ls : List Lit) (L : Lit) : edL r (ls ++ [L]) = edL r ls ++ (if L.1 = 0 ∨ L.1 = 1 then [(r.1.toNat, L.2.2.1.toNat, if 0 < r.2.2.1 ∨ L.1 = 1 then 1 else 0)] else []) := by
  induction ls with
  | nil =>
    show (if L.1 = 0 ∨ L.1 = 1 then _ :: edL r [] else edL r []) = _
    split <;> rfl
  | cons x ls ih =>
    show (if x.1 = 0 ∨ x.1 = 1 then _ :: edL r (ls ++ [L]) else edL r (ls ++ [L])) = (if x.1 = 0 ∨ x.1 = 1 then _ :: edL r ls else edL r ls) ++ _
    rw [ih]
    split <;> rfl
theorem edR_app (R : List Rul) (r : Rul) : edR (R ++ [r]) = edR R ++ edL r r.2.2.2.2 := by
  induction R with
  | nil => show edL r r.2.2.2.2 ++ [] = _; rw [List.append_nil]; rfl
  | cons x R ih =>
    show edL x x.2.2.2.2 ++ edR (R ++ [r]) = (edL x x.2.2.2.2 ++ edR R) ++ _
    rw [ih, List.append_assoc]
theorem rnd_app (A B : List Edg) (S : Nat → Int) : rnd (A ++ B) S = rnd B (rnd A S) := List.foldl_append
theorem edL_mem {r : Rul} {ls : List Lit} {e : Edg} (h : e ∈ edL r ls) : ∃ L ∈ ls, (L.1 = 0 ∨ L.1 = 1) ∧ e = (r.1.toNat, L.2.2.1.toNat, if 0 < r.2.2.1 ∨ L.1 = 1 then 1 else 0) := by
  induction ls with
  | nil => cases h
  | cons L ls ih =>
    have h : e ∈ (if L.1 = 0 ∨ L.1 = 1 then (r.1.toNat, L.2.2.1.toNat, if 0 < r.2.2.1 ∨ L.1 = 1 then 1 else 0) :: edL r ls else edL r ls) := h
    split at h
    · rename_i hk
      rcases List.mem_cons.mp h with h | h
      · exact ⟨L, List.mem_cons_self .., hk, h⟩
      · obtain ⟨x, x1, x2⟩ := ih h
        exact ⟨x, List.mem_cons_of_mem _ x1, x2⟩
    · obtain ⟨x, x1, x2⟩ := ih h
      exact ⟨x, List.mem_cons_of_mem _ x1, x2⟩
theorem edR_mem {R : List Rul} {e : Edg} (h : e ∈ edR R) : ∃ r ∈ R, e ∈ edL r r.2.2.2.2 := by
  induction R with
  | nil => cases h
  | cons r R ih =>
    rcases List.mem_append.mp h with h | h
    · exact ⟨r, List.mem_cons_self .., h⟩
    · obtain ⟨x, x1, x2⟩ := ih h
      exact ⟨x, List.mem_cons_of_mem _ x1, x2⟩
theorem hmA_bit {ls : List Lit} {q : Nat} : (hmA ls).testBit q = true ↔ ∃ L ∈ ls, (L.1 = 0 ∨ L.1 = 1) ∧ L.2.2.1.toNat = q := by
  induction ls with
  | nil => exact ⟨fun h => (by rw [show hmA [] = 0 from rfl, Nat.zero_testBit] at h; cases h), fun ⟨L, h, _⟩ => by cases h⟩
  | cons L ls ih =>
    show ((if L.1 = 0 ∨ L.1 = 1 then 2 ^ L.2.2.1.toNat else 0) ||| hmA ls).testBit q = true ↔ _
    rw [Nat.testBit_or, Bool.or_eq_true, ih]
    constructor
    · rintro (h | ⟨x, x1, x2⟩)
      · split at h
        · rename_i hk
          refine ⟨L, List.mem_cons_self .., hk, ?_⟩
          by_cases e : L.2.2.1.toNat = q
          · exact e
          · rw [Nat.testBit_two_pow_of_ne e] at h; cases h
        · rw [Nat.zero_testBit] at h; cases h
      · exact ⟨x, List.mem_cons_of_mem _ x1, x2⟩
    · rintro ⟨x, x1, x2, x3⟩
      rcases List.mem_cons.mp x1 with x1 | x1
      · subst x1
        refine Or.inl ?_
        rw [if_pos x2, x3, Nat.testBit_two_pow_self]
      · exact Or.inr ⟨x, x1, x2, x3⟩
theorem hgR_bit {R : List Rul} {p q : Nat} : (hgR R p).testBit q = true ↔ ∃ r ∈ R, r.1 = (p : Int) ∧ ∃ L ∈ r.2.2.2.2, (L.1 = 0 ∨ L.1 = 1) ∧ L.2.2.1.toNat = q := by
  induction R with
  | nil => exact ⟨fun h => (by rw [show hgR [] p = 0 from rfl, Nat.zero_testBit] at h; cases h), fun ⟨L, h, _⟩ => by cases h⟩
  | cons r R ih =>
    show ((if r.1 = (p : Int) then hmA r.2.2.2.2 else 0) ||| hgR R p).testBit q = true ↔ _
    rw [Nat.testBit_or, Bool.or_eq_true, ih]
    constructor
    · rintro (h | ⟨x, x1, x2⟩)
      · split at h
        · rename_i hk
          exact ⟨r, List.mem_cons_self .., hk, hmA_bit.mp h⟩
        · rw [Nat.zero_testBit] at h; cases h
      · exact ⟨x, List.mem_cons_of_mem _ x1, x2⟩
    · rintro ⟨x, x1, x2, x3⟩
      rcases List.mem_cons.mp x1 with x1 | x1
      · subst x1
        refine Or.inl ?_
        rw [if_pos x2]
        exact hmA_bit.mpr x3
      · exact Or.inr ⟨x, x1, x2, x3⟩
/-- who hangs on whom in the end -/
def hgs (R : List Rul) (n : Nat) : Nat → Nat → Bool := war (E0 R) n
theorem E0_rng {R : List Rul} {n : Nat} (h : ∀ r ∈ R, RuOK n r) : ∀ a b, E0 R a b = true → a < n ∧ b < n := by
  intro a b hE
  obtain ⟨r, r1, r2, L, l1, l2, l3⟩ := hgR_bit.mp hE
  obtain ⟨u1, u2, u3, u4, u5, u6, u7, u8, u9, u10, u11, -⟩ := h r r1
  have hL := u11 L l1
  have ha := hL.1.a l2
  have hb := hL.2.2
  omega
theorem knL_n {W : Nat → Nat → Bool} {r : Rul} {ls : List Lit} (h : knL W r ls = none) : ∀ L ∈ ls, (0 < r.2.2.1 ∨ L.1 = 1) → (L.1 = 0 ∨ L.1 = 1) → lbk W r.1 L.2.2.1 = false := by
  induction ls with
  | nil => intro L hL; cases hL
  | cons x ls ih =>
    have h : (if (0 < r.2.2.1 ∨ x.1 = 1) ∧ (x.1 = 0 ∨ x.1 = 1) ∧ lbk W r.1 x.2.2.1 = true then some (if r.2.2.1 ≤ 0 then x.2.1 else r.2.2.2.1) else knL W r ls) = none := h
    split at h
    · cases h
    · rename_i hc
      intro L hL h1 h2
      rcases List.mem_cons.mp hL with hL | hL
      · subst hL
        cases e : lbk W r.1 L.2.2.1 with
        | false => rfl
        | true => exact absurd ⟨h1, h2, e⟩ hc
      · exact ih h L hL h1 h2
theorem kn_none {W : Nat → Nat → Bool} {R : List Rul} (h : kn W R = none) : ∀ r ∈ R, knL W r r.2.2.2.2 = none := by
  induction R with
  | nil => intro r hr; cases hr
  | cons x R ih =>
    intro r hr
    cases e : knL W x x.2.2.2.2 with
    | some q => rw [kn_s e] at h; cases h
    | none =>
      rw [kn_n e] at h
      rcases List.mem_cons.mp hr with hr | hr
      · rw [hr]; exact e
      · exact ih h r hr
theorem ed_ok {R : List Rul} {n : Nat} (h : ∀ r ∈ R, RuOK n r) (hk : kn (hgs R n) R = none) : ∀ e ∈ edR R, e.1 < n ∧ e.2.1 < n ∧ hgs R n e.1 e.2.1 = true ∧ e.2.2 ≤ 1 ∧ (e.2.2 = 1 → e.2.1 ≠ e.1 ∧ hgs R n e.2.1 e.1 = false) := by
  intro e he
  obtain ⟨r, r1, he⟩ := edR_mem he
  obtain ⟨L, l1, l2, l3⟩ := edL_mem he
  obtain ⟨u1, u2, u3, u4, u5, u6, u7, u8, u9, u10, u11, -⟩ := h r r1
  have hL := u11 L l1
  have ha := hL.1.a l2
  have hb := hL.2.2
  subst l3
  refine ⟨by show r.1.toNat < n; omega, by show L.2.2.1.toNat < n; omega, war_in n (hgR_bit.mpr ⟨r, r1, by show r.1 = ((r.1.toNat : Nat) : Int); omega, L, l1, l2, rfl⟩), ?_, fun h1 => ?_⟩
  · show (if 0 < r.2.2.1 ∨ L.1 = 1 then 1 else 0) ≤ 1
    split <;> omega
  · have h1 : (if 0 < r.2.2.1 ∨ L.1 = 1 then 1 else 0) = 1 := h1
    have hw : 0 < r.2.2.1 ∨ L.1 = 1 := by
      split at h1
      · assumption
      · omega
    have := knL_n (kn_none hk r r1) L l1 hw l2
    unfold lbk at this
    rw [Bool.or_eq_false_iff] at this
    obtain ⟨q1, q2⟩ := this
    have q1 := of_decide_eq_false q1
    exact ⟨by show L.2.2.1.toNat ≠ r.1.toNat; omega, q2⟩
theorem hgs_tr {R : List Rul} {n : Nat} : ∀ k a b, k < n → hgs R n a k = true → hgs R n k b = true → hgs R n a b = true := fun k a b hk => war_tr n k a b hk
def str (R : List Rul) (n : Nat) : Nat → Int := itr (edR R) n
theorem str_clo {R : List Rul} {n : Nat} (h : ∀ r ∈ R, RuOK n r) (hk : kn (hgs R n) R = none) : clo (edR R) (lvl (hgs R n) n) := lvl_clo (ed_ok h hk) hgs_tr
theorem lvl_rng {W : Nat → Nat → Bool} {n p : Nat} : 0 ≤ lvl W n p ∧ lvl W n p ≤ n := by
  unfold lvl
  have := cnt_le (p := fun q => W p q && !W q p) n
  omega
theorem str_fix {R : List Rul} {n : Nat} (h : ∀ r ∈ R, RuOK n r) (hk : kn (hgs R n) R = none) : rnd (edR R) (str R n) = str R n := itr_n (fun e he => ⟨(ed_ok h hk e he).1, (ed_ok h hk e he).2.1⟩) (fun p => lvl_rng.1) (str_clo h hk)
theorem s_Bk_liftHead {b n i : Nat} {R : List Rul} {r : Rul} {S u : Nat → Int} {w : Wo} {K : Wo → Prop} (hb : isBk b) (hn : gI w b 1 = (n : Nat)) (hn16 : n ≤ 16) (hR : RlC b R w) (hi : R[i]? = some r) (h30 : i < 30) (hok : RuOK n r) (hu : clo (edL r r.2.2.2.2) u) (hur : ∀ p, u p ≤ 1000) (hS : ∀ p, 0 ≤ S p ∧ S p ≤ u p) (hC : ∀ p, p < n → gI w (b + 17) p = S p) (h : ∀ w', (∀ p, p < n → gI w' (b + 17) p = rnd (edL r r.2.2.2.2) S p) → Frm [b + 17] [] w w' → K w') : MetV m_Bk_liftHead [vr b, vi (i : Int)] w K := by
  have bc := bk_c hb
  obtain ⟨r1, r2, r3, r4, r5, r6, r7⟩ := hR.2 i r hi
  obtain ⟨u1, u2, u3, u4, u5, u6, u7, u8, u9, u10, u11, -⟩ := hok
  have lp : ∀ (k j : Nat) (w1 : Wo), r.2.2.2.2.length - j ≤ k → j ≤ r.2.2.2.2.length → (∀ p, p < n → gI w1 (b + 17) p = rnd (edL r (r.2.2.2.2.take j)) S p) → Frm [b + 17] [] w w1 → Wp m_Bk_liftHead 12 [(0, vr b), (1, vi (i : Int)), (2, vi r.1), (3, vi (j : Int))] [] (0, 0) w1 (fun r w' => r = none ∧ K w') := by
    intro k
    induction k with
    | zero =>
      intro j w1 hk hj hJ F
      have e : j = r.2.2.2.2.length := by omega
      have e2 : gI w1 (b + 1 + 2) i = (r.2.2.2.2.length : Nat) := (F.1 (b + 3) (by simp) i).trans r2
      refine t_Bk_liftHead_12 hb ?_
      rw [show ((i : Int)).toNat = i from rfl, e2]
      refine ⟨⟨by omega, by omega⟩, fun _ => ⟨rfl, h w1 (fun p hp => ?_) F⟩, fun z => by omega⟩
      rw [hJ p hp, e, List.take_length]
    | succ k ih =>
      intro j w1 hk hj hJ F
      by_cases hjn : j < r.2.2.2.2.length
      · obtain ⟨L, hL⟩ : ∃ L, r.2.2.2.2[j]? = some L := ⟨_, List.getElem?_eq_getElem hjn⟩
        have hN := u11 L (List.mem_of_getElem? hL)
        have ht := take_s hL
        have e2 : gI w1 (b + 1 + 2) i = (r.2.2.2.2.length : Nat) := (F.1 (b + 3) (by simp) i).trans r2
        have e7 : gI w1 (b + 1 + 7) (6 * i + j) = L.2.2.1 := (F.1 (b + 8) (by simp) _).trans (r6 j L hL).2.1
        have n1 : gI w1 b 1 = (n : Nat) := by rw [F.1 b (by simp)]; exact hn
        have hR1 : RlC b R w1 := hR.frm F (fun q h1 h2 => by simp <;> omega)
        refine t_Bk_liftHead_12 hb ?_
        rw [show ((i : Int)).toNat = i from rfl, show ((i : Int) * 6 + (j : Int)).toNat = 6 * i + j by omega, e2, e7, n1]
        refine ⟨⟨by omega, by omega⟩, fun z => by omega, fun _ => ⟨⟨by omega, by omega⟩, ⟨by omega, by omega⟩, ⟨by omega, by omega⟩, fun z => ⟨⟨by omega, by omega⟩, ih (j + 1) w1 (by omega) (by omega) (fun p hp => ?_) F⟩, fun z => ⟨fun z2 => by have := hN.2.2; omega, fun z2 => ⟨⟨by omega, by omega⟩, ?_⟩⟩⟩⟩
        · rw [hJ p hp, ht, edL_app, if_neg (fun q => by have := hN.1.a q; omega), List.append_nil]
        · have hA : L.1 = 0 ∨ L.1 = 1 := by
            by_cases c : L.1 = 0 ∨ L.1 = 1
            · exact c
            · have := hN.1.b c
              omega
          have hcl : clo (edL r (r.2.2.2.2.take j)) u := fun e he => hu e (by
            obtain ⟨x, x1, x2, x3⟩ := edL_mem he
            have : ∀ (ls : List Lit), x ∈ ls → (r.1.toNat, x.2.2.1.toNat, if 0 < r.2.2.1 ∨ x.1 = 1 then 1 else 0) ∈ edL r ls := by
              intro ls
              induction ls with
              | nil => intro hx; cases hx
              | cons y ls ihl =>
                intro hx
                show _ ∈ (if y.1 = 0 ∨ y.1 = 1 then _ :: edL r ls else edL r ls)
                rcases List.mem_cons.mp hx with hx | hx
                · subst hx
                  rw [if_pos x2]
                  exact List.mem_cons_self ..
                · split
                  · exact List.mem_cons_of_mem _ (ihl hx)
                  · exact ihl hx
            rw [x3]
            exact this _ (List.mem_of_mem_take x1))
          have rg : ∀ p, 0 ≤ rnd (edL r (r.2.2.2.2.take j)) S p ∧ rnd (edL r (r.2.2.2.2.take j)) S p ≤ 1000 := fun p => ⟨Int.le_trans (hS p).1 (rnd_ge _ _ p), Int.le_trans (rnd_le _ _ u (fun q => (hS q).2) hcl p) (hur p)⟩
          have ea := hJ L.2.2.1.toNat (by omega)
          have eh := hJ r.1.toNat (by omega)
          have ra := rg L.2.2.1.toNat
          rw [ea]
          have fin : ∀ (wt : Nat) (w8 : Wo), (if 0 < r.2.2.1 ∨ L.1 = 1 then 1 else 0) = wt → w8 = uI w1 (b + 17) r.1.toNat (if rnd (edL r (r.2.2.2.2.take j)) S r.1.toNat < rnd (edL r (r.2.2.2.2.take j)) S L.2.2.1.toNat + (wt : Int) then rnd (edL r (r.2.2.2.2.take j)) S L.2.2.1.toNat + (wt : Int) else rnd (edL r (r.2.2.2.2.take j)) S r.1.toNat) → Wp m_Bk_liftHead 12 [(0, vr b), (1, vi (i : Int)), (2, vi r.1), (3, vi ((j : Int) + 1))] [] (0, 0) w8 (fun r w' => r = none ∧ K w') := by
            intro wt w8 ew e8
            refine ih (j + 1) w8 (by omega) (by omega) (fun p hp => ?_) (by rw [e8]; exact F.uI (by simp))
            rw [ht, edL_app, if_pos hA, rnd_app, ew, e8, gI_uI]
            show _ = upS (rnd (edL r (r.2.2.2.2.take j)) S) (r.1.toNat, L.2.2.1.toNat, wt) p
            unfold upS
            by_cases ep : p = r.1.toNat
            · rw [if_pos ⟨rfl, ep⟩, if_pos ep]
            · rw [if_neg (fun q => ep q.2), if_neg ep]; exact hJ p hp
          refine s_Rl_waits hb hR1 hi hL (by omega) (by omega) (fun hw => ⟨fun q => absurd q (by decide), fun _ => ⟨⟨by omega, by omega⟩, ⟨by omega, by omega⟩, ⟨by omega, by omega⟩, fun w12 e12 => ⟨⟨by omega, by omega⟩, fin 1 w12 (if_pos hw) (by rw [e12, eh]; rfl)⟩⟩⟩) (fun hw => ⟨fun _ => ⟨⟨by omega, by omega⟩, ⟨by omega, by omega⟩, ⟨by omega, by omega⟩, fun w8 e8 => ⟨⟨by omega, by omega⟩, fin 0 w8 (if_neg hw) (by rw [e8, eh]; rfl)⟩⟩, fun q => absurd rfl q⟩)
      · exact ih j w1 (by omega) hj hJ F
  refine met_of (by decide) rfl (Nat.le_of_ble_eq_true rfl) (t_Bk_liftHead_0 hb ?_)
  have e1 : gI w (b + 1 + 1) i = r.1 := r1
  rw [show ((i : Int)).toNat = i from rfl, e1]
  exact ⟨⟨by omega, by omega⟩, lp _ 0 w (Nat.le_refl _) (Nat.zero_le _) hC Frm.rf⟩
theorem s_Bk_layStrata {b n : Nat} {R : List Rul} {w : Wo} {K : Wo → Prop} (hb : isBk b) (hn : gI w b 1 = (n : Nat)) (hn16 : n ≤ 16) (hR : RlC b R w) (hR30 : R.length ≤ 30) (hok : ∀ r ∈ R, RuOK n r) (hk : kn (hgs R n) R = none) (hC : ∀ p, p < n → gI w (b + 17) p = 0) (h : ∀ w', (∀ p, p < n → gI w' (b + 17) p = str R n p) → Frm [b + 17] [] w w' → K w') : MetV m_Bk_layStrata [vr b] w K := by
  have bc := bk_c hb
  have hcl := str_clo hok hk
  have hu0 : ∀ p, 0 ≤ lvl (hgs R n) n p := fun p => lvl_rng.1
  have hu1 : ∀ p, lvl (hgs R n) n p ≤ 1000 := fun p => by have := (lvl_rng (W := hgs R n) (n := n) (p := p)).2; omega
  have csub : ∀ (A : List Edg), (∀ e ∈ A, e ∈ edR R) → clo A (lvl (hgs R n) n) := fun A hA e he => hcl e (hA e he)
  have mem1 : ∀ (R' : List Rul) (r : Rul), r ∈ R' → ∀ e ∈ edL r r.2.2.2.2, e ∈ edR R' := by
    intro R'
    induction R' with
    | nil => intro r hr; cases hr
    | cons x R' ihR =>
      intro r hr e he
      rcases List.mem_cons.mp hr with hr | hr
      · rw [hr] at he; exact List.mem_append.mpr (Or.inl he)
      · exact List.mem_append.mpr (Or.inr (ihR r hr e he))
  have inner : ∀ (m : Nat), m < n → (∀ w', (∀ p, p < n → gI w' (b + 17) p = itr (edR R) (m + 1) p) → Frm [b + 17] [] w w' → Wp m_Bk_layStrata 2 [(0, vr b), (1, vi ((m : Int) + 1))] [] (0, 0) w' (fun r w' => r = none ∧ K w')) → ∀ (k j : Nat) (w1 : Wo), R.length - j ≤ k → j ≤ R.length → (∀ p, p < n → gI w1 (b + 17) p = rnd (edR (R.take j)) (itr (edR R) m) p) → Frm [b + 17] [] w w1 → Wp m_Bk_layStrata 12 [(0, vr b), (1, vi (m : Int)), (2, vi (j : Int))] [] (0, 0) w1 (fun r w' => r = none ∧ K w') := by
    intro m hm hK k
    induction k with
    | zero =>
      intro j w1 hk' hj hJ F
      have e : j = R.length := by omega
      have n1 : gI w1 (b + 1) 0 = (R.length : Nat) := by rw [F.1 (b + 1) (by simp)]; exact hR.1
      refine t_Bk_layStrata_12 hb ⟨fun _ => ⟨⟨by omega, by omega⟩, hK w1 (fun p hp => ?_) F⟩, fun z => by omega⟩
      rw [hJ p hp, e, List.take_length]; rfl
    | succ k ih =>
      intro j w1 hk' hj hJ F
      by_cases hjn : j < R.length
      · have n1 : gI w1 (b + 1) 0 = (R.length : Nat) := by rw [F.1 (b + 1) (by simp)]; exact hR.1
        obtain ⟨r, hr⟩ : ∃ r, R[j]? = some r := ⟨_, List.getElem?_eq_getElem hjn⟩
        have hrm := List.mem_of_getElem? hr
        refine t_Bk_layStrata_12 hb ⟨fun z => by omega, fun _ => ?_⟩
        have tsub : ∀ (R' : List Rul) (jj : Nat), ∀ e ∈ edR (R'.take jj), e ∈ edR R' := by
          intro R' jj e he
          obtain ⟨x, x1, x2⟩ := edR_mem he
          exact mem1 R' x (List.mem_of_mem_take x1) e x2
        refine s_Bk_liftHead (u := lvl (hgs R n) n) hb (by rw [F.1 b (by simp)]; exact hn) hn16 (hR.frm F (fun q h1 h2 => by simp <;> omega)) hr (by omega) (hok r hrm) (csub _ (mem1 R r hrm)) hu1 (fun p => ⟨Int.le_trans (itr_0 m p) (rnd_ge _ _ p), rnd_le _ _ _ (itr_le hu0 hcl m) (csub _ (tsub R j)) p⟩) hJ (fun w2 hw2 F2 => ⟨⟨by omega, by omega⟩, ih (j + 1) w2 (by omega) (by omega) (fun p hp => ?_) (F.tr F2)⟩)
        rw [hw2 p hp, take_s hr, edR_app, rnd_app]
      · exact ih j w1 (by omega) hj hJ F
  have outer : ∀ (k m : Nat) (w1 : Wo), n - m ≤ k → m ≤ n → (∀ p, p < n → gI w1 (b + 17) p = itr (edR R) m p) → Frm [b + 17] [] w w1 → Wp m_Bk_layStrata 2 [(0, vr b), (1, vi (m : Int))] [] (0, 0) w1 (fun r w' => r = none ∧ K w') := by
    intro k
    induction k with
    | zero =>
      intro m w1 hk' hm hJ F
      have e : m = n := by omega
      subst e
      have n1 : gI w1 b 1 = (m : Nat) := by rw [F.1 b (by simp)]; exact hn
      exact t_Bk_layStrata_2 hb ⟨fun _ => ⟨rfl, h w1 hJ F⟩, fun z => by omega⟩
    | succ k ih =>
      intro m w1 hk' hm hJ F
      by_cases hmn : m < n
      · have n1 : gI w1 b 1 = (n : Nat) := by rw [F.1 b (by simp)]; exact hn
        refine t_Bk_layStrata_2 hb ⟨fun z => by omega, fun _ => ?_⟩
        exact inner m hmn (fun w' hw' F' => ih (m + 1) w' (by omega) (by omega) hw' F') R.length 0 w1 (by omega) (Nat.zero_le _) hJ F
      · exact ih m w1 (by omega) hm hJ F
  exact met_of (by decide) rfl (Nat.le_of_ble_eq_true rfl) (t_Bk_layStrata_0 hb (outer n 0 w (by omega) (Nat.zero_le _) hC Frm.rf))
/-- a book that is finished -/
def BookC (b : Nat) (s : PSt) (w : Wo) : Prop := gI w b 1 = s.1.length ∧ (∀ i x, s.1[i]? = some x → gJ w (b + 13) i = x.1 ∧ gI w (b + 14) i = x.2) ∧ (∀ i, i < s.1.length → gI w (b + 15) i = (rcR s.2.1 i : Nat) ∧ gI w (b + 16) i = (fcR s.2.2.1 i : Nat) ∧ gI w (b + 17) i = str s.2.1 s.1.length i ∧ gI w (b + 18) i = (wrm (hgR s.2.1) s.1.length i : Nat)) ∧ RlC b s.2.1 w
theorem wrm_hgs {R : List Rul} {n : Nat} : (fun a b => (wrm (hgR R) n a).testBit b) = hgs R n := by
  funext a b
  exact wrm_bit n a b
theorem s_Rd_finish {T : Tks} {nb b a : Nat} {s : PSt} {w : Wo} {K : Wo → Prop} (hb : isBk b) (hW : WfS s a) (hP : PC T nb b s a w) (hf : s.2.2.2.1 = 0) (h1 : ∀ q, kn (hgs s.2.1 s.1.length) s.2.1 = some q → ∀ w', gI w' 4 4 = 4 → gI w' 4 5 = q → FG b w w' → K w') (h0 : kn (hgs s.2.1 s.1.length) s.2.1 = none → ∀ w', BookC b s w' → gI w' 4 4 = 0 → gI w' 4 5 = 0 → FG b w w' → K w') : MetV m_Rd_finish [vr 4] w K := by
  have bc := bk_c hb
  obtain ⟨hs, hbt, hR, ⟨fc, hB, hfz, hfr, hfe⟩, hFc⟩ := hP
  obtain ⟨b1, b2, b3, b4⟩ := id hB
  have hro := hW.ro
  refine met_of (by decide) rfl (Nat.le_of_ble_eq_true rfl) (t_Rd_finish_0 ?_)
  rw [hbt]
  refine ⟨hb, s_Bk_spreadHanging (H := hgR s.2.1) hb b1 b2 (hgR_lt hro) (fun p hp => (b4 p hp).2.2.2) (fun w2 H2 F2 => ?_)⟩
  have hbt2 : gP w2 4 3 = b := by rw [F2.2.2]; exact hbt
  rw [hbt2]
  have n2 : gI w2 b 1 = (s.1.length : Nat) := by rw [F2.1 b (by simp)]; exact b1
  have R2 : RlC b s.2.1 w2 := hR.frm F2 (fun q h1 h2 => by simp <;> omega)
  refine ⟨hb, s_Bk_knotPlace (H := wrm (hgR s.2.1) s.1.length) hb n2 b2 R2 hW.2.2.1 hW.2.2.2.1 (wrm_lt (hgR_lt hro) _) H2 (fun q e => ⟨fun z => ?_, fun _ => ?_⟩) (fun e => ⟨fun _ => ?_, fun z => absurd rfl z⟩)⟩
  · rw [wrm_hgs] at e
    exfalso
    have : ∀ (R : List Rul), (∀ r ∈ R, RuOK s.1.length r) → ∀ q, kn (hgs s.2.1 s.1.length) R = some q → 0 ≤ q := by
      intro R
      induction R with
      | nil => intro _ q h; cases h
      | cons r R ih =>
        intro hr q h
        cases e : knL (hgs s.2.1 s.1.length) r r.2.2.2.2 with
        | none => rw [kn_n e] at h; exact ih (fun x hx => hr x (List.mem_cons_of_mem _ hx)) q h
        | some q2 =>
          rw [kn_s e] at h
          injection h with h
          subst h
          obtain ⟨u1, u2, u3, u4, u5, u6, u7, u8, u9, u10, u11, u12, u13⟩ := hr r (List.mem_cons_self ..)
          have : ∀ (ls : List Lit), (∀ L ∈ ls, 0 ≤ L.2.1) → ∀ q, knL (hgs s.2.1 s.1.length) r ls = some q → 0 ≤ q := by
            intro ls
            induction ls with
            | nil => intro _ q h; cases h
            | cons L ls ih2 =>
              intro hl q h
              have h : (if (0 < r.2.2.1 ∨ L.1 = 1) ∧ (L.1 = 0 ∨ L.1 = 1) ∧ lbk (hgs s.2.1 s.1.length) r.1 L.2.2.1 = true then some (if r.2.2.1 ≤ 0 then L.2.1 else r.2.2.2.1) else knL (hgs s.2.1 s.1.length) r ls) = some q := h
              split at h
              · injection h with h
                rw [← h]
                have := hl L (List.mem_cons_self ..)
                split <;> omega
              · exact ih2 (fun x hx => hl x (List.mem_cons_of_mem _ hx)) q h
          exact this _ (fun L hL => (u13 L hL).1) q2 e
    have := this s.2.1 hW.2.2.2.1 q e
    omega
  · rw [wrm_hgs] at e
    have k0 : gI w2 4 4 = 0 := by rw [F2.1 4 (by simp <;> omega)]; exact hs.2.2.2.1.trans hf
    refine met_of (by decide) rfl (Nat.le_of_ble_eq_true rfl) (t_Rd_note_0 ⟨fun z w4 e4 w6 e6 => ⟨rfl, ⟨rfl, h1 q e w6 ?_ ?_ ?_⟩⟩, fun z => absurd k0 z⟩)
    · rw [e6, gI_uI, if_neg (by omega), e4, gI_uI, if_pos ⟨rfl, rfl⟩]
    · rw [e6, gI_uI, if_pos ⟨rfl, rfl⟩]
    · refine Frm.tr (F2.sub (by simp) (by simp)) ?_
      rw [e6, e4]
      exact (Frm.rf.uI (by simp)).uI (by simp)
  · rw [wrm_hgs] at e
    rw [hbt2]
    refine ⟨hb, s_Bk_layStrata hb n2 b2 R2 hW.2.2.1 hW.2.2.2.1 e (fun p hp => by rw [F2.1 (b + 17) (by simp)]; exact (b4 p hp).2.2.1) (fun w7 S7 F7 => ⟨rfl, h0 e w7 ⟨?_, fun i x hx => ?_, fun i hi => ⟨?_, ?_, S7 i hi, ?_⟩, R2.frm F7 (fun q h1 h2 => by simp <;> omega)⟩ ?_ ?_ ((F2.sub (by simp) (by simp)).tr (F7.sub (by simp) (by simp)))⟩)⟩
    · rw [F7.1 b (by simp)]; exact n2
    · rw [F7.2.1 _ (by simp), F7.1 (b + 14) (by simp), F2.2.1 _ (by simp), F2.1 (b + 14) (by simp)]; exact b3 i x hx
    · rw [F7.1 (b + 15) (by simp), F2.1 (b + 15) (by simp)]; exact (b4 i hi).1
    · rw [F7.1 (b + 16) (by simp), F2.1 (b + 16) (by simp), (b4 i hi).2.1]; exact hfe hf i
    · rw [F7.1 (b + 18) (by simp)]; exact H2 i hi
    · rw [F7.1 4 (by simp <;> omega), F2.1 4 (by simp <;> omega)]
      exact hs.2.2.2.1.trans hf
    · rw [F7.1 4 (by simp <;> omega), F2.1 4 (by simp <;> omega)]
      exact hs.2.2.2.2.trans (hW.2.1.2.2.2.2.2 hf)

/-! the reference: facts, heads -/
def MS0 (T : Tks) (nb a : Nat) (f : Int × Int) (w : Wo) : Prop := MkT T nb w ∧ a ≤ nb ∧ gI w 78 10 = a ∧ gI w 78 3 = f.1 ∧ gI w 78 4 = f.2 ∧ f.1 ≠ 1
theorem MS.m0 {T : Tks} {nb a c : Nat} {V : PL} {f : Int × Int} {w : Wo} (h : MS T nb a c V f w) : MS0 T nb a f w := ⟨h.1, h.2.1, h.2.2.1, h.2.2.2.2.2⟩
def RuM (c : Nat) (r : Rul) (w : Wo) : Prop := gI w 89 c = r.1 ∧ gI w 95 c = r.2.1 ∧ gI w 92 c = (if 0 < r.2.2.1 then r.2.2.1 + 1 else 0) ∧ (0 < r.2.2.1 → gI w 110 c = r.2.2.2.1) ∧ LsM c r.2.2.2.2 w
def RsM (sd : Nat) (R : List Rul) (w : Wo) : Prop := gI w 88 sd = R.length ∧ R.length ≤ 30 ∧ (∀ r ∈ R, r.2.2.2.2.length ≤ 6) ∧ ∀ i r, R[i]? = some r → RuM (30 * sd + i) r w
def ruI (c : Nat) : OkF := fun o k => ((o = 89 ∨ o = 92 ∨ o = 95 ∨ o = 110 ∨ o = 94) ∧ k = c) ∨ ((o = 96 ∨ o = 97 ∨ o = 108 ∨ o = 109) ∧ 6 * c ≤ k ∧ k < 6 * c + 6) ∨ (o = 98 ∧ 24 * c ≤ k ∧ k < 24 * c + 24)
def ruJ (c : Nat) : OkF := fun o k => o = 99 ∧ 24 * c ≤ k ∧ k < 24 * c + 24
theorem RuM.fx {c : Nat} {r : Rul} {w w' : Wo} {A B : OkF} (h : RuM c r w) (h6 : r.2.2.2.2.length ≤ 6) (hf : FX A B w w') (hA : ∀ o k, A o k → ¬ ruI c o k) (hB : ∀ o k, B o k → ¬ ruJ c o k) : RuM c r w' := by
  obtain ⟨h1, h2, h3, h4, h5⟩ := h
  have e : ∀ o k, ruI c o k → gI w' o k = gI w o k := fun o k z => hf.1 o k (fun q => hA o k q z)
  refine ⟨by rw [e 89 c (by unfold ruI; omega)]; exact h1, by rw [e 95 c (by unfold ruI; omega)]; exact h2, by rw [e 92 c (by unfold ruI; omega)]; exact h3, fun q => by rw [e 110 c (by unfold ruI; omega)]; exact h4 q, h5.fx hf (fun o k z q => hA o k z (by unfold lsI at q; unfold ruI; omega)) (fun o k z q => hB o k z (by unfold lsJ at q; unfold ruJ; omega))⟩
/-- what the rules of one side take -/
def rsI (sd : Nat) : OkF := fun o k => (o = 88 ∧ k = sd) ∨ ((o = 89 ∨ o = 92 ∨ o = 95 ∨ o = 110 ∨ o = 94) ∧ 30 * sd ≤ k ∧ k < 30 * sd + 30) ∨ ((o = 96 ∨ o = 97 ∨ o = 108 ∨ o = 109) ∧ 180 * sd ≤ k ∧ k < 180 * sd + 180) ∨ (o = 98 ∧ 720 * sd ≤ k ∧ k < 720 * sd + 720)
def rsJ (sd : Nat) : OkF := fun o k => o = 99 ∧ 720 * sd ≤ k ∧ k < 720 * sd + 720
def FaM (sd : Nat) (F : List Fct) (f : Int × Int) (a : Nat) (w : Wo) : Prop := ∃ n : Nat, gI w 100 sd = n ∧ 5 * n ≤ a ∧ (f.1 = 0 → n = F.length ∧ ∀ i x, F[i]? = some x → gI w 101 (200 * sd + i) = x.1 ∧ ∀ k t, x.2[k]? = some t → gJ w 102 (4 * (200 * sd + i) + k) = rv t)
theorem FaM.fx {sd a : Nat} {F : List Fct} {f : Int × Int} {w w' : Wo} {A B : OkF} (h : FaM sd F f a w) (ha : a ≤ 600) (hF : f.1 = 0 → ∀ x ∈ F, x.2.length ≤ 4) (hf : FX A B w w') (hA : ∀ o k, A o k → ¬ ((o = 100 ∧ k = sd) ∨ (o = 101 ∧ 200 * sd ≤ k ∧ k < 200 * sd + 200))) (hB : ∀ o k, B o k → ¬ (o = 102 ∧ 800 * sd ≤ k ∧ k < 800 * sd + 800)) : FaM sd F f a w' := by
  obtain ⟨n, h1, h2, h3⟩ := h
  have e : ∀ o k, ((o = 100 ∧ k = sd) ∨ (o = 101 ∧ 200 * sd ≤ k ∧ k < 200 * sd + 200)) → gI w' o k = gI w o k := fun o k z => hf.1 o k (fun q => hA o k q z)
  have e2 : ∀ o k, (o = 102 ∧ 800 * sd ≤ k ∧ k < 800 * sd + 800) → gJ w' o k = gJ w o k := fun o k z => hf.2.1 o k (fun q => hB o k q z)
  refine ⟨n, by rw [e 100 sd (by omega)]; exact h1, h2, fun q => ?_⟩
  obtain ⟨h4, h5⟩ := h3 q
  refine ⟨h4, fun i x hx => ?_⟩
  have hi := (List.getElem?_eq_some_iff.mp hx).1
  have hl := hF q x (List.mem_of_getElem? hx)
  obtain ⟨h6, h7⟩ := h5 i x hx
  refine ⟨by rw [e 101 _ (by omega)]; exact h6, fun k t ht => ?_⟩
  have hk := (List.getElem?_eq_some_iff.mp ht).1
  rw [e2 102 _ (by omega)]
  exact h7 k t ht
theorem rv_inj {t u : Int} (ht : valT t) (hu : valT u) : rv t = rv u ↔ t = u := by
  obtain ⟨t1, t2⟩ := ht
  obtain ⟨u1, u2⟩ := hu
  unfold tmOK at t1 u1
  constructor
  · intro h
    unfold rv at h
    rw [if_neg (show ¬ 281474976710656 ≤ t by omega), if_neg (show ¬ 281474976710656 ≤ u by omega)] at h
    by_cases c1 : 17592186044416 ≤ t
    · rw [if_pos c1] at h
      by_cases c2 : 17592186044416 ≤ u
      · rw [if_pos c2] at h
        have := (c8_inj (x := t - 17592186044416) (y := u - 17592186044416) (by omega) (by omega)).mp (by omega)
        omega
      · rw [if_neg c2] at h
        have := c8_rng (t - 17592186044416)
        omega
    · rw [if_neg c1] at h
      by_cases c2 : 17592186044416 ≤ u
      · rw [if_pos c2] at h
        have := c8_rng (u - 17592186044416)
        omega
      · rw [if_neg c2] at h; exact h
  · intro h; rw [h]
/-- the reference's fact i is the one in the arguments -/
def smM (sd i : Nat) (ar : List Int) (w : Wo) : Prop := gI w 101 (200 * sd + i) = gI w 78 45 ∧ ∀ k t, ar[k]? = some t → gJ w 102 (4 * (200 * sd + i) + k) = rv t
theorem s_M_findFact {sd n : Nat} {ar : List Int} {w : Wo} {K : Int → Wo → Prop} (hsd : sd < 2) (h37 : gI w 78 37 = (sd : Int)) (hn : gI w 100 sd = (n : Int)) (hn2 : n ≤ 120) (hA : ArM ar w) (hv : ∀ t ∈ ar, t ≠ 4503599627370496) (h1 : (∃ i, i < n ∧ smM sd i ar w) → ∀ z, z ≠ -1 → K z w) (h0 : ¬ (∃ i, i < n ∧ smM sd i ar w) → K (-1) w) : MetI m_M_findFact [vr 78] w K := by
  obtain ⟨g1, g2, g3⟩ := hA
  have outer : ∀ (m i : Nat), n - i ≤ m → i ≤ n → (∀ j, j < i → ¬ smM sd j ar w) → Wp m_M_findFact 9 [(0, vr 78), (1, vi (200 * (sd : Int) + (i : Int)))] [] (0, 0) w (fun r w' => ∃ y, r = some (vi y) ∧ K y w') := by
    intro m
    induction m with
    | zero =>
      intro i hm hi hj
      have e : i = n := by omega
      refine t_M_findFact_9 ?_
      rw [h37, show ((sd : Int)).toNat = sd from rfl, hn]
      refine ⟨⟨by omega, by omega⟩, ⟨by omega, by omega⟩, ⟨by omega, by omega⟩, fun _ => kI (h0 (fun ⟨j, q1, q2⟩ => hj j (by omega) q2)), fun z => by omega⟩
    | succ m ih =>
      intro i hm hi hj
      by_cases hin : i < n
      · have nxt : ¬ smM sd i ar w → inr32 (200 * (sd : Int) + (i : Int) + 1) ∧ Wp m_M_findFact 9 [(0, vr 78), (1, vi (200 * (sd : Int) + (i : Int) + 1))] [] (0, 0) w (fun r w' => ∃ y, r = some (vi y) ∧ K y w') := by
          intro hne
          refine ⟨⟨by omega, by omega⟩, ?_⟩
          rw [show 200 * (sd : Int) + (i : Int) + 1 = 200 * (sd : Int) + ((i + 1 : Nat) : Int) by omega]
          refine ih (i + 1) (by omega) (by omega) (fun j hj2 => ?_)
          by_cases e : j = i
          · rw [e]; exact hne
          · exact hj j (by omega)
        have inner : gI w 101 (200 * sd + i) = gI w 78 45 → ∀ (m2 k : Nat), ar.length - k ≤ m2 → k ≤ ar.length → (∀ j t, j < k → ar[j]? = some t → gJ w 102 (4 * (200 * sd + i) + j) = rv t) → Wp m_M_findFact 52 [(0, vr 78), (1, vi (200 * (sd : Int) + (i : Int))), (2, vi 1), (3, vi (k : Int))] [] (0, 0) w (fun r w' => ∃ y, r = some (vi y) ∧ K y w') := by
          intro ho m2
          induction m2 with
          | zero =>
            intro k hm2 hk hk2
            have e : k = ar.length := by omega
            refine t_M_findFact_52 ⟨fun q => absurd q (by decide), fun _ => ⟨fun _ => ⟨fun q => absurd q (by decide), fun _ => kI (h1 ⟨i, hin, ho, fun j t ht => hk2 j t (by have := (List.getElem?_eq_some_iff.mp ht).1; omega) ht⟩ _ (by omega))⟩, fun z => by rw [g1] at z; omega⟩⟩
          | succ m2 ih2 =>
            intro k hm2 hk hk2
            by_cases hkl : k < ar.length
            · have ht := getD_in hkl
              have q := (g3 k _ ht).2 (hv _ (List.mem_of_getElem? ht))
              refine t_M_findFact_52 ⟨fun q => absurd q (by decide), fun _ => ⟨fun z => by rw [g1] at z; omega, fun _ => ?_⟩⟩
              rw [show (4 * (200 * (sd : Int) + (i : Int)) + (k : Int)).toNat = 4 * (200 * sd + i) + k by omega, show ((k : Int)).toNat = k from rfl, q, lcmp0]
              refine ⟨⟨by omega, by omega⟩, ⟨by omega, by omega⟩, ⟨by omega, by omega⟩, ⟨by omega, by omega⟩, fun z => ⟨⟨by omega, by omega⟩, ?_⟩, fun z => ⟨⟨by omega, by omega⟩, ih2 (k + 1) (by omega) (by omega) (fun j t hj2 hjt => ?_)⟩⟩
              · refine t_M_findFact_52 ⟨fun _ => ⟨fun _ => nxt (fun q2 => z (q2.2 k _ ht)), fun q => absurd rfl q⟩, fun q => absurd rfl q⟩
              · by_cases e : j = k
                · subst e
                  rw [ht] at hjt
                  injection hjt with hjt
                  rw [← hjt]; exact z
                · exact hk2 j t (by omega) hjt
            · exact ih2 k (by omega) hk hk2
        refine t_M_findFact_9 ?_
        rw [h37, show ((sd : Int)).toNat = sd from rfl, hn, show (200 * (sd : Int) + (i : Int)).toNat = 200 * sd + i by omega]
        refine ⟨⟨by omega, by omega⟩, ⟨by omega, by omega⟩, ⟨by omega, by omega⟩, fun z => by omega, fun _ => ⟨⟨by omega, by omega⟩, fun z => ?_, fun z => inner z ar.length 0 (by omega) (Nat.zero_le _) (fun j t hj => by omega)⟩⟩
        exact t_M_findFact_52 ⟨fun _ => ⟨fun _ => nxt (fun q2 => z q2.1), fun q => absurd rfl q⟩, fun q => absurd rfl q⟩
      · exact ih i (by omega) hi hj
  refine met_of (by decide) rfl (Nat.le_of_ble_eq_true rfl) (t_M_findFact_0 ?_)
  rw [h37]
  have := outer n 0 (by omega) (Nat.zero_le _) (fun j hj => by omega)
  rw [show 200 * (sd : Int) + ((0 : Nat) : Int) = 200 * (sd : Int) by omega] at this
  exact ⟨⟨by omega, by omega⟩, this⟩
def oK (sd n : Nat) : OkF := fun o k => (o = 100 ∧ k = sd) ∨ (o = 101 ∧ k = 200 * sd + n)
def oKJ (sd n : Nat) : OkF := fun o k => o = 102 ∧ 4 * (200 * sd + n) ≤ k ∧ k < 4 * (200 * sd + n) + 4
theorem s_M_addFact {sd n : Nat} {ar : List Int} {w : Wo} {K : Wo → Prop} (hsd : sd < 2) (h37 : gI w 78 37 = (sd : Int)) (hn : gI w 100 sd = (n : Int)) (hn2 : n < 120) (hA : ArM ar w) (hv : ∀ t ∈ ar, t ≠ 4503599627370496) (h : ∀ w', gI w' 100 sd = (n : Int) + 1 → gI w' 101 (200 * sd + n) = gI w 78 45 → (∀ k t, ar[k]? = some t → gJ w' 102 (4 * (200 * sd + n) + k) = rv t) → FX (oK sd n) (oKJ sd n) w w' → K w') : MetV m_M_addFact [vr 78] w K := by
  obtain ⟨g1, g2, g3⟩ := hA
  refine met_of (by decide) rfl (Nat.le_of_ble_eq_true rfl) (t_M_addFact_0 ?_)
  rw [h37, show ((sd : Int)).toNat = sd from rfl, hn, show (200 * (sd : Int) + (n : Int)).toNat = 200 * sd + n by omega]
  refine ⟨⟨by omega, by omega⟩, ⟨by omega, by omega⟩, ⟨by omega, by omega⟩, ⟨by omega, by omega⟩, fun w3 e3 => ?_⟩
  have F3 : FX (oK sd n) (oKJ sd n) w w3 := by rw [e3]; exact FX.rf.uI (Or.inr ⟨rfl, rfl⟩)
  have lp : ∀ (m k : Nat) (w1 : Wo), ar.length - k ≤ m → k ≤ ar.length → (∀ j t, j < k → ar[j]? = some t → gJ w1 102 (4 * (200 * sd + n) + j) = rv t) → gI w1 101 (200 * sd + n) = gI w 78 45 → gI w1 100 sd = (n : Int) → FX (oK sd n) (oKJ sd n) w w1 → Wp m_M_addFact 31 [(0, vr 78), (1, vi (200 * (sd : Int) + (n : Int))), (2, vi (k : Int))] [] (0, 0) w1 (fun r w' => r = none ∧ K w') := by
    intro m
    induction m with
    | zero =>
      intro k w1 hm hk hj h101 h100 F
      have e : k = ar.length := by omega
      have x38 : gI w1 78 38 = (ar.length : Int) := by rw [F.1 78 38 (by unfold oK; omega)]; exact g1
      have x37 : gI w1 78 37 = (sd : Int) := by rw [F.1 78 37 (by unfold oK; omega)]; exact h37
      refine t_M_addFact_31 ?_
      rw [x38, x37, show ((sd : Int)).toNat = sd from rfl, h100]
      refine ⟨fun _ => ⟨⟨by omega, by omega⟩, ⟨by omega, by omega⟩, ⟨by omega, by omega⟩, fun w4 e4 => ⟨rfl, h w4 ?_ ?_ (fun j t ht => ?_) ?_⟩⟩, fun z => by omega⟩
      · rw [e4, gI_uI, if_pos ⟨rfl, rfl⟩]
      · rw [e4, gI_uI, if_neg (by omega)]; exact h101
      · rw [e4, gJ_uI]; exact hj j t (by have := (List.getElem?_eq_some_iff.mp ht).1; omega) ht
      · rw [e4]; exact F.uI (Or.inl ⟨rfl, rfl⟩)
    | succ m ih =>
      intro k w1 hm hk hj h101 h100 F
      by_cases hkl : k < ar.length
      · have ht := getD_in hkl
        have q := (g3 k _ ht).2 (hv _ (List.mem_of_getElem? ht))
        have x38 : gI w1 78 38 = (ar.length : Int) := by rw [F.1 78 38 (by unfold oK; omega)]; exact g1
        refine t_M_addFact_31 ?_
        rw [x38, show (4 * (200 * (sd : Int) + (n : Int)) + (k : Int)).toNat = 4 * (200 * sd + n) + k by omega, show ((k : Int)).toNat = k from rfl]
        refine ⟨fun z => by omega, fun _ => ⟨⟨by omega, by omega⟩, ⟨by omega, by omega⟩, ⟨by omega, by omega⟩, ⟨by omega, by omega⟩, fun w7 e7 => ⟨⟨by omega, by omega⟩, ?_⟩⟩⟩
        refine ih (k + 1) w7 (by omega) (by omega) (fun j t hj2 hjt => ?_) (by rw [e7, gI_uJ]; exact h101) (by rw [e7, gI_uJ]; exact h100) (by rw [e7]; exact F.uJ ⟨rfl, by omega, by omega⟩)
        rw [e7, gJ_uJ]
        by_cases e : j = k
        · subst e
          rw [if_pos ⟨rfl, rfl⟩]
          rw [ht] at hjt
          injection hjt with hjt
          rw [← hjt, F.2.1 107 _ (by unfold oKJ; omega)]; exact q
        · rw [if_neg (by omega)]; exact hj j t (by omega) hjt
      · exact ih k w1 (by omega) hk hj h101 h100 F
  exact lp ar.length 0 w3 (by omega) (Nat.zero_le _) (fun j t hj => by omega) (by rw [e3, gI_uI, if_pos ⟨rfl, rfl⟩]) (by rw [e3, gI_uI, if_neg (by omega)]; exact hn) F3
def oH (c : Nat) : OkF := fun o k => ((o = 89 ∨ o = 92 ∨ o = 93 ∨ o = 110) ∧ k = c) ∨ (o = 90 ∧ 4 * c ≤ k ∧ k < 4 * c + 4)
def oHJ (c : Nat) : OkF := fun o k => o = 91 ∧ 4 * c ≤ k ∧ k < 4 * c + 4
theorem s_M_layHead {c : Nat} {ar : List Int} {w : Wo} {K : Wo → Prop} (hc : gI w 78 31 = (c : Int)) (hc2 : c < 61) (hA : ArM ar w) (h : ∀ w', gI w' 89 c = gI w 78 45 → gI w' 92 c = gI w 78 42 → gI w' 110 c = gI w 78 44 → FX (oH c) (oHJ c) w w' → K w') : MetV m_M_layHead [vr 78] w K := by
  obtain ⟨g1, g2, g3⟩ := hA
  refine met_of (by decide) rfl (Nat.le_of_ble_eq_true rfl) (t_M_layHead_0 ?_)
  rw [hc, show ((c : Int)).toNat = c from rfl]
  refine ⟨⟨by omega, by omega⟩, fun w2 e2 => ?_⟩
  have F2 : FX (oH c) (oHJ c) w w2 := by rw [e2]; exact FX.rf.uI (by unfold oH; omega)
  have lp : ∀ (m k : Nat) (w1 : Wo), ar.length - k ≤ m → k ≤ ar.length → gI w1 89 c = gI w 78 45 → FX (oH c) (oHJ c) w w1 → Wp m_M_layHead 15 [(0, vr 78), (1, vi (k : Int))] [] (0, 0) w1 (fun r w' => r = none ∧ K w') := by
    intro m
    induction m with
    | zero =>
      intro k w1 hm hk h89 F
      have x : ∀ j, gI w1 78 j = gI w 78 j := fun j => F.1 78 j (by unfold oH; omega)
      refine t_M_layHead_15 ?_
      rw [x 38, g1, x 31, hc, show ((c : Int)).toNat = c from rfl, x 42]
      refine ⟨fun _ => ⟨⟨by omega, by omega⟩, fun w3 e3 => ?_⟩, fun z => by omega⟩
      have y : ∀ j, gI w3 78 j = gI w 78 j := fun j => by rw [e3, gI_uI, if_neg (by omega)]; exact x j
      rw [y 31, hc, show ((c : Int)).toNat = c from rfl]
      refine ⟨⟨by omega, by omega⟩, fun w5 e5 => ?_⟩
      have z5 : ∀ j, gI w5 78 j = gI w 78 j := fun j => by rw [e5, gI_uI, if_neg (by omega)]; exact y j
      rw [z5 31, hc, show ((c : Int)).toNat = c from rfl, z5 44]
      refine ⟨⟨by omega, by omega⟩, fun w8 e8 => ⟨rfl, h w8 ?_ ?_ ?_ ?_⟩⟩
      · rw [e8, gI_uI, if_neg (by omega), e5, gI_uI, if_neg (by omega), e3, gI_uI, if_neg (by omega)]; exact h89
      · rw [e8, gI_uI, if_neg (by omega), e5, gI_uI, if_neg (by omega), e3, gI_uI, if_pos ⟨rfl, rfl⟩]
      · rw [e8, gI_uI, if_pos ⟨rfl, rfl⟩]
      · rw [e8, e5, e3]
        exact ((F.uI (by unfold oH; omega)).uI (by unfold oH; omega)).uI (by unfold oH; omega)
    | succ m ih =>
      intro k w1 hm hk h89 F
      by_cases hkl : k < ar.length
      · have x : ∀ j, gI w1 78 j = gI w 78 j := fun j => F.1 78 j (by unfold oH; omega)
        refine t_M_layHead_15 ?_
        rw [x 38, g1, x 31, hc, show (4 * (c : Int) + (k : Int)).toNat = 4 * c + k by omega, show ((k : Int)).toNat = k from rfl]
        refine ⟨fun z => by omega, fun _ => ⟨⟨by omega, by omega⟩, ⟨by omega, by omega⟩, ⟨by omega, by omega⟩, ⟨by omega, by omega⟩, fun w12 e12 => ?_⟩⟩
        have y : gI w12 78 31 = (c : Int) := by rw [e12, gI_uI, if_neg (by omega), x 31]; exact hc
        rw [y, show (4 * (c : Int) + (k : Int)).toNat = 4 * c + k by omega]
        refine ⟨⟨by omega, by omega⟩, ⟨by omega, by omega⟩, ⟨by omega, by omega⟩, ⟨by omega, by omega⟩, fun w16 e16 => ⟨⟨by omega, by omega⟩, ih (k + 1) w16 (by omega) (by omega) ?_ ?_⟩⟩
        · rw [e16, gI_uJ, e12, gI_uI, if_neg (by omega)]; exact h89
        · rw [e16, e12]
          exact (F.uI (by unfold oH; omega)).uJ (by unfold oHJ; omega)
      · exact ih k w1 (by omega) hk h89 F
  exact lp ar.length 0 w2 (by omega) (Nat.zero_le _) (by rw [e2, gI_uI, if_pos ⟨rfl, rfl⟩]) F2
def oN (c : Nat) : OkF := fun o k => (o = 78 ∧ (k = 31 ∨ k = 41 ∨ k = 42)) ∨ ((o = 92 ∨ o = 94 ∨ o = 95) ∧ k = c)
theorem s_M_beginClause {T : Tks} {nb a c : Nat} {f : Int × Int} {w : Wo} {K : Wo → Prop} (hs : MS0 T nb a f w) (hc : c < 61) (h : ∀ w', MS T nb a c [] f w' → LsM c [] w' → HdM T [] (0, 0) a w' → gI w' 92 c = 0 → FX (oN c) o0 w w' → K w') : MetV m_M_beginClause [vr 78, vi (c : Int)] w K := by
  obtain ⟨t1, t2, t3, t4, t5, t6⟩ := hs
  refine met_of (by decide) rfl (Nat.le_of_ble_eq_true rfl) (t_M_beginClause_0 (fun w1 e1 => ⟨⟨by omega, by omega⟩, fun w4 e4 => ⟨⟨by omega, by omega⟩, fun w7 e7 => ⟨⟨by omega, by omega⟩, fun w10 e10 w12 e12 w14 e14 => ⟨rfl, ?_⟩⟩⟩⟩))
  rw [show ((c : Int)).toNat = c from rfl] at e4 e7 e10
  have F : FX (oN c) o0 w w14 := by
    rw [e14, e12, e10, e7, e4, e1]
    exact (((((FX.rf.uI (by unfold oN; omega)).uI (by unfold oN; omega)).uI (by unfold oN; omega)).uI (by unfold oN; omega)).uI (by unfold oN; omega)).uI (by unfold oN; omega)
  have u : ∀ o k, gI w14 o k = if o = 78 ∧ k = 41 then -1 else if o = 78 ∧ k = 42 then 0 else if o = 92 ∧ k = c then 0 else if o = 94 ∧ k = c then 0 else if o = 95 ∧ k = c then 0 else if o = 78 ∧ k = 31 then (c : Int) else gI w o k := fun o k => by
    rw [e14, gI_uI, e12, gI_uI, e10, gI_uI, e7, gI_uI, e4, gI_uI, e1, gI_uI]
  have n9 : ∀ o k, gJ w14 o k = gJ w o k := fun o k => F.2.1 o k (fun q => q)
  refine h w14 ⟨fun i hi => ?_, t2, ?_, ⟨?_, hc⟩, ⟨?_, by decide, fun x hx => (by cases hx), fun i x hx => (by cases hx)⟩, ?_, ?_, t6⟩ ⟨?_, fun i L hL => (by cases hL)⟩ ⟨VOk_nil, ttOK_0, fun q => absurd q (by decide), ⟨?_, fun q => absurd q (by decide)⟩, ?_⟩ ?_ F
  · rw [F.1 80 i (by unfold oN; omega), F.1 81 i (by unfold oN; omega), F.1 82 i (by unfold oN; omega), n9]; exact t1 i hi
  · rw [F.1 78 10 (by unfold oN; omega)]; exact t3
  · rw [u, if_neg (by omega), if_neg (by omega), if_neg (by omega), if_neg (by omega), if_neg (by omega), if_pos ⟨rfl, rfl⟩]
  · rw [u, if_neg (by omega), if_neg (by omega), if_neg (by omega), if_neg (by omega), if_pos ⟨rfl, rfl⟩]; rfl
  · rw [F.1 78 3 (by unfold oN; omega)]; exact t4
  · rw [F.1 78 4 (by unfold oN; omega)]; exact t5
  · rw [u, if_neg (by omega), if_neg (by omega), if_neg (by omega), if_pos ⟨rfl, rfl⟩]; rfl
  · rw [u, if_neg (by omega), if_pos ⟨rfl, rfl⟩]; rfl
  · unfold ffC
    rw [u, if_pos ⟨rfl, rfl⟩]; rfl
  · rw [u, if_neg (by omega), if_neg (by omega), if_pos ⟨rfl, rfl⟩]

/-! the reference's plan; rule and literal -/
def oPl : OkF := fun o _ => 112 ≤ o ∧ o ≤ 116
def RwM (rows : List (Int × Int × Int)) (w : Wo) : Prop := ∀ j r, rows[j]? = some r → gI w 112 j = r.1 ∧ gI w 113 j = r.2.1 ∧ gI w 114 j = r.2.2
theorem or_bit {h v : Nat} (hb : h.testBit v = true) : h ||| 2 ^ v = h := by
  apply Nat.eq_of_testBit_eq
  intro i
  rw [Nat.testBit_or]
  by_cases e : v = i
  · rw [← e, hb]; rfl
  · rw [Nat.testBit_two_pow_of_ne e, Bool.or_false]
theorem LsM.pl {c : Nat} {ls : List Lit} {w w' : Wo} (h : LsM c ls w) (hf : FX oPl o0 w w') : LsM c ls w' := h.fx hf (fun o k z => by unfold oPl at z; unfold lsI; omega) (fun o k z => z.elim)
theorem s_M_plan {c : Nat} {ls : List Lit} {w : Wo} {K : Wo → Prop} (hc : c < 61) (hl : LsM c ls w) (h6 : ls.length ≤ 6) (hok : lisOK ls) (hfull : (plan ls ls.length).2.2.length = ls.length) (h : ∀ w', RwM (plan ls ls.length).2.2 w' → FX oPl o0 w w' → K w') : MetV m_M_plan [vr 78, vi (c : Int)] w K := by
  have hadv : ∀ i, i < ls.length → ¬ nxt ls (plan ls i).2.1 (plan ls i).1 < 0 ∧ (plan ls i).2.2.length = i := by
    intro i hi
    have h1 : ¬ nxt ls (plan ls i).2.1 (plan ls i).1 < 0 := fun q => by
      have := plan_stuck q ls.length (by omega)
      rw [this] at hfull
      have := (plan_rng h6 hok i).2.2
      omega
    rcases plan_adv (ls := ls) i with q | q
    · exact ⟨h1, q⟩
    · exact absurd q h1
  have main : ∀ (m i : Nat) (w1 : Wo), ls.length - i ≤ m → i ≤ ls.length → HsM (plan ls i).1 w1 → TkM (plan ls i).2.1 ls.length w1 → RwM (plan ls i).2.2 w1 → FX oPl o0 w w1 → Wp m_M_plan 46 [(0, vr 78), (1, vi (c : Int)), (2, vi ((popc (plan ls i).1 : Nat) : Int)), (3, vi (i : Int))] [] (0, 0) w1 (fun r w' => r = none ∧ K w') := by
    intro m
    induction m with
    | zero =>
      intro i w1 hm hi hH hT hR F
      have e : i = ls.length := by omega
      subst e
      refine t_M_plan_46 ?_
      rw [show ((c : Int)).toNat = c from rfl, (hl.pl F).1]
      exact ⟨⟨by omega, by omega⟩, fun _ => ⟨rfl, h w1 hR F⟩, fun z => by omega⟩
    | succ m ih =>
      intro i w1 hm hi hH hT hR F
      by_cases hin : i < ls.length
      · obtain ⟨hn, hlen⟩ := hadv i hin
        have hpr := plan_rng h6 hok i
        rcases nxt_rng (ls := ls) (left := (plan ls i).2.1) (hv := (plan ls i).1) with e | ⟨e1, e2, e3⟩
        · omega
        · obtain ⟨k, hk⟩ : ∃ k : Nat, nxt ls (plan ls i).2.1 (plan ls i).1 = (k : Int) := ⟨_, (Int.toNat_of_nonneg e1).symm⟩
          have hpl : plan ls (i + 1) = ((plan ls i).1 ||| vmA (ls.getD k dfL).2.2.2.2, andn (plan ls i).2.1 (2 ^ k), (plan ls i).2.2 ++ [((k : Int), (if (ls.getD k dfL).1 ≤ 1 then ((knA (ls.getD k dfL).2.2.2.2 (plan ls i).1 : Nat) : Int) else 0), ((popc ((plan ls i).1 ||| vmA (ls.getD k dfL).2.2.2.2) : Nat) : Int))]) := by
            rw [plan, if_neg hn, hk]; rfl
          rw [hk] at e1 e2 e3 hn
          have hkl : k < ls.length := by omega
          obtain ⟨L, hL⟩ : ∃ L, ls[k]? = some L := ⟨_, List.getElem?_eq_getElem hkl⟩
          have eL : ls.getD k dfL = L := by rw [List.getD_eq_getElem?_getD, hL]; rfl
          rw [eL] at hpl
          have ho := hok L (List.mem_of_getElem? hL)
          have hkd := ho.kd
          have hvl := vmA_lt ho.1
          -- the terms
          have terms : ∀ (ah : Int) (m2 t : Nat) (w2 : Wo), L.2.2.2.2.length - t ≤ m2 → t ≤ L.2.2.2.2.length → ah = (if L.1 ≤ 1 then ((knA L.2.2.2.2 (plan ls i).1 : Nat) : Int) else 0) → HsM ((plan ls i).1 ||| vmA (L.2.2.2.2.take t)) w2 → TkM (andn (plan ls i).2.1 (2 ^ k)) ls.length w2 → RwM (plan ls i).2.2 w2 → gI w2 112 i = (k : Int) → gI w2 113 i = ah → FX oPl o0 w w2 → Wp m_M_plan 153 [(0, vr 78), (1, vi (c : Int)), (2, vi ((popc ((plan ls i).1 ||| vmA (L.2.2.2.2.take t)) : Nat) : Int)), (3, vi (i : Int)), (5, vi ((6 * c + k : Nat) : Int)), (6, vi (L.2.2.2.2.length : Int)), (7, vi (t : Int))] [] (0, 0) w2 (fun r w' => r = none ∧ K w') := by
            intro ah m2
            induction m2 with
            | zero =>
              intro t w2 hm2 ht hah hH2 hT2 hR2 x112 x113 F2
              have e : t = L.2.2.2.2.length := by omega
              rw [e, List.take_length] at hH2 ⊢
              refine t_M_plan_153 ⟨fun _ => ⟨⟨by omega, by omega⟩, fun w3 e3' => ⟨⟨by omega, by omega⟩, ?_⟩⟩, fun z => by omega⟩
              rw [show ((i : Int)).toNat = i from rfl] at e3'
              have := ih (i + 1) w3 (by omega) (by omega) ?_ ?_ ?_ (by rw [e3']; exact F2.uI ⟨by decide, by decide⟩)
              · rw [hpl] at this; exact this
              · rw [hpl]
                intro v hv
                rw [e3', gI_uI, if_neg (by omega)]; exact hH2 v hv
              · rw [hpl]
                intro v hv
                rw [e3', gI_uI, if_neg (by omega)]; exact hT2 v hv
              · rw [hpl]
                intro j r hr
                rcases getApp hr with ⟨hj, hr⟩ | ⟨hj, hr⟩
                · obtain ⟨q1, q2, q3⟩ := hR2 j r hr
                  have hj : j < i := by rw [hlen] at hj; exact hj
                  refine ⟨?_, ?_, ?_⟩
                  · rw [e3', gI_uI, if_neg (by omega)]; exact q1
                  · rw [e3', gI_uI, if_neg (by omega)]; exact q2
                  · rw [e3', gI_uI, if_neg (by omega)]; exact q3
                · have hj : j = i := by rw [hlen] at hj; exact hj
                  subst hr
                  rw [hj]
                  refine ⟨?_, ?_, ?_⟩
                  · rw [e3', gI_uI, if_neg (by omega)]; exact x112
                  · rw [e3', gI_uI, if_neg (by omega), x113, hah]
                  · rw [e3', gI_uI, if_pos ⟨rfl, rfl⟩]
            | succ m2 ih2 =>
              intro t w2 hm2 ht hah hH2 hT2 hR2 x112 x113 F2
              by_cases htl : t < L.2.2.2.2.length
              · have hg := getD_in htl
                have hts := take_s hg
                have htm := ho.1 _ (List.mem_of_getElem? hg)
                have hLi := (hl.pl F2).2 k L hL
                have hTm := hLi.2.2.2.2.2 t _ hg
                have hl4 := ho.2.1
                have hv256 : (plan ls i).1 ||| vmA (L.2.2.2.2.take t) < 256 := Nat.or_lt_two_pow (n := 8) hpr.1 (vmA_lt (fun x hx => ho.1 x (List.mem_of_mem_take hx)))
                refine t_M_plan_153 ⟨fun z => by omega, fun _ => ?_⟩
                rw [show (4 * ((6 * c + k : Nat) : Int) + (t : Int)).toNat = 4 * (6 * c + k) + t by omega, hTm.1]
                have c1 : inr32 (4 * ((6 * c + k : Nat) : Int)) := ⟨by omega, by omega⟩
                have c2 : inr32 (4 * ((6 * c + k : Nat) : Int) + (t : Int)) := ⟨by omega, by omega⟩
                have c3 : 0 ≤ 4 * ((6 * c + k : Nat) : Int) + (t : Int) ∧ 4 * ((6 * c + k : Nat) : Int) + (t : Int) < 1464 := ⟨by omega, by omega⟩
                have nx : vbN (L.2.2.2.2.getD t 0) = 0 ∨ ((plan ls i).1 ||| vmA (L.2.2.2.2.take t)) ||| vbN (L.2.2.2.2.getD t 0) = ((plan ls i).1 ||| vmA (L.2.2.2.2.take t)) → inr32 ((t : Int) + 1) ∧ Wp m_M_plan 153 [(0, vr 78), (1, vi (c : Int)), (2, vi ((popc ((plan ls i).1 ||| vmA (L.2.2.2.2.take t)) : Nat) : Int)), (3, vi (i : Int)), (5, vi ((6 * c + k : Nat) : Int)), (6, vi (L.2.2.2.2.length : Int)), (7, vi ((t : Int) + 1))] [] (0, 0) w2 (fun r w' => r = none ∧ K w') := by
                  intro hz
                  have he : (plan ls i).1 ||| vmA (L.2.2.2.2.take (t + 1)) = (plan ls i).1 ||| vmA (L.2.2.2.2.take t) := by
                    rw [hts, vmA_app, ← Nat.or_assoc]
                    rcases hz with hz | hz
                    · rw [hz, Nat.or_zero]
                    · exact hz
                  have := ih2 (t + 1) w2 (by omega) (by omega) hah (by rw [he]; exact hH2) hT2 hR2 x112 x113 F2
                  rw [he] at this
                  exact ⟨⟨by omega, by omega⟩, this⟩
                rcases rk_c htm with ⟨r1, r2, r3⟩ | ⟨r1, r2, r3, r4, r5, r6, r7⟩ | ⟨r1, r2, r3, r4⟩
                · rw [r1]
                  exact ⟨c1, c2, c3, fun _ => nx (Or.inl (by unfold vbN; rw [if_neg (by omega)])), fun z => absurd z (by decide)⟩
                · rw [hTm.2 (by omega), r4, l2i8 _ r5, r1]
                  rw [show (((L.2.2.2.2.getD t 0 - 281474976710656).toNat : Nat) : Int).toNat = (L.2.2.2.2.getD t 0 - 281474976710656).toNat from rfl, hH2 _ (by omega)]
                  refine ⟨c1, c2, c3, fun z => absurd rfl z, fun _ => ⟨c1, c2, c3, ⟨by omega, by omega⟩, fun z => ⟨c1, c2, c3, ⟨by omega, by omega⟩, fun w9 e9 => ?_⟩, fun z => nx (Or.inr ?_)⟩⟩
                  · have hbit := b01_0.mp z
                    have hpa := popc_add _ hv256 _ r5 hbit
                    have he : (plan ls i).1 ||| vmA (L.2.2.2.2.take (t + 1)) = ((plan ls i).1 ||| vmA (L.2.2.2.2.take t)) ||| 2 ^ (L.2.2.2.2.getD t 0 - 281474976710656).toNat := by
                      rw [hts, vmA_app, ← Nat.or_assoc, r7]
                    have hp8 := popc_le ((plan ls i).1 ||| vmA (L.2.2.2.2.take t))
                    refine ⟨⟨by omega, by omega⟩, ⟨by omega, by omega⟩, ?_⟩
                    have := ih2 (t + 1) w9 (by omega) (by omega) hah ?_ (fun v hv => by rw [e9, gI_uI, if_neg (by omega)]; exact hT2 v hv) (fun j r hr => ?_) (by rw [e9, gI_uI, if_neg (by omega)]; exact x112) (by rw [e9, gI_uI, if_neg (by omega)]; exact x113) (by rw [e9]; exact F2.uI ⟨by decide, by decide⟩)
                    · rw [he, hpa] at this
                      rw [show ((popc ((plan ls i).1 ||| vmA (L.2.2.2.2.take t)) : Nat) : Int) + 1 = ((popc ((plan ls i).1 ||| vmA (L.2.2.2.2.take t)) + 1 : Nat) : Int) by omega]
                      exact this
                    · rw [he]
                      intro v hv
                      rw [e9, gI_uI, Nat.testBit_or]
                      by_cases ev : v = (L.2.2.2.2.getD t 0 - 281474976710656).toNat
                      · rw [if_pos ⟨rfl, ev⟩, ev, Nat.testBit_two_pow_self, Bool.or_true]; rfl
                      · rw [if_neg (fun q => ev q.2), Nat.testBit_two_pow_of_ne (fun q => ev q.symm), Bool.or_false]; exact hH2 v hv
                    · obtain ⟨q1, q2, q3⟩ := hR2 j r hr
                      refine ⟨?_, ?_, ?_⟩
                      · rw [e9, gI_uI, if_neg (by omega)]; exact q1
                      · rw [e9, gI_uI, if_neg (by omega)]; exact q2
                      · rw [e9, gI_uI, if_neg (by omega)]; exact q3
                  · rw [r7]
                    refine or_bit ?_
                    cases q : ((plan ls i).1 ||| vmA (L.2.2.2.2.take t)).testBit (L.2.2.2.2.getD t 0 - 281474976710656).toNat with
                    | true => rfl
                    | false => rw [q] at z; exact absurd rfl z
                · rw [r1]
                  exact ⟨c1, c2, c3, fun _ => nx (Or.inl r4), fun z => absurd z (by decide)⟩
              · exact ih2 t w2 (by omega) ht hah hH2 hT2 hR2 x112 x113 F2
          refine t_M_plan_46 ?_
          rw [show ((c : Int)).toNat = c from rfl, (hl.pl F).1]
          refine ⟨⟨by omega, by omega⟩, fun z => by omega, fun _ => s_M_nextLiteral hc (hl.pl F) h6 hok hH hT ?_⟩
          rw [hk, show ((k : Int)).toNat = k from rfl, show ((i : Int)).toNat = i from rfl, show 6 * (c : Int) + (k : Int) = ((6 * c + k : Nat) : Int) by omega]
          refine ⟨⟨by omega, by omega⟩, ⟨by omega, by omega⟩, ⟨by omega, by omega⟩, fun w5 e5 => ⟨⟨by omega, by omega⟩, fun w8 e8 => ?_⟩⟩
          have F8 : FX oPl o0 w w8 := by rw [e8, e5]; exact (F.uI ⟨by decide, by decide⟩).uI ⟨by decide, by decide⟩
          have L8 := (hl.pl F8).2 k L hL
          have H8 : HsM (plan ls i).1 w8 := fun v hv => by rw [e8, gI_uI, if_neg (by omega), e5, gI_uI, if_neg (by omega)]; exact hH v hv
          have T8 : TkM (andn (plan ls i).2.1 (2 ^ k)) ls.length w8 := fun v hv => by
            rw [e8, gI_uI, if_neg (by omega), e5, gI_uI, andn_bit]
            by_cases ev : v = k
            · rw [if_pos ⟨rfl, ev⟩, ev, Nat.testBit_two_pow_self]
              simp [b01]
            · rw [if_neg (fun q => ev q.2), Nat.testBit_two_pow_of_ne (fun q => ev q.symm)]
              rw [hT v hv]
              simp
          have R8 : RwM (plan ls i).2.2 w8 := fun j r hr => by
            have hj := (List.getElem?_eq_some_iff.mp hr).1
            rw [hlen] at hj
            obtain ⟨q1, q2, q3⟩ := hR j r hr
            refine ⟨?_, ?_, ?_⟩
            · rw [e8, gI_uI, if_neg (by omega), e5, gI_uI, if_neg (by omega)]; exact q1
            · rw [e8, gI_uI, if_neg (by omega), e5, gI_uI, if_neg (by omega)]; exact q2
            · rw [e8, gI_uI, if_neg (by omega), e5, gI_uI, if_neg (by omega)]; exact q3
          have x8 : gI w8 112 i = (k : Int) := by rw [e8, gI_uI, if_pos ⟨rfl, rfl⟩]
          have fin : ∀ (ah : Int) (w13 : Wo), ah = (if L.1 ≤ 1 then ((knA L.2.2.2.2 (plan ls i).1 : Nat) : Int) else 0) → w13 = uI w8 113 i ah → Wp m_M_plan 153 [(0, vr 78), (1, vi (c : Int)), (2, vi ((popc (plan ls i).1 : Nat) : Int)), (3, vi (i : Int)), (5, vi ((6 * c + k : Nat) : Int)), (6, vi (L.2.2.2.2.length : Int)), (7, vi 0)] [] (0, 0) w13 (fun r w' => r = none ∧ K w') := by
            intro ah w13 hah e13
            have := terms ah L.2.2.2.2.length 0 w13 (by omega) (Nat.zero_le _) hah ?_ (fun v hv => by rw [e13, gI_uI, if_neg (by omega)]; exact T8 v hv) (fun j r hr => ?_) (by rw [e13, gI_uI, if_neg (by omega)]; exact x8) (by rw [e13, gI_uI, if_pos ⟨rfl, rfl⟩]) (by rw [e13]; exact F8.uI ⟨by decide, by decide⟩)
            · rw [List.take_zero, show vmA [] = 0 from rfl, Nat.or_zero] at this
              exact this
            · rw [List.take_zero, show vmA [] = 0 from rfl, Nat.or_zero]
              intro v hv
              rw [e13, gI_uI, if_neg (by omega)]; exact H8 v hv
            · have hj := (List.getElem?_eq_some_iff.mp hr).1
              rw [hlen] at hj
              obtain ⟨q1, q2, q3⟩ := R8 j r hr
              refine ⟨?_, ?_, ?_⟩
              · rw [e13, gI_uI, if_neg (by omega)]; exact q1
              · rw [e13, gI_uI, if_neg (by omega)]; exact q2
              · rw [e13, gI_uI, if_neg (by omega)]; exact q3
          refine s_M_isAtom (by omega) L8 (fun hA => ⟨fun q => absurd q (by decide), fun _ => ?_⟩) (fun hA => ⟨fun _ => ⟨⟨by omega, by omega⟩, fun w13 e13 => ?_⟩, fun q => absurd rfl q⟩)
          · refine s_M_knownIn (by omega) L8 hA ho H8 ⟨⟨by omega, by omega⟩, fun w22 e22 => ?_⟩
            have F22 : FX oPl o0 w w22 := by rw [e22]; exact F8.uI ⟨by decide, by decide⟩
            have L22 := (hl.pl F22).2 k L hL
            refine s_M_isAtom (by omega) L22 (fun _ => ⟨fun q => absurd q (by decide), fun _ => ⟨⟨by omega, by omega⟩, ?_⟩⟩) (fun q => absurd hA q)
            rw [show (((6 * c + k : Nat) : Int)).toNat = 6 * c + k from rfl, (L22.2.2.1 hA).2]
            exact fin _ w22 (by rw [if_pos (by omega)]) e22
          · have F13 : FX oPl o0 w w13 := by rw [e13]; exact F8.uI ⟨by decide, by decide⟩
            have L13 := (hl.pl F13).2 k L hL
            refine s_M_isAtom (by omega) L13 (fun q => absurd q hA) (fun _ => ⟨fun _ => ⟨⟨by omega, by omega⟩, ?_⟩, fun q => absurd rfl q⟩)
            rw [show (((6 * c + k : Nat) : Int)).toNat = 6 * c + k from rfl, L13.1]
            refine ⟨fun z3 => ?_, fun z3 => ?_⟩
            · have hk2 : L.1 = 2 := by omega
              have hlen2 := (ho.k2 hk2).2.1
              have := fin 0 w13 (by rw [if_neg (by omega)]) e13
              rw [hlen2] at this
              exact this
            · have hlen3 := (ho.k3 z3).2.1
              have := fin 0 w13 (by rw [if_neg (by omega)]) e13
              rw [hlen3] at this
              exact this
      · exact ih i w1 (by omega) hi hH hT hR F
  have clr2 : ∀ (m v : Nat) (w1 : Wo), 6 - v ≤ m → v ≤ 6 → HsM 0 w1 → (∀ u, u < v → gI w1 116 u = 0) → FX oPl o0 w w1 → Wp m_M_plan 23 [(0, vr 78), (1, vi (c : Int)), (2, vi (v : Int))] [] (0, 0) w1 (fun r w' => r = none ∧ K w') := by
    intro m
    induction m with
    | zero =>
      intro v w1 hm hv hH hu F
      have T0 : TkM (plan ls 0).2.1 ls.length w1 := fun k hk => by
        rw [hu k (by omega)]
        show (0 : Int) = b01 (!(2 ^ ls.length - 1).testBit k)
        rw [Nat.testBit_two_pow_sub_one, decide_eq_true hk]; rfl
      have p0 : popc (plan ls 0).1 = 0 := by show popc 0 = 0; decide
      have mn := main ls.length 0 w1 (by omega) (Nat.zero_le _) hH T0 (fun j r hr => by cases hr) F
      rw [p0] at mn
      exact t_M_plan_23 ⟨fun _ => mn, fun z => by omega⟩
    | succ m ih =>
      intro v w1 hm hv hH hu F
      by_cases hv6 : v < 6
      · refine t_M_plan_23 ⟨fun z => by omega, fun _ => ⟨⟨by omega, by omega⟩, fun w2 e2 => ⟨⟨by omega, by omega⟩, ih (v + 1) w2 (by omega) (by omega) (fun u hu2 => by rw [e2, gI_uI, if_neg (by omega)]; exact hH u hu2) (fun u hu2 => ?_) (by rw [e2]; exact F.uI ⟨by decide, by decide⟩)⟩⟩⟩
        rw [e2, gI_uI, show ((v : Int)).toNat = v from rfl]
        by_cases eu : u = v
        · rw [if_pos ⟨rfl, eu⟩]
        · rw [if_neg (fun q => eu q.2)]; exact hu u (by omega)
      · exact ih v w1 (by omega) hv hH hu F
  have clr1 : ∀ (m v : Nat) (w1 : Wo), 9 - v ≤ m → v ≤ 9 → (∀ u, u < v → gI w1 115 u = 0) → FX oPl o0 w w1 → Wp m_M_plan 2 [(0, vr 78), (1, vi (c : Int)), (2, vi (v : Int))] [] (0, 0) w1 (fun r w' => r = none ∧ K w') := by
    intro m
    induction m with
    | zero =>
      intro v w1 hm hv hu F
      refine t_M_plan_2 ⟨fun _ => clr2 6 0 w1 (by omega) (Nat.zero_le _) (fun u hu2 => ?_) (fun u hu2 => by omega) F, fun z => by omega⟩
      rw [hu u (by omega)]
      show (0 : Int) = b01 ((0 : Nat).testBit u)
      rw [Nat.zero_testBit]; rfl
    | succ m ih =>
      intro v w1 hm hv hu F
      by_cases hv9 : v < 9
      · refine t_M_plan_2 ⟨fun z => by omega, fun _ => ⟨⟨by omega, by omega⟩, fun w2 e2 => ⟨⟨by omega, by omega⟩, ih (v + 1) w2 (by omega) (by omega) (fun u hu2 => ?_) (by rw [e2]; exact F.uI ⟨by decide, by decide⟩)⟩⟩⟩
        rw [e2, gI_uI, show ((v : Int)).toNat = v from rfl]
        by_cases eu : u = v
        · rw [if_pos ⟨rfl, eu⟩]
        · rw [if_neg (fun q => eu q.2)]; exact hu u (by omega)
      · exact ih v w1 (by omega) hv hu F
  exact met_of (by decide) rfl (Nat.le_of_ble_eq_true rfl) (t_M_plan_0 (clr1 9 0 w (by omega) (Nat.zero_le _) (fun u hu => by omega) FX.rf))

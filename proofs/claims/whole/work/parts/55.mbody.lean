/-! the reference: literals, bodies -/
def oB (c s : Nat) : OkF := fun o k => oR c s o k ∨ (o = 78 ∧ k = 46) ∨ (o = 94 ∧ k = c) ∨ ((o = 96 ∨ o = 97 ∨ o = 108 ∨ o = 109) ∧ 6 * c ≤ k ∧ k < 6 * c + 6) ∨ (o = 98 ∧ 24 * c ≤ k ∧ k < 24 * c + 24)
def oBJ (c s : Nat) : OkF := fun o k => oRJ s o k ∨ (o = 99 ∧ 24 * c ≤ k ∧ k < 24 * c + 24)
theorem oB.r {c s : Nat} {w w' : Wo} (h : FX (oR c s) (oRJ s) w w') : FX (oB c s) (oBJ c s) w w' := h.sub (fun o k z => Or.inl z) (fun o k z => Or.inl z)
theorem oB.q {c s n : Nat} {w w' : Wo} (hn : n < 6) (h : FX (oQ c n) (oQJ c n) w w') : FX (oB c s) (oBJ c s) w w' := h.sub (fun o k z => by
  rcases z with z | z
  · exact Or.inl (Or.inl z)
  · unfold oB; omega) (fun o k z => by
  rcases z with z | z
  · exact Or.inl (Or.inl z)
  · unfold oBJ; omega)
theorem LsM.r {c s : Nat} {ls : List Lit} {w w' : Wo} (h : LsM c ls w) (hf : FX (oR c s) (oRJ s) w w') : LsM c ls w' := h.fx hf (fun o k z => by unfold oR oT oP at z; unfold lsI; omega) (fun o k z => by unfold oRJ oTJ oPJ at z; unfold lsJ; omega)
theorem l_m234 {T : Tks} {nb a c : Nat} {V : PL} {f : Int × Int} {ls : List Lit} {ar : List Int} {kd p ask : Int} {w : Wo} {K : Int → Wo → Prop} (hs : MS T nb a c V f w) (hA : ArM ar w) (hl : LsM c ls w) (h6 : ls.length < 6) (hk : kd = 0 ∨ kd = 1) (e96 : gI w 96 (6 * c + ls.length) = kd) (e108 : gI w 108 (6 * c + ls.length) = p) (e97 : gI w 97 (6 * c + ls.length) = ask) (e109 : gI w 109 (6 * c + ls.length) = ar.length)
    (h1 : ∀ w', MS T nb a c V f w' → LsM c (ls ++ [(kd, p, ask, 0, ar)]) w' → FX (fun o k => (o = 94 ∧ k = c) ∨ (o = 98 ∧ 24 * c + 4 * ls.length ≤ k ∧ k < 24 * c + 4 * ls.length + 4)) (fun o k => o = 99 ∧ 24 * c + 4 * ls.length ≤ k ∧ k < 24 * c + 4 * ls.length + 4) w w' → K 1 w') : Wp m_M_readLiteral 234 [(0, vr 78), (1, vi ((6 * c + ls.length : Nat) : Int)), (4, vi 0)] [] (0, 0) w (fun r w' => ∃ y, r = some (vi y) ∧ K y w') := by
  have hc := hs.2.2.2.1.2
  obtain ⟨g1, g2, g3⟩ := id hA
  have lp : ∀ (m k : Nat) (w1 : Wo), ar.length - k ≤ m → k ≤ ar.length → (∀ j t, j < k → ar[j]? = some t → TmM (6 * c + ls.length) j t w1) → FX (fun o k => o = 98 ∧ 24 * c + 4 * ls.length ≤ k ∧ k < 24 * c + 4 * ls.length + 4) (fun o k => o = 99 ∧ 24 * c + 4 * ls.length ≤ k ∧ k < 24 * c + 4 * ls.length + 4) w w1 → Wp m_M_readLiteral 234 [(0, vr 78), (1, vi ((6 * c + ls.length : Nat) : Int)), (4, vi (k : Int))] [] (0, 0) w1 (fun r w' => ∃ y, r = some (vi y) ∧ K y w') := by
    intro m
    induction m with
    | zero =>
      intro k w1 hm hk2 hj F
      have e : k = ar.length := by omega
      have x38 : gI w1 78 38 = (ar.length : Int) := by rw [F.1 78 38 (by omega)]; exact g1
      have x31 : gI w1 78 31 = (c : Int) := by rw [F.1 78 31 (by omega)]; exact hs.2.2.2.1.1
      have x94 : gI w1 94 c = (ls.length : Int) := by rw [F.1 94 c (by omega)]; exact hl.1
      refine t_M_readLiteral_234 ?_
      rw [x38, x31, show ((c : Int)).toNat = c from rfl, x94]
      refine ⟨fun _ => ⟨⟨by omega, by omega⟩, ⟨by omega, by omega⟩, ⟨by omega, by omega⟩, fun w3 e3 => ?_⟩, fun z => by omega⟩
      have F3 : FX (fun o k => o = 94 ∧ k = c) o0 w1 w3 := by rw [e3]; exact FX.rf.uI ⟨rfl, rfl⟩
      have m3 : MS T nb a c V f w3 := (hs.fx F (fun o k z => by unfold msI; omega) (fun o k z => by unfold msJ; omega)).fx F3 (fun o k z => by unfold msI; omega) (fun o k z => z.elim)
      refine kI (h1 w3 m3 ⟨?_, fun i L hL => ?_⟩ ((F.sub (fun o k z => Or.inr z) (fun o k z => z)).tr (F3.sub (fun o k z => Or.inl z) (fun o k z => z.elim))))
      · rw [e3, gI_uI, if_pos ⟨rfl, rfl⟩, List.length_append]; rfl
      · have q : LiM (6 * c + i) L w1 := by
          rcases getApp hL with ⟨hi, hL⟩ | ⟨hi, hL⟩
          · exact (hl.2 i L hL).eq (fun o ho => F.1 o _ (by omega)) (fun k hk => F.1 98 _ (by omega)) (fun k hk => F.2.1 99 _ (by omega))
          · rw [hi, ← hL]
            refine ⟨?_, ?_, fun _ => ⟨?_, ?_⟩, fun q => ?_, g2, fun j t ht => ?_⟩
            · rw [F.1 96 _ (by omega)]; exact e96
            · rw [F.1 108 _ (by omega)]; exact e108
            · rw [F.1 97 _ (by omega)]; exact e97
            · rw [F.1 109 _ (by omega)]; exact e109
            · have q : kd = 2 := q
              omega
            · have ht : ar[j]? = some t := ht
              exact hj j t (by have := (List.getElem?_eq_some_iff.mp ht).1; omega) ht
        refine q.eq (fun o ho => ?_) (fun k hk => ?_) (fun k hk => ?_)
        · rw [e3, gI_uI, if_neg (by omega)]
        · rw [e3, gI_uI, if_neg (by omega)]
        · rw [e3, gJ_uI]
    | succ m ih =>
      intro k w1 hm hk2 hj F
      by_cases hlt : k < ar.length
      · obtain ⟨t, ht⟩ : ∃ t, ar[k]? = some t := ⟨_, List.getElem?_eq_getElem hlt⟩
        obtain ⟨q1, q2⟩ := g3 k t ht
        have x38 : gI w1 78 38 = (ar.length : Int) := by rw [F.1 78 38 (by omega)]; exact g1
        refine t_M_readLiteral_234 ?_
        rw [x38, show (4 * ((6 * c + ls.length : Nat) : Int) + (k : Int)).toNat = 4 * (6 * c + ls.length) + k by omega, show ((k : Int)).toNat = k from rfl]
        refine ⟨fun z => by omega, fun _ => ⟨⟨by omega, by omega⟩, ⟨by omega, by omega⟩, ⟨by omega, by omega⟩, ⟨by omega, by omega⟩, fun w7 e7 => ⟨⟨by omega, by omega⟩, ⟨by omega, by omega⟩, ⟨by omega, by omega⟩, ⟨by omega, by omega⟩, fun w11 e11 => ⟨⟨by omega, by omega⟩, ?_⟩⟩⟩⟩
        refine ih (k + 1) w11 (by omega) (by omega) (fun j u hj2 hu => ?_) ?_
        · by_cases ej : j = k
          · subst ej
            rw [ht] at hu
            injection hu with hu
            subst hu
            refine ⟨?_, fun q => ?_⟩
            · rw [e11, gI_uJ, e7, gI_uI, if_pos ⟨rfl, rfl⟩, F.1 106 _ (by omega)]; exact q1
            · rw [e11, gJ_uJ, if_pos ⟨rfl, rfl⟩, e7, gJ_uI, F.2.1 107 _ (by omega)]; exact q2 q
          · obtain ⟨r1, r2⟩ := hj j u (by omega) hu
            refine ⟨?_, fun q => ?_⟩
            · rw [e11, gI_uJ, e7, gI_uI, if_neg (by omega)]; exact r1
            · rw [e11, gJ_uJ, if_neg (by omega), e7, gJ_uI]; exact r2 q
        · rw [e11, e7]
          exact (F.uI (by omega)).uJ (by omega)
      · exact ih k w1 (by omega) hk2 hj F
  exact lp ar.length 0 w (by omega) (Nat.zero_le _) (fun j t hj => by omega) FX.rf
theorem l_matail {T : Tks} {nb a c sd : Nat} {V P : PL} {f : Int × Int} {ls : List Lit} {ar : List Int} {kd p ask : Int} {ato : Nat} {w1 : Wo} {K : Int → Wo → Prop} (hs : MS T nb a c V f w1) (hP : PdM sd P w1) (hA : ArM ar w1) (hl : LsM c ls w1) (h6 : ls.length < 6) (hk : kd = 0 ∨ kd = 1) (e108 : gI w1 108 (6 * c + ls.length) = p) (e45 : gI w1 78 45 = ask)
    (h1 : ∀ w', MS T nb a c V f w' → PdM sd P w' → LsM c (ls ++ [(kd, p, ask, 0, ar)]) w' → gI w' 78 46 = (ato : Int) → FX (oB c sd) (oBJ c sd) w1 w' → K 1 w') (w23 w35 w38 w41 : Wo) (e23 : w23 = uI w1 78 46 (ato : Int)) (e35 : w35 = uI w23 96 (6 * c + ls.length) kd) (e38 : w38 = uI w35 97 (6 * c + ls.length) (gI w35 78 45)) (e41 : w41 = uI w38 109 (6 * c + ls.length) (gI w38 78 38)) : Wp m_M_readLiteral 234 [(0, vr 78), (1, vi ((6 * c + ls.length : Nat) : Int)), (4, vi 0)] [] (0, 0) w41 (fun r w' => ∃ y, r = some (vi y) ∧ K y w') := by
  have x35 : gI w35 78 45 = ask := by rw [e35, gI_uI, if_neg (by omega), e23, gI_uI, if_neg (by omega)]; exact e45
  have x38 : gI w38 78 38 = (ar.length : Int) := by rw [e38, gI_uI, if_neg (by omega), e35, gI_uI, if_neg (by omega), e23, gI_uI, if_neg (by omega)]; exact hA.1
  rw [x35] at e38
  rw [x38] at e41
  have F : FX (fun o k => (o = 78 ∧ k = 46) ∨ ((o = 96 ∨ o = 97 ∨ o = 109) ∧ k = 6 * c + ls.length)) o0 w1 w41 := by
    rw [e41, e38, e35, e23]
    exact (((FX.rf.uI (by omega)).uI (by omega)).uI (by omega)).uI (by omega)
  refine l_m234 (kd := kd) (p := p) (ask := ask) (hs.fx F (fun o k z => by unfold msI; omega) (fun o k z => z.elim)) (hA.fx F (fun o k z => by omega) (fun o k z => z.elim)) (hl.fx F (fun o k z => by unfold lsI; omega) (fun o k z => z.elim)) h6 hk ?_ ?_ ?_ ?_ (fun w' m' l' F' => h1 w' m' ((hP.fx F (fun o k z => by omega) (fun o k z => z.elim)).fx F' (fun o k z => by omega) (fun o k z => by unfold oPJ; omega)) l' ?_ ((F.sub (fun o k z => by unfold oB; omega) (fun o k z => z.elim)).tr (F'.sub (fun o k z => by unfold oB; omega) (fun o k z => by unfold oBJ; omega))))
  · rw [e41, gI_uI, if_neg (by omega), e38, gI_uI, if_neg (by omega), e35, gI_uI, if_pos ⟨rfl, rfl⟩]
  · rw [F.1 108 _ (by omega)]; exact e108
  · rw [e41, gI_uI, if_neg (by omega), e38, gI_uI, if_pos ⟨rfl, rfl⟩]
  · rw [e41, gI_uI, if_pos ⟨rfl, rfl⟩]
  · rw [F'.1 78 46 (by omega), e41, gI_uI, if_neg (by omega), e38, gI_uI, if_neg (by omega), e35, gI_uI, if_neg (by omega), e23, gI_uI, if_pos ⟨rfl, rfl⟩]
theorem s_M_readLiteral {T : Tks} {nb a c sd : Nat} {s : BSt} {tot : Int × Int} {w : Wo} {K : Int → Wo → Prop} (hT : TOk T nb) (hs : MS T nb a c s.2.2.1 s.2.2.2.2 w) (hP : PdM sd s.2.1 w) (hl : LsM c s.1 w) (hat : gI w 78 46 = (s.2.2.2.1 : Nat)) (ha3 : s.2.2.2.1 ≤ 3) (h6 : s.1.length ≤ 6) (hw : gI w 92 c = (if 0 < tot.1 then tot.1 + 1 else 0))
    (h6' : s.1.length = 6 → ∀ w', FPm (tP T a) w' → FX (oB c sd) (oBJ c sd) w w' → K 0 w')
    (h1 : s.1.length < 6 → ∀ s' a', pLit T tot s a = .inr (s', a') → s'.2.2.2.1 ≤ 3 → s'.1.length = s.1.length + 1 → ∀ w', MS T nb a' c s'.2.2.1 s'.2.2.2.2 w' → PdM sd s'.2.1 w' → LsM c s'.1 w' → gI w' 78 46 = (s'.2.2.2.1 : Nat) → FX (oB c sd) (oBJ c sd) w w' → K 1 w')
    (h0 : s.1.length < 6 → ∀ q, pLit T tot s a = .inl q → ∀ w', FPm q w' → FX (oB c sd) (oBJ c sd) w w' → K 0 w') : MetI m_M_readLiteral [vr 78] w K := by
  have h600 := hT.1
  obtain ⟨t1, t2, t3, ⟨t4, t5⟩, -, t6, t7, t8⟩ := id hs
  obtain ⟨tr, tp⟩ := t1 a t2
  have k2 : gI w 80 a = 1 ↔ tK T a = 2 := by
    unfold TokRel at tr
    omega
  have k3 : gI w 80 a = 2 ↔ tK T a = 3 := by
    unfold TokRel at tr
    omega
  refine met_of (by decide) rfl (Nat.le_of_ble_eq_true rfl) (t_M_readLiteral_0 ?_)
  rw [t4, show ((c : Int)).toNat = c from rfl, hl.1]
  refine ⟨⟨by omega, by omega⟩, fun z => ?_, fun z => s_M_refuse hT hs (fun w' p F => ⟨Or.inl rfl, kI (h6' (by omega) w' p (oB.r (oR.f F)))⟩)⟩
  have hl6 : s.1.length < 6 := by omega
  have sn : ∀ (L : Lit), (s.1 ++ [L]).length = s.1.length + 1 := fun L => by rw [List.length_append]; rfl
  rw [show 6 * (c : Int) + (s.1.length : Int) = ((6 * c + s.1.length : Nat) : Int) by omega]
  -- the place is laid down
  have at97 : ∀ (no : Bool) (ia : Bool), (no = true ↔ tK T a = 9) → (ia = true ↔ (tK T a = 9 ∨ (tK T a = 2 ∧ tK T (a + 1) = 5))) → Wp m_M_readLiteral 97 [(0, vr 78), (1, vi ((6 * c + s.1.length : Nat) : Int)), (2, vi (b01 no))] [vi (b01 ia)] (0, 0) w (fun r w' => ∃ y, r = some (vi y) ∧ K y w') := by
    intro no ia hno hia
    refine t_M_readLiteral_97 ?_
    rw [t3, show ((a : Int)).toNat = a from rfl, tp, show (((6 * c + s.1.length : Nat) : Int)).toNat = 6 * c + s.1.length from rfl]
    refine ⟨⟨by omega, by omega⟩, ⟨by omega, by omega⟩, fun w3 e3 => ?_⟩
    have F3 : FX (fun o k => o = 108 ∧ k = 6 * c + s.1.length) o0 w w3 := by rw [e3]; exact FX.rf.uI ⟨rfl, rfl⟩
    have F3' : FX (oB c sd) (oBJ c sd) w w3 := F3.sub (fun o k z => by unfold oB; omega) (fun o k z => z.elim)
    have m3 : MS T nb a c s.2.2.1 s.2.2.2.2 w3 := hs.fx F3 (fun o k z => by unfold msI; omega) (fun o k z => z.elim)
    have P3 : PdM sd s.2.1 w3 := hP.fx F3 (fun o k z => by omega) (fun o k z => z.elim)
    have l3 : LsM c s.1 w3 := hl.fx F3 (fun o k z => by unfold lsI; omega) (fun o k z => z.elim)
    have x108 : gI w3 108 (6 * c + s.1.length) = tP T a := by rw [e3, gI_uI, if_pos ⟨rfl, rfl⟩]
    have x46 : gI w3 78 46 = (s.2.2.2.1 : Nat) := by rw [F3.1 78 46 (by omega)]; exact hat
    have x92 : gI w3 92 c = (if 0 < tot.1 then tot.1 + 1 else 0) := by rw [F3.1 92 c (by omega)]; exact hw
    refine ⟨fun zi => ?_, fun zi => ?_⟩
    · have hni : ¬ (tK T a = 9 ∨ (tK T a = 2 ∧ tK T (a + 1) = 5)) := fun q => by
        rw [hia.mpr q] at zi; exact absurd zi (by decide)
      have pl : pLit T tot s a = (match pTest T s.2.2.1 a with
    | .inl p => .inl p
    | .inr (l, V', a') => .inr ((s.1 ++ [l], s.2.1, V', s.2.2.2.1, s.2.2.2.2), a')) := by
        unfold pLit
        rw [if_neg (fun q => hni (Or.inl q)), if_neg (fun q => hni (Or.inr q))]
        rfl
      have go : ∀ b : Int, (¬ b = 0 ↔ tK T a = 3) → Wp m_M_readLiteral 318 [(0, vr 78), (1, vi ((6 * c + s.1.length : Nat) : Int))] [vi b] (0, 0) w3 (fun r w' => ∃ y, r = some (vi y) ∧ K y w') := by
        intro b hb
        refine l_mtest hT m3 l3 hl6 x108 hb (fun L V' a' e w' m' l' F' => h1 hl6 (s.1 ++ [L], s.2.1, V', s.2.2.2.1, s.2.2.2.2) a' (by rw [pl, e]) ha3 (sn L) w' m' (P3.fx F' (fun o k z => by unfold oQ oT at z; omega) (fun o k z => by unfold oQJ oTJ at z; unfold oPJ; omega)) l' ?_ (F3'.tr (oB.q hl6 F'))) (fun q e w' p F' => h0 hl6 q (by rw [pl, e]) w' p (F3'.tr (oB.q hl6 F')))
        rw [F'.1 78 46 (by unfold oQ oT; omega)]; exact x46
      have x80 : gI w3 80 a = gI w 80 a := F3.1 80 a (by omega)
      rw [m3.2.2.1, show ((a : Int)).toNat = a from rfl, x80]
      refine ⟨⟨by omega, by omega⟩, fun z2 => go 0 ⟨fun q => absurd rfl q, fun q => absurd (k3.mpr q) z2⟩, fun z2 => go 1 ⟨fun _ => k3.mp z2, fun _ => by decide⟩⟩
    · have hii : tK T a = 9 ∨ (tK T a = 2 ∧ tK T (a + 1) = 5) := by
        cases ia with
        | true => exact hia.mp rfl
        | false => exact absurd rfl zi
      have hlt := hT.lt t2 (by omega) (by omega)
      refine ⟨fun zn => ?_, fun zn => ?_⟩
      · -- an atom
        have n9 : ¬ tK T a = 9 := fun q => by rw [hno.mpr q] at zn; exact absurd zn (by decide)
        have h25 : tK T a = 2 ∧ tK T (a + 1) = 5 := by
          rcases hii with q | q
          · exact absurd q n9
          · exact q
        rw [x46]
        refine ⟨fun z3 => ?_, fun z3 => s_M_refuse hT m3 (fun w' p F => ⟨Or.inl rfl, kI (h0 hl6 _ ?_ w' p (F3'.tr (oB.r (oR.f F))))⟩)⟩
        · have hlt3 : s.2.2.2.1 < 3 := by omega
          have pl : pLit T tot s a = (match pAtom T s.2.1 false (decide (tot.1 ≤ 0)) s.2.2.1 tot a with
    | .inl p => .inl p
    | .inr (ar, V', _, a') => .inr ((s.1 ++ [((0 : Int), tP T a, ((fi s.2.1 (tV T a) : Nat) : Int), (0 : Int), ar)], rgP s.2.1 (tV T a) ar.length, V', s.2.2.2.1 + 1, ntS s.2.2.2.2 s.2.1 (tV T a) ar.length (tP T a)), a')) := by
            unfold pLit
            rw [if_neg n9, if_pos h25, if_pos hlt3]
            rfl
          refine t_M_readLiteral_147 ⟨fun q => absurd zn q, fun _ => ?_⟩
          have x31 : gI w3 78 31 = (c : Int) := m3.2.2.2.1.1
          rw [x31, show ((c : Int)).toNat = c from rfl, x92, show (((6 * c + s.1.length : Nat) : Int)).toNat = 6 * c + s.1.length from rfl]
          have arg : ∀ (any : Bool), any = decide (tot.1 ≤ 0) → MetI m_M_readArguments [vr 78, vi 0, vi (b01 any)] w3 (fun z45 w44 => ((¬ z45 = 0 → inr32 ((gI w44 78 46) + 1) ∧ (∀ w46 : Wo, w46 = uI w44 78 46 ((gI w44 78 46) + 1) → ∀ w49 : Wo, w49 = uI w46 96 (6 * c + s.1.length) 0 → (∀ w52 : Wo, w52 = uI w49 97 (6 * c + s.1.length) (gI w49 78 45) → (∀ w55 : Wo, w55 = uI w52 109 (6 * c + s.1.length) (gI w52 78 38) → Wp m_M_readLiteral 234 [(0, vr 78), (1, vi ((6 * c + s.1.length : Nat) : Int)), (4, vi 0)] [] (0, 0) w55 (fun r w' => ∃ y, r = some (vi y) ∧ K y w'))))) ∧ (z45 = 0 → ∃ y, (some (vi 0) : Option AV) = some (vi y) ∧ K y w44))) := by
            intro any hany
            refine s_M_readArguments (hd := false) (any := any) (tot := tot) hT m3 P3 (fun q => by cases q) (fun ar V' tot' a' e w' m' P' A' _ r' F' => ⟨fun _ => ?_, fun q => absurd q (by decide)⟩) (fun q e w' p F' => ⟨fun q => absurd rfl q, fun _ => kI (h0 hl6 q ?_ w' p (F3'.tr (oB.r F')))⟩)
            · have y46 : gI w' 78 46 = (s.2.2.2.1 : Nat) := by rw [F'.1 78 46 (by unfold oR oT oP; omega)]; exact x46
              rw [y46]
              refine ⟨⟨by omega, by omega⟩, fun w46 e46 w49 e49 w52 e52 w55 e55 => ?_⟩
              rw [hany] at e
              rw [e] at pl
              refine l_matail (kd := 0) (p := tP T a) (ato := s.2.2.2.1 + 1) m' P' A' (l3.r F') hl6 (Or.inl rfl) (by rw [F'.1 108 _ (by unfold oR oT oP; omega)]; exact x108) r' (fun w9 m9 P9 l9 x9 F9 => h1 hl6 _ a' pl (by show s.2.2.2.1 + 1 ≤ 3; omega) (sn _) w9 m9 P9 l9 x9 ((F3'.tr (oB.r F')).tr F9)) w46 w49 w52 w55 (by rw [e46]; rfl) e49 e52 e55
            · rw [hany] at e
              rw [pl, e]
          refine ⟨⟨by omega, by omega⟩, fun z4 => ?_, fun z4 => ?_⟩
          · have hany : false = decide (tot.1 ≤ 0) := by
              rw [decide_eq_false]
              intro q
              rw [if_neg (by omega)] at z4
              exact z4 rfl
            refine MetS.mono (arg false hany) (fun r w' hw' => ?_)
            obtain ⟨y, hy, hw1, hw2⟩ := hw'
            refine ⟨y, hy, fun q => ⟨fun _ => ?_, fun q2 => absurd zn q2⟩, hw2⟩
            obtain ⟨r1, r2⟩ := hw1 q
            exact ⟨r1, fun w46 e46 => ⟨fun _ => ⟨⟨by omega, by omega⟩, fun w49 e49 => ⟨⟨by omega, by omega⟩, fun w52 e52 => ⟨⟨by omega, by omega⟩, fun w55 e55 => r2 w46 e46 w49 e49 w52 e52 w55 e55⟩⟩⟩, fun q2 => absurd zn q2⟩⟩
          · have hany : true = decide (tot.1 ≤ 0) := by
              rw [decide_eq_true]
              by_cases q : 0 < tot.1
              · rw [if_pos q] at z4; omega
              · omega
            refine MetS.mono (arg true hany) (fun r w' hw' => ?_)
            obtain ⟨y, hy, hw1, hw2⟩ := hw'
            refine ⟨y, hy, fun q => ⟨fun _ => ?_, fun q2 => absurd zn q2⟩, hw2⟩
            obtain ⟨r1, r2⟩ := hw1 q
            exact ⟨r1, fun w46 e46 => ⟨fun _ => ⟨⟨by omega, by omega⟩, fun w49 e49 => ⟨⟨by omega, by omega⟩, fun w52 e52 => ⟨⟨by omega, by omega⟩, fun w55 e55 => r2 w46 e46 w49 e49 w52 e52 w55 e55⟩⟩⟩, fun q2 => absurd zn q2⟩⟩
        · unfold pLit
          rw [if_neg n9, if_pos h25, if_neg (by omega)]
      · -- denied
        have h9 : tK T a = 9 := by
          cases no with
          | true => exact hno.mp rfl
          | false => exact absurd rfl zn
        have pl : pLit T tot s a = (match pAtom T s.2.1 false true s.2.2.1 tot (a + 1) with
    | .inl p => .inl p
    | .inr (ar, V', _, a') => .inr ((s.1 ++ [((1 : Int), tP T a, ((fi s.2.1 (tV T (a + 1)) : Nat) : Int), (0 : Int), ar)], rgP s.2.1 (tV T (a + 1)) ar.length, V', s.2.2.2.1, ntS s.2.2.2.2 s.2.1 (tV T (a + 1)) ar.length (tP T (a + 1))), a')) := by
          unfold pLit
          rw [if_pos h9]
          rfl
        rw [m3.2.2.1]
        refine ⟨⟨by omega, by omega⟩, fun w8 e8 => t_M_readLiteral_147 ⟨fun _ => ?_, fun q => absurd q zn⟩⟩
        have m8 := m3.adv hlt e8
        have F8 : FX oA o0 w3 w8 := by rw [e8]; exact FX.rf.uI ⟨rfl, rfl⟩
        have F8' : FX (oB c sd) (oBJ c sd) w w8 := F3'.tr (oB.r (oR.a F8))
        rw [show (((6 * c + s.1.length : Nat) : Int)).toNat = 6 * c + s.1.length from rfl]
        refine s_M_readArguments (hd := false) (any := true) (tot := tot) hT m8 (P3.t (oT.a (c := c) F8)) (fun q => by cases q) (fun ar V' tot' a' e w' m' P' A' _ r' F' => ⟨fun _ => ⟨fun q2 => absurd q2 zn, fun _ => ?_⟩, fun q => absurd q (by decide)⟩) (fun q e w' p F' => ⟨fun q => absurd rfl q, fun _ => kI (h0 hl6 q ?_ w' p (F8'.tr (oB.r F')))⟩)
        · have y46 : gI w' 78 46 = (s.2.2.2.1 : Nat) := by rw [F'.1 78 46 (by unfold oR oT oP; omega), F8.1 78 46 (by unfold oA; omega)]; exact x46
          rw [y46]
          refine ⟨⟨by omega, by omega⟩, fun w23 e23 => ⟨fun q2 => absurd q2 zn, fun _ => ⟨⟨by omega, by omega⟩, fun w35 e35 => ⟨⟨by omega, by omega⟩, fun w38 e38 => ⟨⟨by omega, by omega⟩, fun w41 e41 => ?_⟩⟩⟩⟩⟩
          rw [e] at pl
          refine l_matail (kd := 1) (p := tP T a) (ato := s.2.2.2.1) m' P' A' ((l3.fx F8 (fun o k z => by unfold oA at z; unfold lsI; omega) (fun o k z => z.elim)).r F') hl6 (Or.inr rfl) (by rw [F'.1 108 _ (by unfold oR oT oP; omega), F8.1 108 _ (by unfold oA; omega)]; exact x108) r' (fun w9 m9 P9 l9 x9 F9 => h1 hl6 _ a' pl ha3 (sn _) w9 m9 P9 l9 x9 ((F8'.tr (oB.r F')).tr F9)) w23 w35 w38 w41 (by rw [e23, Int.add_zero]) e35 e38 e41
        · rw [pl, e]
  refine ⟨⟨by omega, by omega⟩, ⟨by omega, by omega⟩, ⟨by omega, by omega⟩, s_M_isSign hT hs sg_p.2.2.2.2.1 (fun h9 => ⟨fun _ => t_M_readLiteral_92 (at97 true true ⟨fun _ => h9, fun _ => rfl⟩ ⟨fun _ => Or.inl h9, fun _ => rfl⟩), fun q => absurd q (by decide)⟩) (fun h9 => ⟨fun q => absurd rfl q, fun _ => ?_⟩)⟩
  have no9 : false = true ↔ tK T a = 9 := ⟨fun q => (by cases q), fun q => absurd q h9⟩
  rw [t3, show ((a : Int)).toNat = a from rfl]
  have nia : ¬ (tK T a = 2 ∧ tK T (a + 1) = 5) → Wp m_M_readLiteral 96 [(0, vr 78), (1, vi ((6 * c + s.1.length : Nat) : Int)), (2, vi 0)] [] (0, 0) w (fun r w' => ∃ y, r = some (vi y) ∧ K y w') := fun q => t_M_readLiteral_96 (at97 false false no9 ⟨fun q => (by cases q), fun q2 => q2.elim (fun q3 => absurd q3 h9) (fun q3 => absurd q3 q)⟩)
  refine ⟨⟨by omega, by omega⟩, fun z2 => nia (fun q => z2 (k2.mpr q.1)), fun z2 => ⟨⟨by omega, by omega⟩, ⟨by omega, by omega⟩, ?_⟩⟩
  have h2 := k2.mp z2
  have hlt := hT.lt t2 (by omega) (by omega)
  have tr5 := (t1 (a + 1) (by omega)).1
  have k5 : (gI w 80 (a + 1) = 4 ∧ gI w 82 (a + 1) = 40) ↔ tK T (a + 1) = 5 := sg_p.1 _ _ _ _ _ tr5
  rw [show ((a : Int) + 1).toNat = a + 1 by omega]
  refine ⟨fun z3 => nia (fun q => z3 (k5.mpr q.2).1), fun z3 => ⟨⟨by omega, by omega⟩, ⟨by omega, by omega⟩, fun z4 => nia (fun q => z4 (k5.mpr q.2).2), fun z4 => ?_⟩⟩
  exact t_M_readLiteral_92 (at97 false true no9 ⟨fun _ => Or.inr ⟨h2, k5.mp ⟨z3, z4⟩⟩, fun _ => rfl⟩)
theorem l_mbody {T : Tks} {nb c sd : Nat} {tot : Int × Int} {K : Int → Wo → Prop} (hT : TOk T nb) : ∀ (m : Nat) (s : BSt) (a : Nat) (w : Wo), s.1.length + m = 6 → MS T nb a c s.2.2.1 s.2.2.2.2 w → PdM sd s.2.1 w → LsM c s.1 w → gI w 78 46 = (s.2.2.2.1 : Nat) → s.2.2.2.1 ≤ 3 → gI w 92 c = (if 0 < tot.1 then tot.1 + 1 else 0) →
    (∀ s' a' w', pBody T tot m s a = .inr (s', a') → MS T nb a' c s'.2.2.1 s'.2.2.2.2 w' → PdM sd s'.2.1 w' → LsM c s'.1 w' → tK T a' = 8 → FX (oB c sd) (oBJ c sd) w w' → K 1 w') →
    (∀ q a' V' f' w', pBody T tot m s a = .inl q → MS T nb a' c V' f' w' → tK T a' ≠ 8 → q = tP T a' → FX (oB c sd) (oBJ c sd) w w' → K 1 w') →
    (∀ q w', pBody T tot m s a = .inl q → FPm q w' → FX (oB c sd) (oBJ c sd) w w' → K 0 w') →
    Wp m_M_readBody 5 [(0, vr 78)] [] (0, 0) w (fun r w' => ∃ y, r = some (vi y) ∧ K y w') := by
  intro m
  induction m with
  | zero =>
    intro s a w hm hs hP hl hat ha3 hw h1 h2 h0
    refine t_M_readBody_5 (s_M_readLiteral (tot := tot) hT hs hP hl hat ha3 (by omega) hw (fun _ w' p F => ⟨fun q => absurd rfl q, fun _ => kI (h0 _ w' rfl p F)⟩) (fun q => by omega) (fun q => by omega))
  | succ m ih =>
    intro s a w hm hs hP hl hat ha3 hw h1 h2 h0
    refine t_M_readBody_5 (s_M_readLiteral (tot := tot) hT hs hP hl hat ha3 (by omega) hw (fun q => by omega) (fun _ s' a' e g3 gl w1 m1 P1 l1 x1 F1 => ⟨fun _ => ?_, fun q => absurd q (by decide)⟩) (fun _ q e w1 p1 F1 => ⟨fun q => absurd rfl q, fun _ => kI (h0 q w1 (pBody_f e) p1 F1)⟩))
    have ps := pBody_s (k := m) e
    refine s_M_takes hT m1 sg_p.2.2.1 (by decide) (fun h7 w3 m3 F3 => ⟨fun _ => ?_, fun q => absurd q (by decide)⟩) (fun h7 => ⟨fun q => absurd rfl q, fun _ => kI ?_⟩)
    · rw [if_neg (by omega), if_pos h7] at ps
      have F3' : FX (oB c sd) (oBJ c sd) w w3 := F1.tr (oB.r (oR.a F3))
      refine ih s' (a' + 1) w3 (by omega) m3 (P1.t (oT.a (c := c) F3)) (l1.fx F3 (fun o k z => by unfold oA at z; unfold lsI; omega) (fun o k z => z.elim)) (by rw [F3.1 78 46 (by unfold oA; omega)]; exact x1) g3 (by rw [F3'.1 92 c (by unfold oB oR oT oP; omega)]; exact hw) (fun s2 a2 w' e2 g1 g2 g4 g5 g6 => h1 s2 a2 w' (ps.trans e2) g1 g2 g4 g5 (F3'.tr g6)) (fun q a2 V2 f2 w' e2 g1 g2 g4 g5 => h2 q a2 V2 f2 w' (ps.trans e2) g1 g2 g4 (F3'.tr g5)) (fun q w' e2 p g => h0 q w' (ps.trans e2) p (F3'.tr g))
    · by_cases h8 : tK T a' = 8
      · rw [if_pos h8] at ps
        exact h1 s' a' w1 ps m1 P1 l1 h8 F1
      · rw [if_neg h8, if_neg h7] at ps
        exact h2 _ a' _ _ w1 ps m1 h8 rfl F1

/-! the reference: an atom -/
def ArM (ar : List Int) (w : Wo) : Prop := gI w 78 38 = ar.length ∧ ar.length ≤ 4 ∧ ∀ i t, ar[i]? = some t → gI w 106 i = rk t ∧ (t ≠ 4503599627370496 → gJ w 107 i = rv t)
theorem ArM.fx {ar : List Int} {w w' : Wo} {A B : OkF} (h : ArM ar w) (hf : FX A B w w') (hA : ∀ o k, A o k → ¬ ((o = 78 ∧ k = 38) ∨ o = 106)) (hB : ∀ o k, B o k → ¬ o = 107) : ArM ar w' := by
  obtain ⟨h1, h2, h3⟩ := h
  have e : ∀ o k, ((o = 78 ∧ k = 38) ∨ o = 106) → gI w' o k = gI w o k := fun o k z => hf.1 o k (fun q => hA o k q z)
  have e2 : ∀ k, gJ w' 107 k = gJ w 107 k := fun k => hf.2.1 107 k (fun q => hB 107 k q rfl)
  refine ⟨by rw [e 78 38 (by omega)]; exact h1, h2, fun i t ht => ?_⟩
  rw [e 106 i (by omega), e2]
  exact h3 i t ht
def wdC (tot : Int × Int) (w : Wo) : Prop := gI w 78 42 = (if 0 < tot.1 then tot.1 + 1 else 0) ∧ (0 < tot.1 → gI w 78 44 = tot.2)
def ffC (V : PL) (tot : Int × Int) (w : Wo) : Prop := gI w 78 41 = (opn V tot).getD (-1)
/-- what holds in a head -/
def HdM (T : Tks) (V : PL) (tot : Int × Int) (a : Nat) (w : Wo) : Prop := VOk T V a ∧ ttOK T tot a ∧ (0 < tot.1 → V ≠ []) ∧ wdC tot w ∧ ffC V tot w
def oR (c s : Nat) : OkF := fun o k => oT c o k ∨ oP s o k ∨ (o = 78 ∧ (k = 38 ∨ k = 41 ∨ k = 42 ∨ k = 43 ∨ k = 44 ∨ k = 45)) ∨ o = 106
def oRJ (s : Nat) : OkF := fun o k => oTJ o k ∨ oPJ s o k ∨ o = 107
theorem oR.t {c s : Nat} {w w' : Wo} (h : FX (oT c) oTJ w w') : FX (oR c s) (oRJ s) w w' := h.sub (fun o k z => Or.inl z) (fun o k z => Or.inl z)
theorem oR.p {c s : Nat} {w w' : Wo} (h : FX (oP s) (oPJ s) w w') : FX (oR c s) (oRJ s) w w' := h.sub (fun o k z => Or.inr (Or.inl z)) (fun o k z => Or.inr (Or.inl z))
theorem oR.f {c s : Nat} {w w' : Wo} (h : FX oF o0 w w') : FX (oR c s) (oRJ s) w w' := oR.t (oT.f h)
theorem oR.a {c s : Nat} {w w' : Wo} (h : FX oA o0 w w') : FX (oR c s) (oRJ s) w w' := oR.t (oT.a h)
theorem PdM.t {s c : Nat} {P : PL} {w w' : Wo} (h : PdM s P w) (hf : FX (oT c) oTJ w w') : PdM s P w' := h.fx hf (fun o k z => by unfold oT at z; omega) (fun o k z => by unfold oTJ at z; unfold oPJ; omega)
theorem ArM.t {c : Nat} {ar : List Int} {w w' : Wo} (h : ArM ar w) (hf : FX (oT c) oTJ w w') : ArM ar w' := h.fx hf (fun o k z => by unfold oT at z; omega) (fun o k z => by unfold oTJ at z; omega)
theorem wdC.t {c : Nat} {tot : Int × Int} {w w' : Wo} (h : wdC tot w) (hf : FX (oT c) oTJ w w') : wdC tot w' := ⟨by rw [hf.1 78 42 (by unfold oT; omega)]; exact h.1, fun q => by rw [hf.1 78 44 (by unfold oT; omega)]; exact h.2 q⟩
theorem pVar_nn {V V' : PL} {x p : Int} {i : Nat} (h : pVar V x p = some (i, V')) : (V = [] → V' = [(x, p)]) ∧ (∀ y R, V = y :: R → ∃ R', V' = y :: R') ∧ V' ≠ [] := by
  unfold pVar at h
  split at h
  · rename_i hc
    injection h with h
    injection h with e1 e2
    subst e2
    refine ⟨fun q => ?_, fun y R q => ⟨R, q⟩, fun q => ?_⟩
    · rw [q] at hc; exact absurd hc (Nat.not_lt_zero _)
    · rw [q] at hc; exact absurd hc (Nat.not_lt_zero _)
  · split at h
    · injection h with h
      injection h with e1 e2
      subst e2
      refine ⟨fun q => by rw [q]; rfl, fun y R q => ⟨R ++ [(x, p)], by rw [q]; rfl⟩, fun q => ?_⟩
      have := congrArg List.length q
      rw [List.length_append] at this
      exact absurd this (Nat.succ_ne_zero _)
    · cases h
theorem opn_var {T : Tks} {V V' : PL} {tot : Int × Int} {a : Nat} {x : Int} {i : Nat} (h2 : ttOK T tot a) (h3 : 0 < tot.1 → V ≠ []) (hp : pVar V x (tP T a) = some (i, V')) : opn V' tot = some ((opn V tot).getD (tP T a)) := by
  obtain ⟨q1, q2, -⟩ := pVar_nn hp
  cases V with
  | nil =>
    rw [q1 rfl]
    have : tot.1 ≤ 0 := by
      by_cases c : 0 < tot.1
      · exact absurd rfl (h3 c)
      · omega
    show some (if tot.1 ≤ 0 then tP T a else _) = some (tP T a)
    rw [if_pos this]
  | cons y R =>
    obtain ⟨R', e⟩ := q2 y R rfl
    rw [e]; rfl
theorem opn_tot {T : Tks} {nb : Nat} {V V' : PL} {tot : Int × Int} {a : Nat} {x v : Int} {i : Nat} (hT : TOk T nb) (ha : a + 2 ≤ nb) (h1 : VOk T V a) (h3 : tot.1 ≤ 0) (hv : 1 ≤ v) (hp : pVar V x (tP T (a + 2)) = some (i, V')) : opn V' (v, tP T a) = some ((opn V tot).getD (tP T a)) := by
  obtain ⟨q1, q2, -⟩ := pVar_nn hp
  cases V with
  | nil =>
    rw [q1 rfl]
    have := hT.mono (a + 2) a (by omega) ha
    show some (if v ≤ 0 then tP T (a + 2) else if tP T (a + 2) < tP T a then tP T (a + 2) else tP T a) = some (tP T a)
    rw [if_neg (by omega), if_neg (by omega)]
  | cons y R =>
    obtain ⟨R', e⟩ := q2 y R rfl
    rw [e]
    have hy := (h1.2.1 y (List.mem_cons_self ..)).2
    show some (if v ≤ 0 then y.2 else if y.2 < tP T a then y.2 else tP T a) = some ((if tot.1 ≤ 0 then y.2 else _))
    rw [if_neg (by omega), if_pos hy, if_pos h3]
theorem pVar_i {V V' : PL} {x p : Int} {i : Nat} (hV : V.length ≤ 8) (h : pVar V x p = some (i, V')) : i < 8 := by
  unfold pVar at h
  split at h
  · injection h with h
    injection h with e1 e2
    omega
  · split at h
    · injection h with h
      injection h with e1 e2
      omega
    · cases h
/-- a term that is read: a variable, or not -/
theorem pTerm_var {T : Tks} {V V' : PL} {nb a a' : Nat} {t : Int} (hT : TOk T nb) (ha : a ≤ nb) (hV : V.length ≤ 8) (hp : pTerm T V a = .inr (t, V', a')) : (rk t = 1 → tK T a = 3 ∧ ∃ i, pVar V (tV T a) (tP T a) = some (i, V')) ∧ (rk t ≠ 1 → V' = V) := by
  have ok := hT.2.2.1 a ha
  unfold pTerm at hp
  split at hp
  · rename_i h14
    split at hp
    · rename_i h4
      injection hp with hp
      injection hp with e1 e2
      injection e2 with e2 e3
      have hlt := hT.lt ha (by omega) (by omega)
      have ok5 := (hT.2.2.1 (a + 1) (by omega)).2.2.2.2.1 h4
      have ok5 : 0 ≤ tV T (a + 1) ∧ tV T (a + 1) < 1000000000 := ok5
      refine ⟨fun q => ?_, fun _ => e2.symm⟩
      rw [← e1] at q
      unfold rk at q
      rw [if_neg (by omega), if_neg (by omega)] at q
      omega
    · cases hp
  · unfold pTerm0 at hp
    split at hp
    · rename_i h4
      injection hp with hp
      injection hp with e1 e2
      injection e2 with e2 e3
      have ok5 : 0 ≤ tV T a ∧ tV T a < 1000000000 := ok.2.2.2.2.1 h4
      refine ⟨fun q => ?_, fun _ => e2.symm⟩
      rw [← e1] at q
      unfold rk at q
      rw [if_neg (by omega), if_neg (by omega)] at q
      omega
    · split at hp
      · rename_i h2
        injection hp with hp
        injection hp with e1 e2
        injection e2 with e2 e3
        have ok5 : 0 ≤ tV T a ∧ tV T a < 4398046511104 := ok.2.2.1 h2
        refine ⟨fun q => ?_, fun _ => e2.symm⟩
        rw [← e1] at q
        unfold rk at q
        rw [if_neg (by omega), if_neg (by omega)] at q
        omega
      · split at hp
        · rename_i h3
          cases e : pVar V (tV T a) (tP T a) with
          | none => rw [e] at hp; cases hp
          | some r =>
            obtain ⟨i, V2⟩ := r
            rw [e] at hp
            injection hp with hp
            injection hp with e1 e2
            injection e2 with e2 e3
            subst e2
            refine ⟨fun _ => ⟨h3, i, rfl⟩, fun q => absurd ?_ q⟩
            rw [← e1]
            unfold rk
            have := pVar_i hV e
            rw [if_neg (by omega), if_pos (by omega)]
        · cases hp
theorem l_margs {T : Tks} {nb c s na : Nat} {P : PL} {f : Int × Int} {hd any : Bool} {K : Int → Wo → Prop} (hT : TOk T nb) (hna : na ≤ nb) (hn2 : tK T na = 2) (hor : fi P (tV T na) < P.length ∨ P.length < 16) : ∀ (m : Nat) (ar : List Int) (V : PL) (tot : Int × Int) (a : Nat) (w : Wo), ar.length + m = 4 → MS T nb a c V f w → PdM s P w → ArM ar w → (hd = true → HdM T V tot a w) →
    (∀ ar' V' tot' a', pArgs T hd any m ar V tot a = .inr (ar', V', tot', a') → ∀ w', MS T nb a' c V' (ntS f P (tV T na) ar'.length (tP T na)) w' → PdM s (rgP P (tV T na) ar'.length) w' → ArM ar' w' → (hd = true → HdM T V' tot' a' w') → gI w' 78 45 = (fi P (tV T na) : Nat) → FX (oR c s) (oRJ s) w w' → K 1 w') →
    (∀ q, pArgs T hd any m ar V tot a = .inl q → ∀ w', FPm q w' → FX (oR c s) (oRJ s) w w' → K 0 w') →
    Wp m_M_readArguments 79 [(0, vr 78), (1, vi (b01 hd)), (2, vi (b01 any)), (3, vi (na : Int))] [] (0, 0) w (fun r w' => ∃ y, r = some (vi y) ∧ K y w') := by
  have h600 := hT.1
  have okn : 0 ≤ tV T na ∧ tV T na < 4398046511104 := (hT.2.2.1 na hna).2.2.1 hn2
  intro m
  induction m with
  | zero =>
    intro ar V tot a w hm hs hP hA hH h1 h0
    refine t_M_readArguments_79 ⟨fun z => absurd (by rw [hA.1]; omega) z, fun _ => s_M_refuse hT hs (fun w' p F => ⟨Or.inl rfl, kI (h0 _ rfl w' p (oR.f F))⟩)⟩
  | succ m ih =>
    intro ar V tot a w hm hs hP hA hH h1 h0
    obtain ⟨t1, t2, t3, ⟨t4, t5⟩, -, t6, t7, t8⟩ := id hs
    obtain ⟨tr, tp⟩ := t1 a t2
    have ok := hT.2.2.1 a t2
    have kinds : ((gI w 80 a = 5 ∧ ¬ gI w 82 a ≤ 1) ↔ tK T a = 17) ∧ (tK T a = 17 → gI w 82 a = tV T a + 1) := by
      unfold TokRel at tr
      omega
    obtain ⟨k17, kv⟩ := kinds
    have fin : ∀ t V' tot' a' w1, pArg T hd any V tot a = .inr (t, V', tot', a') → MS T nb a' c V' f w1 → PdM s P w1 → ArM ar w1 → RdC t w1 → (hd = true → HdM T V' tot' a' w1) → FX (oR c s) (oRJ s) w w1 → Wp m_M_readArguments 310 [(0, vr 78), (1, vi (b01 hd)), (2, vi (b01 any)), (3, vi (na : Int))] [] (0, 0) w1 (fun r w' => ∃ y, r = some (vi y) ∧ K y w') := by
      intro t V' tot' a' w1 hp m1 P1 A1 R1 H1 F1
      refine t_M_readArguments_310 ?_
      rw [A1.1, show ((ar.length : Int)).toNat = ar.length from rfl, R1.1]
      refine ⟨⟨by omega, by omega⟩, fun w2 e2 => ?_⟩
      have x38 : gI w2 78 38 = (ar.length : Int) := by rw [e2, gI_uI, if_neg (by omega)]; exact A1.1
      rw [x38, show ((ar.length : Int)).toNat = ar.length from rfl]
      refine ⟨⟨by omega, by omega⟩, fun w5 e5 => ?_⟩
      have y38 : gI w5 78 38 = (ar.length : Int) := by rw [e5, gI_uJ]; exact x38
      rw [y38]
      refine ⟨⟨by omega, by omega⟩, fun w7 e7 => ?_⟩
      have F7 : FX (fun o k => (o = 78 ∧ k = 38) ∨ o = 106) (fun o k => o = 107) w1 w7 := by
        rw [e7, e5, e2]
        refine FX.uI (FX.uJ (FX.uI FX.rf ?_) ?_) ?_
        · exact Or.inr rfl
        · rfl
        · exact Or.inl ⟨rfl, rfl⟩
      have F7' : FX (oR c s) (oRJ s) w w7 := F1.tr (F7.sub (fun o k z => by unfold oR; omega) (fun o k z => Or.inr (Or.inr z)))
      have m7 : MS T nb a' c V' f w7 := m1.fx F7 (fun o k z => by unfold msI; omega) (fun o k z => by unfold msJ; omega)
      have P7 : PdM s P w7 := P1.fx F7 (fun o k z => by omega) (fun o k z => by unfold oPJ; omega)
      have H7 : hd = true → HdM T V' tot' a' w7 := fun q => by
        obtain ⟨g1, g2, g3, g4, g5⟩ := H1 q
        refine ⟨g1, g2, g3, ⟨?_, fun q2 => ?_⟩, ?_⟩
        · rw [F7.1 78 42 (by omega)]; exact g4.1
        · rw [F7.1 78 44 (by omega)]; exact g4.2 q2
        · unfold ffC; rw [F7.1 78 41 (by omega)]; exact g5
      have A7 : ArM (ar ++ [t]) w7 := by
        obtain ⟨g1, g2, g3⟩ := A1
        refine ⟨?_, by rw [List.length_append]; show ar.length + 1 ≤ 4; omega, fun i u hu => ?_⟩
        · rw [e7, gI_uI, if_pos ⟨rfl, rfl⟩, List.length_append]; rfl
        · rcases getApp hu with ⟨hi, hu⟩ | ⟨hi, hu⟩
          · obtain ⟨q1, q2⟩ := g3 i u hu
            refine ⟨?_, fun q => ?_⟩
            · rw [e7, gI_uI, if_neg (by omega), e5, gI_uJ, e2, gI_uI, if_neg (by omega)]; exact q1
            · rw [e7, gJ_uI, e5, gJ_uJ, if_neg (by omega), e2, gJ_uI]; exact q2 q
          · subst hu
            refine ⟨?_, fun q => ?_⟩
            · rw [e7, gI_uI, if_neg (by omega), e5, gI_uJ, e2, gI_uI, if_pos ⟨rfl, hi⟩]
            · rw [e7, gJ_uI, e5, gJ_uJ, if_pos ⟨rfl, hi⟩, e2, gJ_uI]; exact R1.2 q
      have hps := pArgs_s (k := m) (ar := ar) hp
      refine s_M_takes hT m7 sg_p.2.2.1 (by decide) (fun h7 w9 m9 F9 => ⟨fun _ => ?_, fun q => absurd q (by decide)⟩) (fun h7 => ⟨fun q => absurd rfl q, fun _ => ?_⟩)
      · rw [if_neg (by omega), if_pos h7] at hps
        have hlt := hT.lt m7.2.1 (by omega) (by omega)
        have F9' : FX (oR c s) (oRJ s) w w9 := F7'.tr (oR.a F9)
        refine ih (ar ++ [t]) V' tot' (a' + 1) w9 (by rw [List.length_append]; show ar.length + 1 + m = 4; omega) m9 (P7.t (oT.a (c := c) F9)) (A7.t (oT.a (c := c) F9)) (fun q => ?_) (fun ar' V2 tot2 a2 e w' g1 g2 g3 g4 g5 g6 => h1 ar' V2 tot2 a2 (hps.trans e) w' g1 g2 g3 g4 g5 (F9'.tr g6)) (fun q e w' p g => h0 q (hps.trans e) w' p (F9'.tr g))
        obtain ⟨g1, g2, g3, g4, g5⟩ := H7 q
        exact ⟨g1.mono hT (by omega) (by omega), g2.mono hT (show a' ≤ a' + 1 by omega) (by omega), g3, g4.t (oT.a (c := c) F9), by unfold ffC; rw [F9.1 78 41 (by unfold oA; omega)]; exact g5⟩
      · refine s_M_want hT m7 sg_p.2.1 (by decide) (fun h6 w11 m11 F11 => ⟨fun _ => ?_, fun q => absurd q (by decide)⟩) (fun h6 w11 p11 F11 => ⟨fun q => absurd rfl q, fun _ => kI (h0 _ ?_ w11 p11 (F7'.tr (oR.f F11)))⟩)
        · rw [if_pos h6] at hps
          have hlt := hT.lt m7.2.1 (by omega) (by omega)
          obtain ⟨trn, tpn⟩ := m11.1 na hna
          have vn : gJ w11 83 na = c8 (tV T na) := by
            rw [hn2] at trn
            unfold TokRel at trn
            omega
          have A11 : ArM (ar ++ [t]) w11 := A7.t (oT.a (c := c) F11)
          rw [show ((na : Int)).toNat = na from rfl, vn, tpn, A11.1]
          refine ⟨⟨by omega, by omega⟩, ⟨by omega, by omega⟩, s_M_predicateOf m11 (P7.t (oT.a (c := c) F11)) okn hor (fun w15 m15 P15 F15 w17 e17 => kI (h1 _ V' tot' (a' + 1) hps w17 ?_ ?_ ?_ (fun q => ?_) ?_ ?_))⟩
          · rw [e17]
            exact m15.fx (A := fun o k => o = 78 ∧ k = 45) (B := o0) (FX.rf.uI ⟨rfl, rfl⟩) (fun o k z => by unfold msI; omega) (fun o k z => z.elim)
          · rw [e17]
            exact P15.fx (A := fun o k => o = 78 ∧ k = 45) (B := o0) (FX.rf.uI ⟨rfl, rfl⟩) (fun o k z => by omega) (fun o k z => z.elim)
          · have A15 : ArM (ar ++ [t]) w15 := A11.fx F15 (fun o k z => by unfold oP at z; omega) (fun o k z => by unfold oPJ at z; omega)
            rw [e17]
            exact A15.fx (A := fun o k => o = 78 ∧ k = 45) (B := o0) (FX.rf.uI ⟨rfl, rfl⟩) (fun o k z => by omega) (fun o k z => z.elim)
          · obtain ⟨g1, g2, g3, g4, g5⟩ := H7 q
            have n78 : ∀ k, k = 41 ∨ k = 42 ∨ k = 44 → gI w17 78 k = gI w7 78 k := fun k hk => by
              rw [e17, gI_uI, if_neg (by omega), F15.1 78 k (by unfold oP; omega), F11.1 78 k (by unfold oA; omega)]
            refine ⟨g1.mono hT (by omega) (by omega), g2.mono hT (show a' ≤ a' + 1 by omega) (by omega), g3, ⟨?_, fun q2 => ?_⟩, ?_⟩
            · rw [n78 42 (by omega)]; exact g4.1
            · rw [n78 44 (by omega)]; exact g4.2 q2
            · unfold ffC; rw [n78 41 (by omega)]; exact g5
          · rw [e17, gI_uI, if_pos ⟨rfl, rfl⟩]
          · rw [e17]
            exact ((F7'.tr (oR.a F11)).tr (oR.p F15)).uI (by unfold oR; omega)
        · rw [hps, if_neg h6, if_neg h7]
    have trm : ¬ tK T a = 17 ∨ ¬ (hd = true ∧ tot.1 ≤ 0) → ¬ (tK T a = 10 ∧ any = true) → Wp m_M_readArguments 279 [(0, vr 78), (1, vi (b01 hd)), (2, vi (b01 any)), (3, vi (na : Int)), (4, vi (tP T a))] [] (0, 0) w (fun r w' => ∃ y, r = some (vi y) ∧ K y w') := by
      intro n17 n10
      have bad : ∀ q, tK T a = 17 ∨ tK T a = 10 → pTerm T V a = q → q = .inl (tP T a) := by
        intro q hk e
        rw [← e]
        unfold pTerm pTerm0
        rw [if_neg (by omega), if_neg (by omega), if_neg (by omega), if_neg (by omega)]
      have pA : ∀ t V' a', pTerm T V a = .inr (t, V', a') → pArg T hd any V tot a = .inr (t, V', tot, a') := by
        intro t V' a' e
        have g17 : ¬ tK T a = 17 := fun q => by have := bad _ (Or.inl q) e; cases this
        have g10 : ¬ tK T a = 10 := fun q => by have := bad _ (Or.inr q) e; cases this
        unfold pArg
        rw [if_neg g17, if_neg g10, e]
      have pB : ∀ q, pTerm T V a = .inl q → pArg T hd any V tot a = .inl q := by
        intro q e
        unfold pArg
        by_cases g17 : tK T a = 17
        · have := bad _ (Or.inl g17) e
          injection this with this
          rw [if_pos g17, if_neg (by rcases n17 with n | n; exact absurd g17 n; exact n), this]
        · rw [if_neg g17]
          by_cases g10 : tK T a = 10
          · have := bad _ (Or.inr g10) e
            injection this with this
            rw [if_pos g10, if_neg (fun q => n10 ⟨g10, q⟩), this]
          · rw [if_neg g10, e]
      refine t_M_readArguments_279 (s_M_readTerm hT hs (fun t V' a' e w1 m1 R1 F1 => ⟨fun _ => ?_, fun q => absurd q (by decide)⟩) (fun q e w1 p1 F1 => ⟨fun q => absurd rfl q, fun _ => kI (h0 q (pArgs_f (pB q e)) w1 p1 (oR.t F1))⟩))
      obtain ⟨pv1, pv2⟩ := pTerm_var hT t2 hs.2.2.2.2.1.2.1 e
      have P1 : PdM s P w1 := hP.t F1
      have A1 : ArM ar w1 := hA.t F1
      rw [R1.1]
      refine ⟨fun z => ?_, fun z => ?_⟩
      · refine fin t V' tot a' w1 (pA t V' a' e) m1 P1 A1 R1 (fun q => ?_) (oR.t F1)
        obtain ⟨g1, g2, g3, g4, g5⟩ := hH q
        obtain ⟨y1, y2, y3, y4, y5, y6⟩ := pTerm_ok hT g1 t2 e
        refine ⟨y1, g2.mono hT (by omega) y5, fun q2 => by rw [pv2 z]; exact g3 q2, g4.t F1, ?_⟩
        unfold ffC
        rw [F1.1 78 41 (by unfold oT; omega), pv2 z]; exact g5
      · obtain ⟨z3, i, zp⟩ := pv1 z
        have nn := (pVar_nn zp).2.2
        have hh : hd = true → VOk T V' a' ∧ ttOK T tot a' ∧ wdC tot w1 ∧ opn V' tot = some ((opn V tot).getD (tP T a)) ∧ gI w1 78 41 = (opn V tot).getD (-1) := fun q => by
          obtain ⟨g1, g2, g3, g4, g5⟩ := hH q
          obtain ⟨y1, y2, y3, y4, y5, y6⟩ := pTerm_ok hT g1 t2 e
          refine ⟨y1, g2.mono hT (by omega) y5, g4.t F1, opn_var g2 g3 zp, ?_⟩
          rw [F1.1 78 41 (by unfold oT; omega)]; exact g5
        refine ⟨fun z2 => ?_, fun z2 w3 e3 => ?_⟩
        · refine fin t V' tot a' w1 (pA t V' a' e) m1 P1 A1 R1 (fun q => ?_) (oR.t F1)
          obtain ⟨g1, g2, g4, g5, g6⟩ := hh q
          refine ⟨g1, g2, fun _ => nn, g4, ?_⟩
          unfold ffC
          rw [g5, g6]
          cases eo : opn V tot with
          | none => rw [eo] at g6; exact absurd g6 z2
          | some u => rfl
        · have F3 : FX (fun o k => o = 78 ∧ k = 41) o0 w1 w3 := by rw [e3]; exact FX.rf.uI ⟨rfl, rfl⟩
          refine fin t V' tot a' w3 (pA t V' a' e) (m1.fx F3 (fun o k z => by unfold msI; omega) (fun o k z => z.elim)) (P1.fx F3 (fun o k z => by omega) (fun o k z => z.elim)) (A1.fx F3 (fun o k z => by omega) (fun o k z => z.elim)) ⟨by rw [F3.1 78 35 (by omega)]; exact R1.1, fun q => by rw [F3.2.1 78 36 (fun q => q)]; exact R1.2 q⟩ (fun q => ?_) ((oR.t F1).tr (F3.sub (fun o k z => by unfold oR; omega) (fun o k z => z.elim)))
          obtain ⟨g1, g2, g4, g5, g6⟩ := hh q
          refine ⟨g1, g2, fun _ => nn, ⟨?_, fun q2 => ?_⟩, ?_⟩
          · rw [F3.1 78 42 (by omega)]; exact g4.1
          · rw [F3.1 78 44 (by omega)]; exact g4.2 q2
          · unfold ffC
            rw [e3, gI_uI, if_pos ⟨rfl, rfl⟩, g5]
            cases eo : opn V tot with
            | none => rfl
            | some u =>
              rw [eo] at g6
              obtain ⟨k1, k2, -⟩ := hH q
              have := opn_rng k1 k2 eo
              have g6 : gI w1 78 41 = u := g6
              omega
    have r248 : ¬ tK T a = 17 ∨ ¬ (hd = true ∧ tot.1 ≤ 0) → Wp m_M_readArguments 248 [(0, vr 78), (1, vi (b01 hd)), (2, vi (b01 any)), (3, vi (na : Int)), (4, vi (tP T a))] [] (0, 0) w (fun r w' => ∃ y, r = some (vi y) ∧ K y w') := by
      intro n17
      refine t_M_readArguments_248 ⟨fun z => trm n17 (fun q => by rw [q.2] at z; exact absurd z (by decide)), fun z => ?_⟩
      have ha : any = true := by
        cases any with
        | true => rfl
        | false => exact absurd rfl z
      refine s_M_isSign hT hs sg_p.2.2.2.2.2.1 (fun h10 => ⟨fun q => absurd q (by decide), fun _ => ?_⟩) (fun h10 => ⟨fun _ => trm n17 (fun q => h10 q.1), fun q => absurd rfl q⟩)
      have hlt := hT.lt t2 (by omega) (by omega)
      rw [t3]
      refine ⟨⟨by omega, by omega⟩, fun w3 e3 w5 e5 => ?_⟩
      have m3 := hs.adv hlt e3
      have F5 : FX (fun o k => o = 78 ∧ k = 35) o0 w3 w5 := by rw [e5]; exact FX.rf.uI ⟨rfl, rfl⟩
      have F35 : FX (oT c) oTJ w w5 := by rw [e5, e3]; exact (FX.rf.uI (by unfold oT; omega)).uI (by unfold oT; omega)
      refine fin 4503599627370496 V tot (a + 1) w5 ?_ (m3.fx F5 (fun o k z => by unfold msI; omega) (fun o k z => z.elim)) (hP.t F35) (hA.t F35) ⟨by rw [e5, gI_uI, if_pos ⟨rfl, rfl⟩]; rfl, fun q => absurd rfl q⟩ (fun q => ?_) (oR.t F35)
      · unfold pArg
        rw [if_neg (by omega), if_pos h10, if_pos ha]
      · obtain ⟨g1, g2, g3, g4, g5⟩ := hH q
        exact ⟨g1.mono hT (by omega) (by omega), g2.mono hT (show a ≤ a + 1 by omega) (by omega), g3, g4.t F35, by unfold ffC; rw [F35.1 78 41 (by unfold oT; omega)]; exact g5⟩
    refine t_M_readArguments_79 ?_
    rw [t3, show ((a : Int)).toNat = a from rfl, tp]
    refine ⟨fun _ => ⟨⟨by omega, by omega⟩, fun z => r248 (Or.inr (fun q => by rw [q.1] at z; exact absurd z (by decide))), fun z => ⟨⟨by omega, by omega⟩, fun z2 => r248 (Or.inl (fun q => z2 (k17.mpr q).1)), fun z2 => ⟨⟨by omega, by omega⟩, fun z3 => r248 (Or.inl (fun q => (k17.mpr q).2 z3)), fun z3 => ?_⟩⟩⟩, fun z => by rw [hA.1] at z; omega⟩
    have hhd : hd = true := by
      cases hd with
      | true => rfl
      | false => exact absurd rfl z
    have h17 := k17.mp ⟨z2, z3⟩
    obtain ⟨g1, g2, g3, g4, g5⟩ := hH hhd
    have okv : 1 ≤ tV T a ∧ tV T a ≤ 4 := ok.2.2.2.2.2 h17
    have hlt := hT.lt t2 (by omega) (by omega)
    rw [g4.1]
    refine ⟨fun z4 => r248 (Or.inr (fun q => z4 (if_neg (by omega)))), fun z4 => ⟨⟨by omega, by omega⟩, fun w5 e5 w7 e7 w9 e9 => ?_⟩⟩
    have ht0 : tot.1 ≤ 0 := by
      by_cases q : 0 < tot.1
      · rw [if_pos q] at z4; omega
      · omega
    have F9 : FX (fun o k => o = 78 ∧ (k = 42 ∨ k = 43 ∨ k = 44)) o0 w w9 := by
      rw [e9, e7, e5]
      exact ((FX.rf.uI (by omega)).uI (by omega)).uI (by omega)
    have m9 : MS T nb a c V f w9 := hs.fx F9 (fun o k z => by unfold msI; omega) (fun o k z => z.elim)
    have P9 : PdM s P w9 := hP.fx F9 (fun o k z => by omega) (fun o k z => z.elim)
    have A9 : ArM ar w9 := hA.fx F9 (fun o k z => by omega) (fun o k z => z.elim)
    have F9' : FX (oR c s) (oRJ s) w w9 := F9.sub (fun o k z => by unfold oR; omega) (fun o k z => z.elim)
    have x42 : gI w9 78 42 = tV T a + 1 := by rw [e9, gI_uI, if_neg (by omega), e7, gI_uI, if_neg (by omega), e5, gI_uI, if_pos ⟨rfl, rfl⟩]; exact kv h17
    have x44 : gI w9 78 44 = tP T a := by rw [e9, gI_uI, if_pos ⟨rfl, rfl⟩]
    have x41 : gI w9 78 41 = (opn V tot).getD (-1) := by rw [F9.1 78 41 (by omega)]; exact g5
    rw [m9.2.2.1]
    refine ⟨⟨by omega, by omega⟩, fun w11 e11 => ?_⟩
    have m11 := m9.adv hlt e11
    have F11 : FX oA o0 w9 w11 := by rw [e11]; exact FX.rf.uI ⟨rfl, rfl⟩
    have F11' : FX (oR c s) (oRJ s) w w11 := F9'.tr (oR.a F11)
    have pT : ∀ q, pTot T V a = .inl q → pArgs T hd any (m + 1) ar V tot a = .inl q := by
      intro q e
      refine pArgs_f ?_
      unfold pArg
      rw [if_pos h17, if_pos ⟨hhd, ht0⟩, e]
    refine s_M_want hT m11 sg_p.1 (by decide) (fun h5 w13 m13 F13 => ⟨fun _ => ?_, fun q => absurd q (by decide)⟩) (fun h5 w13 p13 F13 => ⟨fun q => absurd rfl q, fun _ => kI (h0 _ (pT _ ?_) w13 p13 (F11'.tr (oR.f F13)))⟩)
    · have hlt2 := hT.lt m11.2.1 (by omega) (by omega)
      obtain ⟨tr13, -⟩ := m13.1 (a + 1 + 1) (by omega)
      have k3 : gI w13 80 (a + 1 + 1) = 2 ↔ tK T (a + 1 + 1) = 3 := by
        unfold TokRel at tr13
        omega
      rw [m13.2.2.1, show (((a + 1 + 1 : Nat) : Int)).toNat = a + 1 + 1 from rfl]
      refine ⟨⟨by omega, by omega⟩, fun z5 => ?_, fun z5 => ?_⟩
      · have h3 := k3.mp z5
        have F13' : FX (oR c s) (oRJ s) w w13 := F11'.tr (oR.a F13)
        refine s_M_readVariable hT m13 h3 (fun i V' e w16 m16 R16 F16 => ⟨fun q => absurd q (by decide), fun _ => ?_⟩) (fun e w16 p16 F16 => ⟨fun _ => kI (h0 _ (pT _ ?_) w16 p16 (F13'.tr (oR.t F16))), fun q => absurd rfl q⟩)
        · have hlt3 := hT.lt m13.2.1 (by omega) (by omega)
          refine s_M_want hT m16 sg_p.2.1 (by decide) (fun h6 w18 m18 F18 => ⟨fun _ => ?_, fun q => absurd q (by decide)⟩) (fun h6 w18 p18 F18 => ⟨fun q => absurd rfl q, fun _ => kI (h0 _ (pT _ ?_) w18 p18 ((F13'.tr (oR.t F16)).tr (oR.f F18)))⟩)
          · have hlt4 := hT.lt m16.2.1 (by omega) (by omega)
            have Fx : FX (oT c) oTJ w9 w18 := ((oT.a F11).tr (oT.a F13)).tr (F16.tr (oT.a F18))
            have F18' : FX (oR c s) (oRJ s) w w18 := F9'.tr (oR.t Fx)
            have y42 : gI w18 78 42 = tV T a + 1 := by rw [Fx.1 78 42 (by unfold oT; omega)]; exact x42
            have y44 : gI w18 78 44 = tP T a := by rw [Fx.1 78 44 (by unfold oT; omega)]; exact x44
            have y41 : gI w18 78 41 = (opn V tot).getD (-1) := by rw [Fx.1 78 41 (by unfold oT; omega)]; exact x41
            have nn := (pVar_nn e).2.2
            have pA : pArg T hd any V tot a = .inr (281474976710656 + (i : Int), V', (tV T a, tP T a), a + 4) := by
              unfold pArg pTot
              rw [if_pos h17, if_pos ⟨hhd, ht0⟩, if_pos h5, if_pos h3]
              show (match (match pVar V (tV T (a + 2)) (tP T (a + 2)) with
                | some (i, V') => if tK T (a + 3) = 6 then .inr (281474976710656 + (i : Int), V', a + 4) else .inl (tP T (a + 3))
                | none => .inl (tP T (a + 2)) : Int ⊕ (Int × PL × Nat)) with
                | .inl p => .inl p
                | .inr (t, V', a') => .inr (t, V', (tV T a, tP T a), a') : Int ⊕ (Int × PL × (Int × Int) × Nat)) = _
              rw [show pVar V (tV T (a + 2)) (tP T (a + 2)) = some (i, V') from e]
              show (match (if tK T (a + 3) = 6 then .inr (281474976710656 + (i : Int), V', a + 4) else .inl (tP T (a + 3)) : Int ⊕ (Int × PL × Nat)) with
                | .inl p => .inl p
                | .inr (t, V', a') => .inr (t, V', (tV T a, tP T a), a') : Int ⊕ (Int × PL × (Int × Int) × Nat)) = _
              rw [if_pos h6]
            have hop := opn_tot (tot := tot) (v := tV T a) hT (show a + 2 ≤ nb by omega) g1 ht0 okv.1 e
            have hvk := pVar_ok hT g1 (show a ≤ a + 2 by omega) (show a + 2 < nb by omega) h3 e
            have htt : ttOK T (tV T a, tP T a) (a + 4) := by
              have := hT.mono (a + 4) a (by omega) (by omega)
              have := hT.pl t2
              exact ⟨by show 0 ≤ tV T a; omega, by show tV T a ≤ 4; omega, by show 0 ≤ tP T a; omega, by show tP T a ≤ 600; omega, fun _ => by show tP T a < tP T (a + 4); omega⟩
            have wd : ∀ w', gI w' 78 42 = tV T a + 1 → gI w' 78 44 = tP T a → wdC (tV T a, tP T a) w' := fun w' q1 q2 => ⟨by rw [q1]; exact (if_pos (by show 0 < tV T a; omega)).symm, fun _ => q2⟩
            have goo : ∀ w22, FX (fun o k => o = 78 ∧ k = 41) o0 w18 w22 → gI w22 78 41 = (opn V tot).getD (tP T a) → Wp m_M_readArguments 310 [(0, vr 78), (1, vi (b01 hd)), (2, vi (b01 any)), (3, vi (na : Int))] [] (0, 0) w22 (fun r w' => ∃ y, r = some (vi y) ∧ K y w') := by
              intro w22 F22 q41
              refine fin _ V' _ (a + 4) w22 pA (m18.fx F22 (fun o k z => by unfold msI; omega) (fun o k z => z.elim)) ((P9.t Fx).fx F22 (fun o k z => by omega) (fun o k z => z.elim)) ((A9.t Fx).fx F22 (fun o k z => by omega) (fun o k z => z.elim)) ⟨?_, fun q => ?_⟩ (fun _ => ⟨hvk.1.mono hT (by omega) (by omega), htt, fun _ => nn, wd w22 ?_ ?_, ?_⟩) (F18'.tr (F22.sub (fun o k z => by unfold oR; omega) (fun o k z => z.elim)))
              · rw [F22.1 78 35 (by omega), F18.1 78 35 (by unfold oA; omega)]; exact R16.1
              · rw [F22.2.1 78 36 (fun q => q), F18.2.1 78 36 (fun q => q)]; exact R16.2 q
              · rw [F22.1 78 42 (by omega)]; exact y42
              · rw [F22.1 78 44 (by omega)]; exact y44
              · unfold ffC
                rw [q41, hop]; rfl
            rw [y41]
            refine ⟨fun z6 w20 e20 => goo w20 (by rw [e20]; exact FX.rf.uI ⟨rfl, rfl⟩) ?_, fun z6 w22 e22 => goo w22 (by rw [e22]; exact FX.rf.uI ⟨rfl, rfl⟩) ?_⟩
            · rw [e20, gI_uI, if_pos ⟨rfl, rfl⟩]
              cases eo : opn V tot with
              | none => rw [eo] at z6; exact absurd rfl z6
              | some u => rfl
            · rw [e22, gI_uI, if_pos ⟨rfl, rfl⟩]
              cases eo : opn V tot with
              | none => rfl
              | some u =>
                rw [eo] at z6
                have := opn_rng g1 g2 eo
                have z6 : u = -1 := z6
                omega
          · unfold pTot
            rw [if_pos h5, if_pos h3, show pVar V (tV T (a + 2)) (tP T (a + 2)) = some (i, V') from e]
            show (if tK T (a + 3) = 6 then _ else _) = _
            rw [if_neg h6]
        · unfold pTot
          rw [if_pos h5, if_pos h3, show pVar V (tV T (a + 2)) (tP T (a + 2)) = none from e]
      · refine s_M_refuse hT m13 (fun w24 p24 F24 => ⟨Or.inl rfl, kI (h0 _ (pT _ ?_) w24 p24 ((F11'.tr (oR.a F13)).tr (oR.f F24)))⟩)
        unfold pTot
        rw [if_pos h5, if_neg (fun q => z5 (k3.mpr q))]
    · unfold pTot
      rw [if_neg h5]
theorem s_M_readArguments {T : Tks} {nb a c s : Nat} {V P : PL} {tot f : Int × Int} {hd any : Bool} {w : Wo} {K : Int → Wo → Prop} (hT : TOk T nb) (hs : MS T nb a c V f w) (hP : PdM s P w) (hH : hd = true → HdM T V tot a w)
    (h1 : ∀ ar V' tot' a', pAtom T P hd any V tot a = .inr (ar, V', tot', a') → ∀ w', MS T nb a' c V' (ntS f P (tV T a) ar.length (tP T a)) w' → PdM s (rgP P (tV T a) ar.length) w' → ArM ar w' → (hd = true → HdM T V' tot' a' w') → gI w' 78 45 = (fi P (tV T a) : Nat) → FX (oR c s) (oRJ s) w w' → K 1 w')
    (h0 : ∀ q, pAtom T P hd any V tot a = .inl q → ∀ w', FPm q w' → FX (oR c s) (oRJ s) w w' → K 0 w') : MetI m_M_readArguments [vr 78, vi (b01 hd), vi (b01 any)] w K := by
  have h600 := hT.1
  obtain ⟨t1, t2, t3, ⟨t4, t5⟩, -, t6, t7, t8⟩ := id hs
  obtain ⟨p1, p2, p3, p4, p5, p6⟩ := id hP
  obtain ⟨tr, tp⟩ := t1 a t2
  have ok := hT.2.2.1 a t2
  have kinds : (gI w 80 a = 1 ↔ tK T a = 2) ∧ (tK T a = 2 → gJ w 83 a = c8 (tV T a)) := by
    unfold TokRel at tr
    omega
  obtain ⟨k2, kv⟩ := kinds
  refine met_of (by decide) rfl (Nat.le_of_ble_eq_true rfl) (t_M_readArguments_0 ?_)
  rw [t3, show ((a : Int)).toNat = a from rfl]
  refine ⟨⟨by omega, by omega⟩, fun z => s_M_refuse hT hs (fun w' p F => ⟨Or.inl rfl, kI (h0 _ ?_ w' p (oR.f F))⟩), fun z => ⟨⟨by omega, by omega⟩, ?_⟩⟩
  · unfold pAtom
    rw [if_neg (fun q => z (k2.mpr q.1))]
  · have h2 := k2.mp z
    have okn : 0 ≤ tV T a ∧ tV T a < 4398046511104 := ok.2.2.1 h2
    have hlt := hT.lt t2 (by omega) (by omega)
    have go : (fi P (tV T a) < P.length ∨ P.length < 16) → Wp m_M_readArguments 53 [(0, vr 78), (1, vi (b01 hd)), (2, vi (b01 any)), (3, vi (a : Int))] [] (0, 0) w (fun r w' => ∃ y, r = some (vi y) ∧ K y w') := by
      intro hor
      refine t_M_readArguments_53 ?_
      rw [t3]
      refine ⟨⟨by omega, by omega⟩, fun w1 e1 w3 e3 => ?_⟩
      have m1 := hs.adv hlt e1
      have F3 : FX (fun o k => o = 78 ∧ k = 38) o0 w1 w3 := by rw [e3]; exact FX.rf.uI ⟨rfl, rfl⟩
      have F13 : FX (fun o k => o = 78 ∧ (k = 10 ∨ k = 38)) o0 w w3 := by rw [e3, e1]; exact (FX.rf.uI (by omega)).uI (by omega)
      have F13' : FX (oR c s) (oRJ s) w w3 := F13.sub (fun o k z => by unfold oR oT; omega) (fun o k z => z.elim)
      have m3 : MS T nb (a + 1) c V f w3 := m1.fx F3 (fun o k z => by unfold msI; omega) (fun o k z => z.elim)
      have P3 : PdM s P w3 := hP.fx F13 (fun o k z => by omega) (fun o k z => z.elim)
      refine s_M_want hT m3 sg_p.1 (by decide) (fun h5 w5 m5 F5 => ⟨fun _ => ?_, fun q => absurd q (by decide)⟩) (fun h5 w5 p5 F5 => ⟨fun q => absurd rfl q, fun _ => kI (h0 _ ?_ w5 p5 (F13'.tr (oR.f F5)))⟩)
      · have hlt2 := hT.lt m3.2.1 (by omega) (by omega)
        have pe : pAtom T P hd any V tot a = pArgs T hd any 4 [] V tot (a + 2) := by
          unfold pAtom
          rw [if_pos ⟨h2, hor⟩, if_pos h5]
        have F5' := F13'.tr (oR.a (c := c) (s := s) F5)
        have A5 : ArM [] w5 := ⟨by rw [F5.1 78 38 (by unfold oA; omega), e3, gI_uI, if_pos ⟨rfl, rfl⟩]; rfl, by decide, fun i t ht => by cases ht⟩
        refine l_margs hT t2 h2 hor 4 [] V tot (a + 2) w5 rfl m5 (P3.t (oT.a (c := c) F5)) A5 (fun q => ?_) (fun ar' V2 tot2 a2 e w' g1 g2 g3 g4 g5 g6 => h1 ar' V2 tot2 a2 (pe.trans e) w' g1 g2 g3 g4 g5 (F5'.tr g6)) (fun q e w' p g => h0 q (pe.trans e) w' p (F5'.tr g))
        obtain ⟨g1, g2, g3, g4, g5⟩ := hH q
        have n78 : ∀ k, k = 41 ∨ k = 42 ∨ k = 44 → gI w5 78 k = gI w 78 k := fun k hk => by
          rw [F5.1 78 k (by unfold oA; omega), F13.1 78 k (by omega)]
        refine ⟨g1.mono hT (by omega) (by omega), g2.mono hT (show a ≤ a + 2 by omega) (by omega), g3, ⟨?_, fun q2 => ?_⟩, ?_⟩
        · rw [n78 42 (by omega)]; exact g4.1
        · rw [n78 44 (by omega)]; exact g4.2 q2
        · unfold ffC; rw [n78 41 (by omega)]; exact g5
      · unfold pAtom
        rw [if_pos ⟨h2, hor⟩, if_neg h5]
    rw [kv h2]
    refine s_M_isKnown hP okn (fun hk => ⟨fun _ => go (Or.inl hk), fun q => absurd q (by decide)⟩) (fun hk => ⟨fun q => absurd rfl q, fun _ => ?_⟩)
    rw [p1, show ((s : Int)).toNat = s from rfl, p3]
    refine ⟨⟨by omega, by omega⟩, fun z2 => go (Or.inr (by omega)), fun z2 => s_M_refuse hT hs (fun w' p F => ⟨Or.inl rfl, kI (h0 _ ?_ w' p (oR.f F))⟩)⟩
    unfold pAtom
    rw [if_neg (fun q => by omega)]

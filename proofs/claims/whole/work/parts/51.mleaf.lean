/-! the reference's reader: its state, its leaves -/
abbrev OkF : Type := Nat → Nat → Prop
def FX (A B : OkF) (w w' : Wo) : Prop := (∀ o k, ¬ A o k → gI w' o k = gI w o k) ∧ (∀ o k, ¬ B o k → gJ w' o k = gJ w o k) ∧ ∀ o k, gP w' o k = gP w o k
theorem FX.rf {A B : OkF} {w : Wo} : FX A B w w := ⟨fun _ _ _ => rfl, fun _ _ _ => rfl, fun _ _ => rfl⟩
theorem FX.tr {A B : OkF} {w w' w'' : Wo} (h1 : FX A B w w') (h2 : FX A B w' w'') : FX A B w w'' := ⟨fun o k h => (h2.1 o k h).trans (h1.1 o k h), fun o k h => (h2.2.1 o k h).trans (h1.2.1 o k h), fun o k => (h2.2.2 o k).trans (h1.2.2 o k)⟩
theorem FX.sub {A B A' B' : OkF} {w w' : Wo} (h : FX A B w w') (hA : ∀ o k, A o k → A' o k) (hB : ∀ o k, B o k → B' o k) : FX A' B' w w' := ⟨fun o k z => h.1 o k (fun q => z (hA o k q)), fun o k z => h.2.1 o k (fun q => z (hB o k q)), h.2.2⟩
theorem FX.uI {A B : OkF} {w w' : Wo} (h : FX A B w w') {o k : Nat} {v : Int} (ho : A o k) : FX A B w (uI w' o k v) := ⟨fun o' k' z => by
  rw [gI_uI, if_neg (fun q => z (by rw [q.1, q.2]; exact ho))]; exact h.1 o' k' z, h.2.1, h.2.2⟩
theorem FX.uJ {A B : OkF} {w w' : Wo} (h : FX A B w w') {o k : Nat} {v : Int} (ho : B o k) : FX A B w (uJ w' o k v) := ⟨h.1, fun o' k' z => by
  rw [gJ_uJ, if_neg (fun q => z (by rw [q.1, q.2]; exact ho))]; exact h.2.1 o' k' z, h.2.2⟩
def MkT (T : Tks) (nb : Nat) (w : Wo) : Prop := ∀ i, i ≤ nb → TokRel (tK T i) (tV T i) (gI w 80 i) (gI w 82 i) (gJ w 83 i) ∧ gI w 81 i = tP T i
def VrM (c : Nat) (V : PL) (w : Wo) : Prop := gI w 95 c = V.length ∧ V.length ≤ 8 ∧ (∀ x ∈ V, 0 ≤ x.1 ∧ x.1 < 268435456) ∧ ∀ i x, V[i]? = some x → gJ w 103 i = c8 x.1 ∧ gI w 104 i = x.2
def MS (T : Tks) (nb a c : Nat) (V : PL) (f : Int × Int) (w : Wo) : Prop := MkT T nb w ∧ a ≤ nb ∧ gI w 78 10 = a ∧ (gI w 78 31 = c ∧ c < 61) ∧ VrM c V w ∧ gI w 78 3 = f.1 ∧ gI w 78 4 = f.2 ∧ f.1 ≠ 1
def msI (c : Nat) : OkF := fun o k => (o = 78 ∧ (k = 3 ∨ k = 4 ∨ k = 10 ∨ k = 31)) ∨ o = 80 ∨ o = 81 ∨ o = 82 ∨ (o = 95 ∧ k = c) ∨ o = 104
def msJ : OkF := fun o _ => o = 83 ∨ o = 103
theorem MS.fx {T : Tks} {nb a c : Nat} {V : PL} {f : Int × Int} {w w' : Wo} {A B : OkF} (h : MS T nb a c V f w) (hf : FX A B w w') (hA : ∀ o k, A o k → ¬ msI c o k) (hB : ∀ o k, B o k → ¬ msJ o k) : MS T nb a c V f w' := by
  obtain ⟨h1, h2, h3, ⟨h4, h5⟩, ⟨v1, v2, v3, v4⟩, h6, h7, h8⟩ := h
  have e : ∀ o k, msI c o k → gI w' o k = gI w o k := fun o k z => hf.1 o k (fun q => hA o k q z)
  have e2 : ∀ o k, msJ o k → gJ w' o k = gJ w o k := fun o k z => hf.2.1 o k (fun q => hB o k q z)
  refine ⟨fun i hi => ?_, h2, ?_, ⟨?_, h5⟩, ⟨?_, v2, v3, fun i x hx => ?_⟩, ?_, ?_, h8⟩
  · rw [e 80 i (by unfold msI; omega), e 81 i (by unfold msI; omega), e 82 i (by unfold msI; omega), e2 83 i (by unfold msJ; omega)]; exact h1 i hi
  · rw [e 78 10 (by unfold msI; omega)]; exact h3
  · rw [e 78 31 (by unfold msI; omega)]; exact h4
  · rw [e 95 c (by unfold msI; omega)]; exact v1
  · rw [e 104 i (by unfold msI; omega), e2 103 i (by unfold msJ; omega)]; exact v4 i x hx
  · rw [e 78 3 (by unfold msI; omega)]; exact h6
  · rw [e 78 4 (by unfold msI; omega)]; exact h7
def FPm (p : Int) (w : Wo) : Prop := gI w 78 3 = 1 ∧ gI w 78 4 = p
def oF : OkF := fun o k => o = 78 ∧ (k = 3 ∨ k = 4)
def oA : OkF := fun o k => o = 78 ∧ k = 10
def o0 : OkF := fun _ _ => False
theorem s_M_wrong {w : Wo} {p : Int} {K : Int → Wo → Prop} (hf : gI w 78 3 ≠ 1) (h : ∀ w', FPm p w' → FX oF o0 w w' → K 0 w') : MetI m_M_wrong [vr 78, vi p] w K := by
  refine met_of (by decide) rfl (Nat.le_of_ble_eq_true rfl) (t_M_wrong_0 ⟨fun z => absurd z hf, fun _ w1 e1 w3 e3 => kI (h w3 ⟨?_, ?_⟩ ?_)⟩)
  · rw [e3, gI_uI, if_neg (by omega), e1, gI_uI, if_pos ⟨rfl, rfl⟩]
  · rw [e3, gI_uI, if_pos ⟨rfl, rfl⟩]
  · rw [e3, e1]; exact (FX.rf.uI (by unfold oF; omega)).uI (by unfold oF; omega)
theorem s_M_refuse {T : Tks} {nb a c : Nat} {V : PL} {f : Int × Int} {w : Wo} {K : Int → Wo → Prop} (hT : TOk T nb) (hs : MS T nb a c V f w) (h : ∀ w', FPm (tP T a) w' → FX oF o0 w w' → K 0 w') : MetI m_M_refuse [vr 78] w K := by
  have h600 := hT.1
  obtain ⟨h1, h2, h3, ⟨h4, h5⟩, ⟨v1, v2, v3, v4⟩, h6, h7, h8⟩ := hs
  refine met_of (by decide) rfl (Nat.le_of_ble_eq_true rfl) (t_M_refuse_0 ?_)
  rw [h3, show ((a : Int)).toNat = a from rfl, (h1 a h2).2]
  exact ⟨⟨by omega, by omega⟩, s_M_wrong (by rw [h6]; exact h8) (fun w' p F => ⟨Or.inl rfl, kI (h w' p F)⟩)⟩
/-- the sign's code and the class's kind of it -/
def sgc (code kk : Int) : Prop := ∀ k x mk mc mv, TokRel k x mk mc mv → ((mk = 4 ∧ mc = code) ↔ k = kk)
theorem sg_p : sgc 40 5 ∧ sgc 41 6 ∧ sgc 44 7 ∧ sgc 46 8 ∧ sgc 33 9 ∧ sgc 95 10 ∧ sgc 300 11 ∧ sgc 45 14 := by
  refine ⟨?_, ?_, ?_, ?_, ?_, ?_, ?_, ?_⟩ <;> (intro k x mk mc mv h; unfold TokRel at h; omega)
theorem s_M_isSign {T : Tks} {nb a c : Nat} {V : PL} {f : Int × Int} {w : Wo} {code kk : Int} {K : Int → Wo → Prop} (hT : TOk T nb) (hs : MS T nb a c V f w) (hg : sgc code kk) (h1 : tK T a = kk → K 1 w) (h0 : tK T a ≠ kk → K 0 w) : MetI m_M_isSign [vr 78, vi code] w K := by
  have h600 := hT.1
  obtain ⟨t1, h2, h3, -⟩ := hs
  have g := hg _ _ _ _ _ (t1 a h2).1
  refine met_of (by decide) rfl (Nat.le_of_ble_eq_true rfl) (t_M_isSign_0 ?_)
  rw [h3, show ((a : Int)).toNat = a from rfl]
  refine ⟨⟨by omega, by omega⟩, fun z => kI (h0 (fun q => z (g.mpr q).1)), fun z => ⟨⟨by omega, by omega⟩, fun z2 => kI (h0 (fun q => z2 (g.mpr q).2)), fun z2 => kI (h1 (g.mp ⟨z, z2⟩))⟩⟩
theorem MS.adv {T : Tks} {nb a c : Nat} {V : PL} {f : Int × Int} {w w' : Wo} (h : MS T nb a c V f w) (ha : a + 1 ≤ nb) (e : w' = uI w 78 10 ((a : Int) + 1)) : MS T nb (a + 1) c V f w' := by
  obtain ⟨h1, h2, h3, ⟨h4, h5⟩, ⟨v1, v2, v3, v4⟩, h6, h7, h8⟩ := h
  have n8 : ∀ o k, ¬ (o = 78 ∧ k = 10) → gI w' o k = gI w o k := fun o k z => by rw [e, gI_uI, if_neg z]
  refine ⟨fun i hi => ?_, ha, ?_, ⟨?_, h5⟩, ⟨?_, v2, v3, fun i x hx => ?_⟩, ?_, ?_, h8⟩
  · rw [n8 80 i (by omega), n8 81 i (by omega), n8 82 i (by omega), e, gJ_uI]; exact h1 i hi
  · rw [e, gI_uI, if_pos ⟨rfl, rfl⟩]; rfl
  · rw [n8 78 31 (by omega)]; exact h4
  · rw [n8 95 c (by omega)]; exact v1
  · rw [n8 104 i (by omega), e, gJ_uI]; exact v4 i x hx
  · rw [n8 78 3 (by omega)]; exact h6
  · rw [n8 78 4 (by omega)]; exact h7
theorem s_M_takes {T : Tks} {nb a c : Nat} {V : PL} {f : Int × Int} {w : Wo} {code kk : Int} {K : Int → Wo → Prop} (hT : TOk T nb) (hs : MS T nb a c V f w) (hg : sgc code kk) (hk : 1 < kk) (h1 : tK T a = kk → ∀ w', MS T nb (a + 1) c V f w' → FX oA o0 w w' → K 1 w') (h0 : tK T a ≠ kk → K 0 w) : MetI m_M_takes [vr 78, vi code] w K := by
  have h600 := hT.1
  refine met_of (by decide) rfl (Nat.le_of_ble_eq_true rfl) (t_M_takes_0 (s_M_isSign hT hs hg (fun z => ⟨fun _ => ?_, fun q => absurd q (by decide)⟩) (fun z => ⟨fun q => absurd rfl q, fun _ => kI (h0 z)⟩)))
  have hlt := hT.lt hs.2.1 (by omega) (by omega)
  rw [hs.2.2.1]
  exact ⟨⟨by omega, by omega⟩, fun w3 e3 => kI (h1 z w3 (hs.adv hlt e3) (by rw [e3]; exact FX.rf.uI ⟨rfl, rfl⟩))⟩
theorem s_M_want {T : Tks} {nb a c : Nat} {V : PL} {f : Int × Int} {w : Wo} {code kk : Int} {K : Int → Wo → Prop} (hT : TOk T nb) (hs : MS T nb a c V f w) (hg : sgc code kk) (hk : 1 < kk) (h1 : tK T a = kk → ∀ w', MS T nb (a + 1) c V f w' → FX oA o0 w w' → K 1 w') (h0 : tK T a ≠ kk → ∀ w', FPm (tP T a) w' → FX oF o0 w w' → K 0 w') : MetI m_M_want [vr 78, vi code] w K :=
  met_of (by decide) rfl (Nat.le_of_ble_eq_true rfl) (t_M_want_0 (s_M_takes hT hs hg hk (fun z w' c' F => ⟨fun _ => kI (h1 z w' c' F), fun q => absurd q (by decide)⟩) (fun z => ⟨fun q => absurd rfl q, fun _ => s_M_refuse hT hs (fun w' p F => ⟨fun _ => kI (h0 z w' p F), fun q => absurd rfl q⟩)⟩)))
theorem s_M_note {T : Tks} {nb a c : Nat} {V : PL} {f : Int × Int} {w : Wo} {k p : Int} {K : Wo → Prop} (hs : MS T nb a c V f w) (hk : k ≠ 1) (h : ∀ w', MS T nb a c V (nt f k p) w' → FX oF o0 w w' → K w') : MetV m_M_note [vr 78, vi k, vi p] w K := by
  obtain ⟨h1, h2, h3, ⟨h4, h5⟩, ⟨v1, v2, v3, v4⟩, h6, h7, h8⟩ := id hs
  have st : (f.1 = 0 ∨ p < f.2) → ∀ w1, w1 = uI w 78 3 k → ∀ w3, w3 = uI w1 78 4 p → K w3 := by
    intro hc w1 e1 w3 e3
    have hf : FX oF o0 w w3 := by rw [e3, e1]; exact (FX.rf.uI (by unfold oF; omega)).uI (by unfold oF; omega)
    have n8 : ∀ o j, ¬ (o = 78 ∧ (j = 3 ∨ j = 4)) → gI w3 o j = gI w o j := fun o j z => hf.1 o j z
    have n9 : ∀ o j, gJ w3 o j = gJ w o j := fun o j => hf.2.1 o j (fun q => q)
    have en : nt f k p = (k, p) := if_pos hc
    refine h w3 ?_ hf
    rw [en]
    refine ⟨fun i hi => ?_, h2, ?_, ⟨?_, h5⟩, ⟨?_, v2, v3, fun i x hx => ?_⟩, ?_, ?_, hk⟩
    · rw [n8 80 i (by omega), n8 81 i (by omega), n8 82 i (by omega), n9]; exact h1 i hi
    · rw [n8 78 10 (by omega)]; exact h3
    · rw [n8 78 31 (by omega)]; exact h4
    · rw [n8 95 c (by omega)]; exact v1
    · rw [n8 104 i (by omega), n9]; exact v4 i x hx
    · rw [e3, gI_uI, if_neg (by omega), e1, gI_uI, if_pos ⟨rfl, rfl⟩]
    · rw [e3, gI_uI, if_pos ⟨rfl, rfl⟩]
  refine met_of (by decide) rfl (Nat.le_of_ble_eq_true rfl) (t_M_note_0 ?_)
  rw [h6, h7]
  refine ⟨fun z => absurd z h8, fun _ => ⟨fun z w1 e1 w3 e3 => ⟨rfl, st (Or.inl z) w1 e1 w3 e3⟩, fun z => ⟨fun z2 w5 e5 w7 e7 => ⟨rfl, st (Or.inr z2) w5 e5 w7 e7⟩, fun z2 => ⟨rfl, ?_⟩⟩⟩⟩
  have e : nt f k p = f := if_neg (by omega)
  rw [e] at h
  exact h w hs FX.rf
/-- a term as the reference has it -/
def rk (t : Int) : Int := if t = 4503599627370496 then 2 else if 281474976710656 ≤ t then 1 else 0
def rv (t : Int) : Int := if 281474976710656 ≤ t then t - 281474976710656 else if 17592186044416 ≤ t then c8 (t - 17592186044416) + 72057594037927936 else t
def RdC (t : Int) (w : Wo) : Prop := gI w 78 35 = rk t ∧ (t ≠ 4503599627370496 → gJ w 78 36 = rv t)
def oT (c : Nat) : OkF := fun o k => (o = 78 ∧ (k = 3 ∨ k = 4 ∨ k = 10 ∨ k = 35)) ∨ o = 104 ∨ (o = 95 ∧ k = c)
def oTJ : OkF := fun o k => (o = 78 ∧ k = 36) ∨ o = 103
theorem oT.f {c : Nat} {w w' : Wo} (h : FX oF o0 w w') : FX (oT c) oTJ w w' := h.sub (fun o k z => by unfold oF at z; unfold oT; omega) (fun o k z => z.elim)
theorem oT.a {c : Nat} {w w' : Wo} (h : FX oA o0 w w') : FX (oT c) oTJ w w' := h.sub (fun o k z => by unfold oA at z; unfold oT; omega) (fun o k z => z.elim)
theorem s_M_readVariable {T : Tks} {nb a c : Nat} {V : PL} {f : Int × Int} {w : Wo} {K : Int → Wo → Prop} (hT : TOk T nb) (hs : MS T nb a c V f w) (h3 : tK T a = 3) (h1 : ∀ i V', pVar V (tV T a) (tP T a) = some (i, V') → ∀ w', MS T nb (a + 1) c V' f w' → RdC (281474976710656 + (i : Int)) w' → FX (oT c) oTJ w w' → K 1 w') (h0 : pVar V (tV T a) (tP T a) = none → ∀ w', FPm (tP T a) w' → FX (oT c) oTJ w w' → K 0 w') : MetI m_M_readVariable [vr 78] w K := by
  have h600 := hT.1
  obtain ⟨t1, t2, t3, ⟨t4, t5⟩, ⟨v1, v2, v3, v4⟩, t6, t7, t8⟩ := id hs
  have hlt := hT.lt t2 (by omega) (by omega)
  obtain ⟨tr, tp⟩ := t1 a t2
  have tx : gJ w 83 a = c8 (tV T a) ∧ 0 ≤ tV T a ∧ tV T a < 268435456 := by
    rw [h3] at tr
    unfold TokRel at tr
    omega
  have ok := hT.2.2.1 a t2
  -- the end of the method
  have fin : ∀ (i : Nat) (V' : PL) (w1 : Wo), i < 8 → MS T nb a c V' f w1 → pVar V (tV T a) (tP T a) = some (i, V') → FX (oT c) oTJ w w1 → Wp m_M_readVariable 107 [(0, vr 78), (1, vi (i : Int))] [] (0, 0) w1 (fun r w' => ∃ y, r = some (vi y) ∧ K y w') := by
    intro i V' w1 hi hm hp F
    refine t_M_readVariable_107 (fun w2 e2 w3 e3 => ?_)
    have m3 : MS T nb a c V' f w3 := by
      rw [e3, e2]
      exact hm.fx (A := fun o k => o = 78 ∧ k = 35) (B := fun o k => o = 78 ∧ k = 36) ((FX.rf.uI ⟨rfl, rfl⟩).uJ ⟨rfl, rfl⟩) (fun o k z => by unfold msI; omega) (fun o k z => by unfold msJ; omega)
    rw [m3.2.2.1]
    refine ⟨⟨by omega, by omega⟩, fun w5 e5 => kI (h1 i V' hp w5 (m3.adv hlt e5) ⟨?_, fun _ => ?_⟩ ?_)⟩
    · rw [e5, gI_uI, if_neg (by omega), e3, gI_uJ, e2, gI_uI, if_pos ⟨rfl, rfl⟩]
      unfold rk
      rw [if_neg (by omega), if_pos (by omega)]
    · rw [e5, gJ_uI, e3, gJ_uJ, if_pos ⟨rfl, rfl⟩]
      unfold rv
      rw [if_pos (by omega)]
      omega
    · rw [e5, e3, e2]
      exact ((F.uI (by unfold oT; omega)).uJ (by unfold oTJ; omega)).uI (by unfold oT; omega)
  have mid : ∀ (i : Nat), i ≤ V.length → i = fi V (tV T a) → Wp m_M_readVariable 40 [(0, vr 78), (1, vi (i : Int))] [] (0, 0) w (fun r w' => ∃ y, r = some (vi y) ∧ K y w') := by
    intro i hi hf
    refine t_M_readVariable_40 ?_
    rw [t4, show ((c : Int)).toNat = c from rfl, v1, t3, show ((a : Int)).toNat = a from rfl, show ((i : Int)).toNat = i from rfl]
    refine ⟨⟨by omega, by omega⟩, fun z => ?_, fun z => ⟨fun z2 => ?_, fun z2 => ?_⟩⟩
    · have hlt2 : i < V.length := by omega
      refine fin i V w (by omega) hs ?_ FX.rf
      unfold pVar
      rw [← hf, if_pos hlt2]
    · refine ⟨⟨by omega, by omega⟩, ⟨by omega, by omega⟩, fun w4 e4 => ?_⟩
      have x10 : gI w4 78 10 = (a : Int) := by rw [e4, gI_uJ]; exact t3
      rw [x10, show ((a : Int)).toNat = a from rfl]
      have x81 : gI w4 81 a = tP T a := by rw [e4, gI_uJ]; exact tp
      rw [x81]
      refine ⟨⟨by omega, by omega⟩, ⟨by omega, by omega⟩, fun w8 e8 => ?_⟩
      have x31 : gI w8 78 31 = (c : Int) := by rw [e8, gI_uI, if_neg (by omega), e4, gI_uJ]; exact t4
      have x95 : gI w8 95 c = V.length := by rw [e8, gI_uI, if_neg (by omega), e4, gI_uJ]; exact v1
      rw [x31, show ((c : Int)).toNat = c from rfl, x95]
      refine ⟨⟨by omega, by omega⟩, ⟨by omega, by omega⟩, ⟨by omega, by omega⟩, fun w12 e12 => ?_⟩
      have hF : FX (oT c) oTJ w w12 := by
        rw [e12, e8, e4]
        exact ((FX.rf.uJ (by unfold oTJ; omega)).uI (by unfold oT; omega)).uI (by unfold oT; omega)
      have n8 : ∀ o k, o ≠ 95 → o ≠ 104 → gI w12 o k = gI w o k := fun o k z1 z2 => by
        rw [e12, gI_uI, if_neg (by omega), e8, gI_uI, if_neg (by omega), e4, gI_uJ]
      have n9 : ∀ o k, o ≠ 103 → gJ w12 o k = gJ w o k := fun o k z1 => by
        rw [e12, gJ_uI, e8, gJ_uI, e4, gJ_uJ, if_neg (by omega)]
      refine fin i (V ++ [(tV T a, tP T a)]) w12 (by omega) ⟨fun j hj => ?_, t2, ?_, ⟨?_, t5⟩, ⟨?_, ?_, fun x hx => ?_, fun j x hx => ?_⟩, ?_, ?_, t8⟩ ?_ hF
      · rw [n8 80 j (by omega) (by omega), n8 81 j (by omega) (by omega), n8 82 j (by omega) (by omega), n9 83 j (by omega)]; exact t1 j hj
      · rw [n8 78 10 (by omega) (by omega)]; exact t3
      · rw [n8 78 31 (by omega) (by omega)]; exact t4
      · rw [e12, gI_uI, if_pos ⟨rfl, rfl⟩, List.length_append]; rfl
      · rw [List.length_append]; show V.length + 1 ≤ 8; omega
      · rcases List.mem_append.mp hx with hx | hx
        · exact v3 x hx
        · rw [List.mem_singleton.mp hx]; exact tx.2
      · rcases getApp hx with ⟨hj, hx⟩ | ⟨hj, hx⟩
        · obtain ⟨q1, q2⟩ := v4 j x hx
          constructor
          · rw [e12, gJ_uI, e8, gJ_uI, e4, gJ_uJ, if_neg (by omega)]; exact q1
          · rw [e12, gI_uI, if_neg (by omega), e8, gI_uI, if_neg (by omega), e4, gI_uJ]; exact q2
        · subst hx
          constructor
          · rw [e12, gJ_uI, e8, gJ_uI, e4, gJ_uJ, if_pos ⟨rfl, by omega⟩]; exact tx.1
          · rw [e12, gI_uI, if_neg (by omega), e8, gI_uI, if_pos ⟨rfl, by omega⟩]
      · rw [n8 78 3 (by omega) (by omega)]; exact t6
      · rw [n8 78 4 (by omega) (by omega)]; exact t7
      · unfold pVar
        rw [← hf, if_neg (by omega), if_pos (by omega), show V.length = i by omega]
    · refine s_M_refuse hT hs (fun w' p F => ⟨Or.inl rfl, kI (h0 ?_ w' p (oT.f F))⟩)
      unfold pVar
      rw [← hf, if_neg (by omega), if_neg (by omega)]
  have lp : ∀ (k i : Nat), V.length - i ≤ k → i ≤ V.length → (∀ (j : Nat) (z : Int × Int), j < i → V[j]? = some z → z.1 ≠ tV T a) → Wp m_M_readVariable 2 [(0, vr 78), (1, vi (i : Int))] [] (0, 0) w (fun r w' => ∃ y, r = some (vi y) ∧ K y w') := by
    intro k
    induction k with
    | zero =>
      intro i hk hi hj
      have e : i = V.length := by omega
      refine t_M_readVariable_2 ?_
      rw [t4, show ((c : Int)).toNat = c from rfl, v1]
      refine ⟨⟨by omega, by omega⟩, fun _ => mid i hi ?_, fun z => by omega⟩
      rw [e]
      exact (fi_no V _ (fun j z hz => hj j z (by have := (List.getElem?_eq_some_iff.mp hz).1; omega) hz)).symm
    | succ k ih =>
      intro i hk hi hj
      by_cases hil : i < V.length
      · obtain ⟨x, hx⟩ : ∃ x, V[i]? = some x := ⟨_, List.getElem?_eq_getElem hil⟩
        have q := (v4 i x hx).1
        have qr := v3 x (List.mem_of_getElem? hx)
        have inj := c8_inj (x := x.1) (y := tV T a) ⟨qr.1, by omega⟩ ⟨tx.2.1, by omega⟩
        refine t_M_readVariable_2 ?_
        rw [t4, show ((c : Int)).toNat = c from rfl, v1, t3, show ((a : Int)).toNat = a from rfl, show ((i : Int)).toNat = i from rfl, q, tx.1, lcmp0]
        refine ⟨⟨by omega, by omega⟩, fun z => by omega, fun _ => ⟨⟨by omega, by omega⟩, ⟨by omega, by omega⟩, fun z => mid i hi ?_, fun z => ⟨⟨by omega, by omega⟩, ih (i + 1) (by omega) (by omega) (fun j y hj2 hy => ?_)⟩⟩⟩
        · exact (fi_at V _ i x hj hx (inj.mp z)).symm
        · by_cases e : j = i
          · subst e
            rw [hx] at hy
            injection hy with hy
            rw [← hy]
            exact fun q => z (inj.mpr q)
          · exact hj j y (by omega) hy
      · exact ih i (by omega) hi hj
  exact met_of (by decide) rfl (Nat.le_of_ble_eq_true rfl) (t_M_readVariable_0 (lp V.length 0 (by omega) (Nat.zero_le _) (fun j z hj => by omega)))

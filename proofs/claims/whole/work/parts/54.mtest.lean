/-! the reference: tests -/
def TmM (l k : Nat) (t : Int) (w : Wo) : Prop := gI w 98 (4 * l + k) = rk t ∧ (t ≠ 4503599627370496 → gJ w 99 (4 * l + k) = rv t)
def LiM (l : Nat) (L : Lit) (w : Wo) : Prop := gI w 96 l = L.1 ∧ gI w 108 l = L.2.1 ∧ (L.1 = 0 ∨ L.1 = 1 → gI w 97 l = L.2.2.1 ∧ gI w 109 l = L.2.2.2.2.length) ∧ (L.1 = 2 → (gI w 97 l = 61 ↔ L.2.2.2.1 = 1)) ∧ L.2.2.2.2.length ≤ 4 ∧ ∀ k t, L.2.2.2.2[k]? = some t → TmM l k t w
def LsM (c : Nat) (ls : List Lit) (w : Wo) : Prop := gI w 94 c = ls.length ∧ ∀ i L, ls[i]? = some L → LiM (6 * c + i) L w
def lsI (c n : Nat) : OkF := fun o k => (o = 94 ∧ k = c) ∨ ((o = 96 ∨ o = 97 ∨ o = 108 ∨ o = 109) ∧ 6 * c ≤ k ∧ k < 6 * c + n) ∨ (o = 98 ∧ 24 * c ≤ k ∧ k < 24 * c + 4 * n)
def lsJ (c n : Nat) : OkF := fun o k => o = 99 ∧ 24 * c ≤ k ∧ k < 24 * c + 4 * n
theorem LiM.eq {l : Nat} {L : Lit} {w w' : Wo} (h : LiM l L w) (e1 : ∀ o, (o = 96 ∨ o = 97 ∨ o = 108 ∨ o = 109) → gI w' o l = gI w o l) (e2 : ∀ k, k < 4 → gI w' 98 (4 * l + k) = gI w 98 (4 * l + k)) (e3 : ∀ k, k < 4 → gJ w' 99 (4 * l + k) = gJ w 99 (4 * l + k)) : LiM l L w' := by
  obtain ⟨h1, h2, h3, h4, h5, h6⟩ := h
  rw [← e1 96 (by omega)] at h1
  rw [← e1 108 (by omega)] at h2
  rw [← e1 97 (by omega), ← e1 109 (by omega)] at h3
  rw [← e1 97 (by omega)] at h4
  refine ⟨h1, h2, h3, h4, h5, fun k t ht => ?_⟩
  have hk := (List.getElem?_eq_some_iff.mp ht).1
  obtain ⟨q1, q2⟩ := h6 k t ht
  exact ⟨by rw [e2 k (by omega)]; exact q1, fun q => by rw [e3 k (by omega)]; exact q2 q⟩
theorem LsM.fx {c : Nat} {ls : List Lit} {w w' : Wo} {A B : OkF} (h : LsM c ls w) (hf : FX A B w w') (hA : ∀ o k, A o k → ¬ lsI c ls.length o k) (hB : ∀ o k, B o k → ¬ lsJ c ls.length o k) : LsM c ls w' := by
  have e : ∀ o k, lsI c ls.length o k → gI w' o k = gI w o k := fun o k z => hf.1 o k (fun q => hA o k q z)
  have e2 : ∀ o k, lsJ c ls.length o k → gJ w' o k = gJ w o k := fun o k z => hf.2.1 o k (fun q => hB o k q z)
  refine ⟨by rw [e 94 c (by unfold lsI; omega)]; exact h.1, fun i L hL => ?_⟩
  have hi := (List.getElem?_eq_some_iff.mp hL).1
  exact (h.2 i L hL).eq (fun o ho => e o _ (by unfold lsI; omega)) (fun k hk => e 98 _ (by unfold lsI; omega)) (fun k hk => e2 99 _ (by unfold lsJ; omega))
theorem s_M_lay {l k : Nat} {w : Wo} {K : Wo → Prop} (hl : l < 366) (hk : k < 4) (h : ∀ w2 w5, w2 = uI w 98 (4 * l + k) (gI w 78 35) → w5 = uJ w2 99 (4 * l + k) (gJ w2 78 36) → K w5) : MetV m_M_lay [vr 78, vi (l : Int), vi (k : Int)] w K := by
  refine met_of (by decide) rfl (Nat.le_of_ble_eq_true rfl) (t_M_lay_0 ?_)
  rw [show (4 * (l : Int) + (k : Int)).toNat = 4 * l + k by omega]
  exact ⟨⟨by omega, by omega⟩, ⟨by omega, by omega⟩, ⟨by omega, by omega⟩, fun w2 e2 => ⟨⟨by omega, by omega⟩, ⟨by omega, by omega⟩, ⟨by omega, by omega⟩, fun w5 e5 => ⟨rfl, h w2 w5 e2 e5⟩⟩⟩
/-- reading a test leaves all else alone -/
def oQ (c n : Nat) : OkF := fun o k => oT c o k ∨ (o = 94 ∧ k = c) ∨ ((o = 96 ∨ o = 97 ∨ o = 108 ∨ o = 109) ∧ k = 6 * c + n) ∨ (o = 98 ∧ 24 * c + 4 * n ≤ k ∧ k < 24 * c + 4 * n + 4)
def oQJ (c n : Nat) : OkF := fun o k => oTJ o k ∨ (o = 99 ∧ 24 * c + 4 * n ≤ k ∧ k < 24 * c + 4 * n + 4)
theorem oQ.t {c n : Nat} {w w' : Wo} (h : FX (oT c) oTJ w w') : FX (oQ c n) (oQJ c n) w w' := h.sub (fun o k z => Or.inl z) (fun o k z => Or.inl z)
theorem lay_fx {c n k : Nat} {w w2 w5 : Wo} {x y : Int} (hk : k < 4) (e2 : w2 = uI w 98 (4 * (6 * c + n) + k) x) (e5 : w5 = uJ w2 99 (4 * (6 * c + n) + k) y) : FX (fun o j => o = 98 ∧ j = 4 * (6 * c + n) + k) (fun o j => o = 99 ∧ j = 4 * (6 * c + n) + k) w w5 := by
  rw [e5, e2]
  exact FX.uJ (FX.uI FX.rf ⟨rfl, rfl⟩) ⟨rfl, rfl⟩
theorem lay_tm {l k : Nat} {t : Int} {w w2 w5 : Wo} (hR : RdC t w) (e2 : w2 = uI w 98 (4 * l + k) (gI w 78 35)) (e5 : w5 = uJ w2 99 (4 * l + k) (gJ w2 78 36)) : TmM l k t w5 := by
  refine ⟨?_, fun q => ?_⟩
  · rw [e5, gI_uJ, e2, gI_uI, if_pos ⟨rfl, rfl⟩]; exact hR.1
  · rw [e5, gJ_uJ, if_pos ⟨rfl, rfl⟩, e2, gJ_uI]; exact hR.2 q
theorem TmM.fx {l k : Nat} {t : Int} {w w' : Wo} {A B : OkF} (h : TmM l k t w) (hf : FX A B w w') (hA : ¬ A 98 (4 * l + k)) (hB : ¬ B 99 (4 * l + k)) : TmM l k t w' := ⟨by rw [hf.1 _ _ hA]; exact h.1, fun q => by rw [hf.2.1 _ _ hB]; exact h.2 q⟩
theorem s_M_isSignR {T : Tks} {nb a c : Nat} {V : PL} {f : Int × Int} {w : Wo} {code : Int} {K : Int → Wo → Prop} (hT : TOk T nb) (hs : MS T nb a c V f w) (h1 : (gI w 80 a = 4 ∧ gI w 82 a = code) → K 1 w) (h0 : ¬ (gI w 80 a = 4 ∧ gI w 82 a = code) → K 0 w) : MetI m_M_isSign [vr 78, vi code] w K := by
  have h600 := hT.1
  obtain ⟨t1, h2, h3, -⟩ := hs
  refine met_of (by decide) rfl (Nat.le_of_ble_eq_true rfl) (t_M_isSign_0 ?_)
  rw [h3, show ((a : Int)).toNat = a from rfl]
  exact ⟨⟨by omega, by omega⟩, fun z => kI (h0 (fun q => z q.1)), fun z => ⟨⟨by omega, by omega⟩, fun z2 => kI (h0 (fun q => z2 q.2)), fun z2 => kI (h1 ⟨z, z2⟩)⟩⟩
theorem s_M_relation {T : Tks} {nb a c : Nat} {V : PL} {f : Int × Int} {w : Wo} {K : Int → Wo → Prop} (hT : TOk T nb) (hs : MS T nb a c V f w) (h1 : (tK T a = 12 ∨ tK T a = 13) → ∀ z, z ≠ 0 → (z = 61 ↔ tK T a = 12) → K z w) (h0 : ¬ (tK T a = 12 ∨ tK T a = 13) → K 0 w) : MetI m_M_relation [vr 78] w K := by
  have h600 := hT.1
  obtain ⟨t1, h2, h3, -⟩ := hs
  have tr := (t1 a h2).1
  refine met_of (by decide) rfl (Nat.le_of_ble_eq_true rfl) (t_M_relation_0 ?_)
  rw [h3, show ((a : Int)).toNat = a from rfl]
  generalize hm : gI w 80 a = mk at tr ⊢
  generalize hc : gI w 82 a = mc at tr ⊢
  have k1 : (mk = 4 ∧ (mc = 61 ∨ mc = 301 ∨ mc = 60 ∨ mc = 302 ∨ mc = 62 ∨ mc = 303)) ↔ (tK T a = 12 ∨ tK T a = 13) := by
    unfold TokRel at tr
    omega
  have k2 : tK T a = 12 ∨ tK T a = 13 → (mc = 61 ↔ tK T a = 12) := by
    unfold TokRel at tr
    omega
  have yes : mk = 4 → (mc = 61 ∨ mc = 301 ∨ mc = 60 ∨ mc = 302 ∨ mc = 62 ∨ mc = 303) → K mc w := fun q1 q2 => by
    have q := k1.mp ⟨q1, q2⟩
    exact h1 q mc (by omega) (k2 q)
  refine ⟨⟨by omega, by omega⟩, fun z => ⟨⟨by omega, by omega⟩, fun z1 => kI (yes z (by omega)), fun z1 => ⟨fun z2 => kI (yes z (by omega)), fun z2 => ⟨fun z3 => kI (yes z (by omega)), fun z3 => ⟨fun z4 => kI (yes z (by omega)), fun z4 => ⟨fun z5 => kI (yes z (by omega)), fun z5 => ⟨fun z6 => kI (h0 (fun q => ?_)), fun z6 => kI (yes z (by omega))⟩⟩⟩⟩⟩⟩, fun z => kI (h0 (fun q => z (k1.mpr q).1))⟩
  have := (k1.mpr q).2
  omega
theorem pTest_1 {T : Tks} {V : PL} {a : Nat} {q : Int} (h : pTerm T V a = .inl q) : pTest T V a = .inl q := by
  unfold pTest; rw [h]
theorem pTest_2 {T : Tks} {V V1 : PL} {a a1 : Nat} {t1 : Int} (h : pTerm T V a = .inr (t1, V1, a1)) : pTest T V a = (if tK T a = 3 ∧ tK T a1 = 16 then (match pTerm T V1 (a1 + 1) with
      | .inl p => .inl p
      | .inr (t2, V2, a2) => if tK T a2 = 14 ∨ tK T a2 = 15 then (match pTerm T V2 (a2 + 1) with
        | .inl p => .inl p
        | .inr (t3, V3, a3) => .inr ((3, tP T a, -1, 0, [t1, t2, t3]), V3, a3)) else .inl (tP T a2))
    else if tK T a1 = 12 ∨ tK T a1 = 13 then (match pTerm T V1 (a1 + 1) with
      | .inl p => .inl p
      | .inr (t2, V2, a2) => .inr ((2, tP T a, -1, (if tK T a1 = 12 then 1 else 0), [t1, t2]), V2, a2))
    else .inl (tP T a1)) := by
  unfold pTest; rw [h]; rfl
theorem l_mtest {T : Tks} {nb a c : Nat} {V : PL} {f : Int × Int} {ls : List Lit} {w : Wo} {K : Int → Wo → Prop} {b : Int} (hT : TOk T nb) (hs : MS T nb a c V f w) (hl : LsM c ls w) (h6 : ls.length < 6) (hp : gI w 108 (6 * c + ls.length) = tP T a) (hb : ¬ b = 0 ↔ tK T a = 3)
    (h1 : ∀ L V' a', pTest T V a = .inr (L, V', a') → ∀ w', MS T nb a' c V' f w' → LsM c (ls ++ [L]) w' → FX (oQ c ls.length) (oQJ c ls.length) w w' → K 1 w')
    (h0 : ∀ q, pTest T V a = .inl q → ∀ w', FPm q w' → FX (oQ c ls.length) (oQJ c ls.length) w w' → K 0 w') : Wp m_M_readLiteral 318 [(0, vr 78), (1, vi ((6 * c + ls.length : Nat) : Int))] [vi b] (0, 0) w (fun r w' => ∃ y, r = some (vi y) ∧ K y w') := by
  have h600 := hT.1
  have hc := hs.2.2.2.1.2
  have lq : ∀ w1 w2, FX (oT c) oTJ w1 w2 → LsM c ls w1 → LsM c ls w2 := fun w1 w2 F h => h.fx F (fun o k z => by unfold oT at z; unfold lsI; omega) (fun o k z => by unfold oTJ at z; unfold lsJ; omega)
  -- the last store
  have fin : ∀ (L : Lit) (V' : PL) (a' : Nat) (w9 : Wo), pTest T V a = .inr (L, V', a') → MS T nb a' c V' f w9 → LsM c ls w9 → LiM (6 * c + ls.length) L w9 → FX (oQ c ls.length) (oQJ c ls.length) w w9 → (0 ≤ gI w9 78 31 ∧ gI w9 78 31 < 61) ∧ inr32 (gI w9 94 (gI w9 78 31).toNat + 1) ∧ (0 ≤ gI w9 78 31 ∧ gI w9 78 31 < 61) ∧ ∀ w12 : Wo, w12 = uI w9 94 (gI w9 78 31).toNat (gI w9 94 (gI w9 78 31).toNat + 1) → ∃ y, (some (vi 1) : Option AV) = some (vi y) ∧ K y w12 := by
    intro L V' a' w9 e m9 l9 i9 F9
    rw [m9.2.2.2.1.1, show ((c : Int)).toNat = c from rfl, l9.1]
    refine ⟨⟨by omega, by omega⟩, ⟨by omega, by omega⟩, ⟨by omega, by omega⟩, fun w12 e12 => kI (h1 L V' a' e w12 ?_ ⟨?_, fun i L' hL' => ?_⟩ ?_)⟩
    · rw [e12]
      exact m9.fx (A := fun o k => o = 94 ∧ k = c) (B := o0) (FX.rf.uI ⟨rfl, rfl⟩) (fun o k z => by unfold msI; omega) (fun o k z => z.elim)
    · rw [e12, gI_uI, if_pos ⟨rfl, rfl⟩, List.length_append]; rfl
    · have q : LiM (6 * c + i) L' w9 := by
        rcases getApp hL' with ⟨hi, hL'⟩ | ⟨hi, hL'⟩
        · exact l9.2 i L' hL'
        · rw [hi, ← hL']; exact i9
      refine q.eq (fun o ho => ?_) (fun k hk => ?_) (fun k hk => ?_)
      · rw [e12, gI_uI, if_neg (by omega)]
      · rw [e12, gI_uI, if_neg (by omega)]
      · rw [e12, gJ_uI]
    · rw [e12]
      exact F9.uI (by unfold oQ; omega)
  refine t_M_readLiteral_318 (s_M_readTerm hT hs (fun t1 V1 a1 e1 w1 m1 R1 F1 => ⟨fun _ => ?_, fun q => absurd q (by decide)⟩) (fun q e w1 p1 F1 => ⟨fun q => absurd rfl q, fun _ => kI (h0 q (pTest_1 e) w1 p1 (oQ.t F1))⟩))
  refine s_M_lay (k := 0) (by omega) (by decide) (fun w2 w3 e2 e3 => ?_)
  have FL3 := lay_fx (c := c) (n := ls.length) (k := 0) (by decide) e2 e3
  have T3 : TmM (6 * c + ls.length) 0 t1 w3 := lay_tm R1 e2 e3
  have m3 : MS T nb a1 c V1 f w3 := m1.fx FL3 (fun o k z => by unfold msI; omega) (fun o k z => by unfold msJ; omega)
  have l3 : LsM c ls w3 := (lq _ _ F1 hl).fx FL3 (fun o k z => by unfold lsI; omega) (fun o k z => by unfold lsJ; omega)
  have F3 : FX (oQ c ls.length) (oQJ c ls.length) w w3 := (oQ.t F1).tr (FL3.sub (fun o k z => by unfold oQ; omega) (fun o k z => by unfold oQJ; omega))
  have p3 : gI w3 108 (6 * c + ls.length) = tP T a := by rw [FL3.1 108 _ (by omega), F1.1 108 _ (by unfold oT; omega)]; exact hp
  have pe := pTest_2 e1
  have tr3 := (m3.1 a1 m3.2.1).1
  have k16 : (gI w3 80 a1 = 5 ∧ gI w3 82 a1 = 1) ↔ tK T a1 = 16 := by
    unfold TokRel at tr3
    have := (hT.2.2.1 a1 m3.2.1)
    omega
  have rel : ¬ (tK T a = 3 ∧ tK T a1 = 16) → Wp m_M_readLiteral 503 [(0, vr 78), (1, vi ((6 * c + ls.length : Nat) : Int))] [] (0, 0) w3 (fun r w' => ∃ y, r = some (vi y) ∧ K y w') := by
    intro hno
    rw [if_neg hno] at pe
    refine t_M_readLiteral_503 (s_M_relation hT m3 (fun hr z hz hz61 => ⟨fun _ => ⟨⟨by omega, by omega⟩, fun w4 e4 => ?_⟩, fun q => absurd q hz⟩) (fun hr => ⟨fun q => absurd rfl q, fun _ => s_M_refuse hT m3 (fun w20 p20 F20 => ⟨Or.inl rfl, kI (h0 _ ?_ w20 p20 (F3.tr (oQ.t (oT.f F20))))⟩)⟩))
    · rw [show (((6 * c + ls.length : Nat) : Int)).toNat = 6 * c + ls.length from rfl] at e4
      have F4 : FX (fun o k => o = 96 ∧ k = 6 * c + ls.length) o0 w3 w4 := by rw [e4]; exact FX.rf.uI ⟨rfl, rfl⟩
      have m4 : MS T nb a1 c V1 f w4 := m3.fx F4 (fun o k z => by unfold msI; omega) (fun o k z => z.elim)
      have hlt := hT.lt m3.2.1 (by omega) (by omega)
      rw [if_pos hr] at pe
      refine s_M_relation hT m4 (fun _ z7 hz7 hz761 => ⟨⟨by omega, by omega⟩, fun w9 e9 => ?_⟩) (fun q => absurd hr q)
      rw [show (((6 * c + ls.length : Nat) : Int)).toNat = 6 * c + ls.length from rfl] at e9
      have F9 : FX (fun o k => o = 97 ∧ k = 6 * c + ls.length) o0 w4 w9 := by rw [e9]; exact FX.rf.uI ⟨rfl, rfl⟩
      have m9 : MS T nb a1 c V1 f w9 := m4.fx F9 (fun o k z => by unfold msI; omega) (fun o k z => z.elim)
      rw [m9.2.2.1]
      refine ⟨⟨by omega, by omega⟩, fun w11 e11 => ?_⟩
      have m11 := m9.adv hlt e11
      have F11 : FX (oT c) oTJ w9 w11 := by rw [e11]; exact FX.rf.uI (by unfold oT; omega)
      have F9' : FX (oQ c ls.length) (oQJ c ls.length) w w9 := (F3.tr (F4.sub (fun o k z => by unfold oQ; omega) (fun o k z => z.elim))).tr (F9.sub (fun o k z => by unfold oQ; omega) (fun o k z => z.elim))
      refine s_M_readTerm hT m11 (fun t2 V2 a2 e5 w13 m13 R13 F13 => ⟨fun _ => ?_, fun q => absurd q (by decide)⟩) (fun q e5 w13 p13 F13 => ⟨fun q => absurd rfl q, fun _ => kI (h0 q (by rw [pe, e5]) w13 p13 ((F9'.tr (oQ.t F11)).tr (oQ.t F13)))⟩)
      rw [e5] at pe
      have F913 := F11.tr F13
      refine s_M_lay (k := 1) (by omega) (by decide) (fun w14 w15 e14 e15 => ?_)
      have FL15 := lay_fx (c := c) (n := ls.length) (k := 1) (by decide) e14 e15
      have T15 : TmM (6 * c + ls.length) 1 t2 w15 := lay_tm R13 e14 e15
      have T15' : TmM (6 * c + ls.length) 0 t1 w15 := ((((T3.fx F4 (by omega) (fun q => q)).fx F9 (by omega) (fun q => q)).fx F913 (by unfold oT; omega) (by unfold oTJ; omega)).fx FL15 (by omega) (by omega))
      have g15 : ∀ o, o = 96 ∨ o = 97 ∨ o = 108 → gI w15 o (6 * c + ls.length) = gI w9 o (6 * c + ls.length) := fun o ho => by
        rw [FL15.1 o _ (by omega), F913.1 o _ (by unfold oT; omega)]
      refine fin _ V2 a2 w15 pe (m13.fx FL15 (fun o k z => by unfold msI; omega) (fun o k z => by unfold msJ; omega)) ?_ ⟨?_, ?_, fun q => ?_, fun _ => ?_, ?_, fun k t ht => ?_⟩ ((F9'.tr (oQ.t F913)).tr (FL15.sub (fun o k z => by unfold oQ; omega) (fun o k z => by unfold oQJ; omega)))
      · exact (lq _ _ F913 ((l3.fx F4 (fun o k z => by unfold lsI; omega) (fun o k z => z.elim)).fx F9 (fun o k z => by unfold lsI; omega) (fun o k z => z.elim))).fx FL15 (fun o k z => by unfold lsI; omega) (fun o k z => by unfold lsJ; omega)
      · rw [g15 96 (by omega), F9.1 96 _ (by omega), e4, gI_uI, if_pos ⟨rfl, rfl⟩]
      · rw [g15 108 (by omega), F9.1 108 _ (by omega), F4.1 108 _ (by omega)]; exact p3
      · have q : (2 : Int) = 0 ∨ (2 : Int) = 1 := q
        omega
      · rw [g15 97 (by omega), e9, gI_uI, if_pos ⟨rfl, rfl⟩, hz761]
        show _ ↔ (if tK T a1 = 12 then (1 : Int) else 0) = 1
        constructor
        · intro q; rw [if_pos q]
        · intro q
          by_cases q2 : tK T a1 = 12
          · exact q2
          · rw [if_neg q2] at q; omega
      · show 2 ≤ 4; decide
      · have ht : [t1, t2][k]? = some t := ht
        match k, ht with
        | 0, ht => injection ht with ht; rw [← ht]; exact T15'
        | 1, ht => injection ht with ht; rw [← ht]; exact T15
    · rw [pe, if_neg hr]
  refine ⟨fun z => rel (fun q => hb.mpr q.1 z), fun z => ?_⟩
  have h3 := hb.mp z
  rw [m3.2.2.1, show ((a1 : Int)).toNat = a1 from rfl]
  have hc2 := m3.2.1
  refine ⟨⟨by omega, by omega⟩, fun z2 => rel (fun q => z2 (k16.mpr q.2).1), fun z2 => ⟨⟨by omega, by omega⟩, fun z3 => rel (fun q => z3 (k16.mpr q.2).2), fun z3 => ⟨⟨by omega, by omega⟩, fun w6 e6 => ⟨⟨by omega, by omega⟩, fun w9 e9 => ?_⟩⟩⟩⟩
  have h16 := k16.mp ⟨z2, z3⟩
  rw [if_pos ⟨h3, h16⟩] at pe
  have hlt := hT.lt m3.2.1 (by omega) (by omega)
  have m6 := m3.adv hlt e6
  have F6 : FX (oT c) oTJ w3 w6 := by rw [e6]; exact FX.rf.uI (by unfold oT; omega)
  rw [show (((6 * c + ls.length : Nat) : Int)).toNat = 6 * c + ls.length from rfl] at e9
  have F9 : FX (fun o k => o = 96 ∧ k = 6 * c + ls.length) o0 w6 w9 := by rw [e9]; exact FX.rf.uI ⟨rfl, rfl⟩
  have m9 : MS T nb (a1 + 1) c V1 f w9 := m6.fx F9 (fun o k z => by unfold msI; omega) (fun o k z => z.elim)
  have F9' : FX (oQ c ls.length) (oQJ c ls.length) w w9 := (F3.tr (oQ.t F6)).tr (F9.sub (fun o k z => by unfold oQ; omega) (fun o k z => z.elim))
  refine s_M_readTerm hT m9 (fun t2 V2 a2 e5 w11 m11 R11 F11 => ⟨fun _ => ?_, fun q => absurd q (by decide)⟩) (fun q e5 w11 p11 F11 => ⟨fun q => absurd rfl q, fun _ => kI (h0 q (by rw [pe, e5]) w11 p11 (F9'.tr (oQ.t F11)))⟩)
  rw [e5] at pe
  refine s_M_lay (k := 1) (by omega) (by decide) (fun w12 w13 e12 e13 => ?_)
  have FL13 := lay_fx (c := c) (n := ls.length) (k := 1) (by decide) e12 e13
  have T13 : TmM (6 * c + ls.length) 1 t2 w13 := lay_tm R11 e12 e13
  have T13' : TmM (6 * c + ls.length) 0 t1 w13 := (((T3.fx F6 (by unfold oT; omega) (by unfold oTJ; omega)).fx F9 (by omega) (fun q => q)).fx F11 (by unfold oT; omega) (by unfold oTJ; omega)).fx FL13 (by omega) (by omega)
  have m13 : MS T nb a2 c V2 f w13 := m11.fx FL13 (fun o k z => by unfold msI; omega) (fun o k z => by unfold msJ; omega)
  have l13 : LsM c ls w13 := (lq _ _ F11 ((lq _ _ F6 l3).fx F9 (fun o k z => by unfold lsI; omega) (fun o k z => z.elim))).fx FL13 (fun o k z => by unfold lsI; omega) (fun o k z => by unfold lsJ; omega)
  have F13' : FX (oQ c ls.length) (oQJ c ls.length) w w13 := (F9'.tr (oQ.t F11)).tr (FL13.sub (fun o k z => by unfold oQ; omega) (fun o k z => by unfold oQJ; omega))
  have x96 : gI w13 96 (6 * c + ls.length) = 3 := by rw [FL13.1 96 _ (by omega), F11.1 96 _ (by unfold oT; omega), e9, gI_uI, if_pos ⟨rfl, rfl⟩]
  have x108 : gI w13 108 (6 * c + ls.length) = tP T a := by rw [FL13.1 108 _ (by omega), F11.1 108 _ (by unfold oT; omega), F9.1 108 _ (by omega), F6.1 108 _ (by unfold oT; omega)]; exact p3
  have tr13 := (m13.1 a2 m13.2.1).1
  have kop : (gI w13 80 a2 = 4 ∧ (gI w13 82 a2 = 43 ∨ gI w13 82 a2 = 45 ∨ gI w13 82 a2 = 42 ∨ gI w13 82 a2 = 47 ∨ gI w13 82 a2 = 37)) ↔ (tK T a2 = 14 ∨ tK T a2 = 15) := by
    unfold TokRel at tr13
    omega
  have yes : gI w13 80 a2 = 4 → (gI w13 82 a2 = 43 ∨ gI w13 82 a2 = 45 ∨ gI w13 82 a2 = 42 ∨ gI w13 82 a2 = 47 ∨ gI w13 82 a2 = 37) → Wp m_M_readLiteral 443 [(0, vr 78), (1, vi ((6 * c + ls.length : Nat) : Int))] [] (0, 0) w13 (fun r w' => ∃ y, r = some (vi y) ∧ K y w') := by
    intro q1 q2
    have hop := kop.mp ⟨q1, q2⟩
    have hlt2 := hT.lt m13.2.1 (by omega) (by omega)
    have pe : pTest T V a = (if tK T a2 = 14 ∨ tK T a2 = 15 then (match pTerm T V2 (a2 + 1) with
        | .inl p => .inl p
        | .inr (t3, V3, a3) => .inr ((3, tP T a, -1, 0, [t1, t2, t3]), V3, a3)) else .inl (tP T a2) : Int ⊕ (Lit × PL × Nat)) := pe
    rw [if_pos hop] at pe
    refine t_M_readLiteral_443 (t_M_readLiteral_448 ⟨fun _ => ?_, fun q => absurd q (by decide)⟩)
    rw [m13.2.2.1, show ((a2 : Int)).toNat = a2 from rfl, show (((6 * c + ls.length : Nat) : Int)).toNat = 6 * c + ls.length from rfl]
    refine ⟨⟨by omega, by omega⟩, ⟨by omega, by omega⟩, fun w3' e3' => ?_⟩
    have F3' : FX (fun o k => o = 97 ∧ k = 6 * c + ls.length) o0 w13 w3' := by rw [e3']; exact FX.rf.uI ⟨rfl, rfl⟩
    have m3' : MS T nb a2 c V2 f w3' := m13.fx F3' (fun o k z => by unfold msI; omega) (fun o k z => z.elim)
    rw [m3'.2.2.1]
    refine ⟨⟨by omega, by omega⟩, fun w5' e5' => ?_⟩
    have m5' := m3'.adv hlt2 e5'
    have F5' : FX (oT c) oTJ w3' w5' := by rw [e5']; exact FX.rf.uI (by unfold oT; omega)
    have FF : FX (oQ c ls.length) (oQJ c ls.length) w w5' := (F13'.tr (F3'.sub (fun o k z => by unfold oQ; omega) (fun o k z => z.elim))).tr (oQ.t F5')
    refine s_M_readTerm hT m5' (fun t3 V3 a3 e7 w7 m7 R7 F7 => ⟨fun _ => ?_, fun q => absurd q (by decide)⟩) (fun q e7 w7 p7 F7 => ⟨fun q => absurd rfl q, fun _ => kI (h0 q (by rw [pe, e7]) w7 p7 (FF.tr (oQ.t F7)))⟩)
    rw [e7] at pe
    have F57 := F5'.tr F7
    refine s_M_lay (k := 2) (by omega) (by decide) (fun w8 w9' e8 e9' => ?_)
    have FL9 := lay_fx (c := c) (n := ls.length) (k := 2) (by decide) e8 e9'
    have T9 : TmM (6 * c + ls.length) 2 t3 w9' := lay_tm R7 e8 e9'
    have T91 : TmM (6 * c + ls.length) 1 t2 w9' := ((T13.fx F3' (by omega) (fun q => q)).fx F57 (by unfold oT; omega) (by unfold oTJ; omega)).fx FL9 (by omega) (by omega)
    have T90 : TmM (6 * c + ls.length) 0 t1 w9' := ((T13'.fx F3' (by omega) (fun q => q)).fx F57 (by unfold oT; omega) (by unfold oTJ; omega)).fx FL9 (by omega) (by omega)
    refine fin _ V3 a3 w9' pe (m7.fx FL9 (fun o k z => by unfold msI; omega) (fun o k z => by unfold msJ; omega)) ?_ ⟨?_, ?_, fun q => ?_, fun q => ?_, ?_, fun k t ht => ?_⟩ ((FF.tr (oQ.t F7)).tr (FL9.sub (fun o k z => by unfold oQ; omega) (fun o k z => by unfold oQJ; omega)))
    · exact (lq _ _ F57 (l13.fx F3' (fun o k z => by unfold lsI; omega) (fun o k z => z.elim))).fx FL9 (fun o k z => by unfold lsI; omega) (fun o k z => by unfold lsJ; omega)
    · rw [FL9.1 96 _ (by omega), F57.1 96 _ (by unfold oT; omega), F3'.1 96 _ (by omega)]; exact x96
    · rw [FL9.1 108 _ (by omega), F57.1 108 _ (by unfold oT; omega), F3'.1 108 _ (by omega)]; exact x108
    · have q : (3 : Int) = 0 ∨ (3 : Int) = 1 := q
      omega
    · have q : (3 : Int) = 2 := q
      omega
    · show 3 ≤ 4; decide
    · have ht : [t1, t2, t3][k]? = some t := ht
      match k, ht with
      | 0, ht => injection ht with ht; rw [← ht]; exact T90
      | 1, ht => injection ht with ht; rw [← ht]; exact T91
      | 2, ht => injection ht with ht; rw [← ht]; exact T9
  refine s_M_isSignR hT m13 (fun q => ⟨fun _ => yes q.1 (by omega), fun q => absurd q (by decide)⟩) (fun n1 => ⟨fun q => absurd rfl q, fun _ => ?_⟩)
  refine s_M_isSignR hT m13 (fun q => ⟨fun _ => yes q.1 (by omega), fun q => absurd q (by decide)⟩) (fun n2 => ⟨fun q => absurd rfl q, fun _ => ?_⟩)
  refine s_M_isSignR hT m13 (fun q => ⟨fun _ => yes q.1 (by omega), fun q => absurd q (by decide)⟩) (fun n3 => ⟨fun q => absurd rfl q, fun _ => ?_⟩)
  refine s_M_isSignR hT m13 (fun q => ⟨fun _ => yes q.1 (by omega), fun q => absurd q (by decide)⟩) (fun n4 => ⟨fun q => absurd rfl q, fun _ => ?_⟩)
  refine s_M_isSignR hT m13 (fun q => ⟨fun q => absurd q (by decide), fun _ => yes q.1 (by omega)⟩) (fun n5 => ⟨fun _ => ?_, fun q => absurd rfl q⟩)
  refine t_M_readLiteral_448 ⟨fun q => absurd rfl q, fun _ => s_M_refuse hT m13 (fun w14 p14 F14 => ⟨Or.inl rfl, kI (h0 _ ?_ w14 p14 (F13'.tr (oQ.t (oT.f F14))))⟩)⟩
  have pe : pTest T V a = (if tK T a2 = 14 ∨ tK T a2 = 15 then (match pTerm T V2 (a2 + 1) with
        | .inl p => .inl p
        | .inr (t3, V3, a3) => .inr ((3, tP T a, -1, 0, [t1, t2, t3]), V3, a3)) else .inl (tP T a2) : Int ⊕ (Lit × PL × Nat)) := pe
  rw [pe, if_neg (fun q => by have := kop.mpr q; omega)]

/-! the reference reads a clause -/
def PM (T : Tks) (nb sd : Nat) (s : PSt) (a : Nat) (w : Wo) : Prop := MS0 T nb a s.2.2.2 w ∧ PdM sd s.1 w ∧ RsM sd s.2.1 w ∧ FaM sd s.2.2.1 s.2.2.2 a w
def oCl (c sd : Nat) : OkF := fun o k => oB c sd o k ∨ oN c o k ∨ oH c o k ∨ o = 105
def oClJ (c sd : Nat) : OkF := fun o k => oBJ c sd o k ∨ oHJ c o k
def oG (sd : Nat) : OkF := fun o k => (o = 78 ∧ k ≠ 0 ∧ k ≠ 2 ∧ k ≠ 11 ∧ k ≠ 37) ∨ o = 104 ∨ o = 105 ∨ o = 106 ∨ (o = 84 ∧ k = sd) ∨ (o = 86 ∧ 16 * sd ≤ k ∧ k < 16 * sd + 16) ∨ (o = 88 ∧ k = sd) ∨ ((o = 89 ∨ o = 92 ∨ o = 93 ∨ o = 94 ∨ o = 95 ∨ o = 110) ∧ (30 * sd ≤ k ∧ k < 30 * sd + 30 ∨ k = 60)) ∨ (o = 90 ∧ (120 * sd ≤ k ∧ k < 120 * sd + 120 ∨ 240 ≤ k)) ∨ ((o = 96 ∨ o = 97 ∨ o = 108 ∨ o = 109) ∧ (180 * sd ≤ k ∧ k < 180 * sd + 180 ∨ 360 ≤ k)) ∨ (o = 98 ∧ (720 * sd ≤ k ∧ k < 720 * sd + 720 ∨ 1440 ≤ k)) ∨ (o = 100 ∧ k = sd) ∨ (o = 101 ∧ 200 * sd ≤ k ∧ k < 200 * sd + 200)
def oGJ (sd : Nat) : OkF := fun o k => o = 78 ∨ o = 103 ∨ o = 107 ∨ (o = 85 ∧ 16 * sd ≤ k ∧ k < 16 * sd + 16) ∨ (o = 91 ∧ (120 * sd ≤ k ∧ k < 120 * sd + 120 ∨ 240 ≤ k)) ∨ (o = 99 ∧ (720 * sd ≤ k ∧ k < 720 * sd + 720 ∨ 1440 ≤ k)) ∨ (o = 102 ∧ 800 * sd ≤ k ∧ k < 800 * sd + 800)
def cOK (c sd : Nat) (R : List Rul) : Prop := (c = 30 * sd + R.length ∧ R.length < 30) ∨ (c = 60 ∧ R.length = 30)
theorem oCl_oG {c sd : Nat} {R : List Rul} (hc : cOK c sd R) (o k : Nat) (z : oCl c sd o k) : oG sd o k := by
  have hc2 : (30 * sd ≤ c ∧ c < 30 * sd + 30) ∨ c = 60 := by
    rcases hc with ⟨h1, h2⟩ | ⟨h1, h2⟩
    · exact Or.inl (by omega)
    · exact Or.inr h1
  clear hc
  unfold oCl oB oR oT oP oN oH at z
  rcases z with (((⟨rfl, z⟩ | rfl | ⟨rfl, z⟩) | (⟨rfl, z⟩ | ⟨rfl, z⟩ | ⟨rfl, z⟩) | ⟨rfl, z⟩ | rfl) | ⟨rfl, z⟩ | ⟨rfl, z⟩ | ⟨rfl | rfl | rfl | rfl, z⟩ | ⟨rfl, z⟩) | (⟨rfl, z⟩ | ⟨rfl | rfl | rfl, z⟩) | (⟨rfl | rfl | rfl | rfl, z⟩ | ⟨rfl, z⟩) | rfl <;> simp [oG] <;> omega
theorem oClJ_oGJ {c sd : Nat} {R : List Rul} (hc : cOK c sd R) (o k : Nat) (z : oClJ c sd o k) : oGJ sd o k := by
  have hc2 : (30 * sd ≤ c ∧ c < 30 * sd + 30) ∨ c = 60 := by
    rcases hc with ⟨h1, h2⟩ | ⟨h1, h2⟩
    · exact Or.inl (by omega)
    · exact Or.inr h1
  clear hc
  unfold oClJ oBJ oRJ oTJ oPJ oHJ at z
  rcases z with (((⟨rfl, z⟩ | rfl) | ⟨rfl, z⟩ | rfl) | ⟨rfl, z⟩) | ⟨rfl, z⟩ <;> simp [oGJ] <;> omega
theorem oG.cl {c sd : Nat} {R : List Rul} {w w' : Wo} (hc : cOK c sd R) (h : FX (oCl c sd) (oClJ c sd) w w') : FX (oG sd) (oGJ sd) w w' := h.sub (oCl_oG hc) (oClJ_oGJ hc)
theorem oCl.b {c sd : Nat} {w w' : Wo} (h : FX (oB c sd) (oBJ c sd) w w') : FX (oCl c sd) (oClJ c sd) w w' := h.sub (fun o k z => Or.inl z) (fun o k z => Or.inl z)
theorem oCl.n {c sd : Nat} {w w' : Wo} (h : FX (oN c) o0 w w') : FX (oCl c sd) (oClJ c sd) w w' := h.sub (fun o k z => Or.inr (Or.inl z)) (fun o k z => z.elim)
theorem oCl.h {c sd : Nat} {w w' : Wo} (h : FX (oH c) (oHJ c) w w') : FX (oCl c sd) (oClJ c sd) w w' := h.sub (fun o k z => Or.inr (Or.inr (Or.inl z))) (fun o k z => Or.inr z)
theorem oCl.f {c sd : Nat} {w w' : Wo} (h : FX oF o0 w w') : FX (oCl c sd) (oClJ c sd) w w' := oCl.b (oB.r (oR.f h))
theorem oCl.a {c sd : Nat} {w w' : Wo} (h : FX oA o0 w w') : FX (oCl c sd) (oClJ c sd) w w' := oCl.b (oB.r (oR.a h))
theorem RsM.cl {c sd : Nat} {R : List Rul} {w w' : Wo} (h : RsM sd R w) (hsd : sd < 2) (hc : cOK c sd R) (hf : FX (oCl c sd) (oClJ c sd) w w') : RsM sd R w' := by
  obtain ⟨h1, h2, h3, h4⟩ := h
  refine ⟨by rw [hf.1 88 sd (by unfold oCl oB oR oT oP oN oH; omega)]; exact h1, h2, h3, fun i r hr => ?_⟩
  have hi := (List.getElem?_eq_some_iff.mp hr).1
  have hne : c ≠ 30 * sd + i := by unfold cOK at hc; omega
  refine (h4 i r hr).fx (h3 r (List.mem_of_getElem? hr)) hf (fun o k z => ?_) (fun o k z => ?_)
  · clear hc
    unfold oCl oB oR oT oP oN oH at z
    rcases z with (((⟨rfl, z⟩ | rfl | ⟨rfl, z⟩) | (⟨rfl, z⟩ | ⟨rfl, z⟩ | ⟨rfl, z⟩) | ⟨rfl, z⟩ | rfl) | ⟨rfl, z⟩ | ⟨rfl, z⟩ | ⟨rfl | rfl | rfl | rfl, z⟩ | ⟨rfl, z⟩) | (⟨rfl, z⟩ | ⟨rfl | rfl | rfl, z⟩) | (⟨rfl | rfl | rfl | rfl, z⟩ | ⟨rfl, z⟩) | rfl <;> simp [ruI] <;> omega
  · clear hc
    unfold oClJ oBJ oRJ oTJ oPJ oHJ at z
    rcases z with (((⟨rfl, z⟩ | rfl) | ⟨rfl, z⟩ | rfl) | ⟨rfl, z⟩) | ⟨rfl, z⟩ <;> simp [ruJ] <;> omega
theorem FaM.cl {c sd a : Nat} {F : List Fct} {f : Int × Int} {w w' : Wo} (h : FaM sd F f a w) (ha : a ≤ 600) (hF : f.1 = 0 → ∀ x ∈ F, x.2.length ≤ 4) (hf : FX (oCl c sd) (oClJ c sd) w w') : FaM sd F f a w' := h.fx ha hF hf (fun o k z => by unfold oCl oB oR oT oP oN oH at z; omega) (fun o k z => by unfold oClJ oBJ oRJ oTJ oPJ oHJ at z; omega)
theorem s_M_readBody {T : Tks} {nb c sd a : Nat} {V P : PL} {tot f : Int × Int} {w : Wo} {K : Int → Wo → Prop} (hT : TOk T nb) (hs : MS T nb a c V f w) (hP : PdM sd P w) (hl : LsM c [] w) (hw : gI w 92 c = (if 0 < tot.1 then tot.1 + 1 else 0))
    (h1 : ∀ s' a' w', pBody T tot 6 ([], P, V, 0, f) a = .inr (s', a') → MS T nb a' c s'.2.2.1 s'.2.2.2.2 w' → PdM sd s'.2.1 w' → LsM c s'.1 w' → tK T a' = 8 → FX (oB c sd) (oBJ c sd) w w' → K 1 w')
    (h2 : ∀ q a' V' f' w', pBody T tot 6 ([], P, V, 0, f) a = .inl q → MS T nb a' c V' f' w' → tK T a' ≠ 8 → q = tP T a' → FX (oB c sd) (oBJ c sd) w w' → K 1 w')
    (h0 : ∀ q w', pBody T tot 6 ([], P, V, 0, f) a = .inl q → FPm q w' → FX (oB c sd) (oBJ c sd) w w' → K 0 w') : MetI m_M_readBody [vr 78] w K := by
  refine met_of (by decide) rfl (Nat.le_of_ble_eq_true rfl) (t_M_readBody_0 (fun w1 e1 => ?_))
  have F1 : FX (fun o k => o = 78 ∧ k = 46) o0 w w1 := by rw [e1]; exact FX.rf.uI ⟨rfl, rfl⟩
  have F1' : FX (oB c sd) (oBJ c sd) w w1 := F1.sub (fun o k z => Or.inr (Or.inl z)) (fun o k z => z.elim)
  refine l_mbody hT 6 ([], P, V, 0, f) a w1 rfl (hs.fx F1 (fun o k z => by unfold msI; omega) (fun o k z => z.elim)) (hP.fx F1 (fun o k z => by omega) (fun o k z => z.elim)) (hl.fx F1 (fun o k z => by unfold lsI; omega) (fun o k z => z.elim)) (by rw [e1, gI_uI, if_pos ⟨rfl, rfl⟩]; rfl) (Nat.zero_le _) (by rw [F1.1 92 c (by omega)]; exact hw) (fun s' a' w' e g1 g2 g3 g4 g5 => h1 s' a' w' e g1 g2 g3 g4 (F1'.tr g5)) (fun q a' V' f' w' e g1 g2 g3 g4 => h2 q a' V' f' w' e g1 g2 g3 (F1'.tr g4)) (fun q w' e g1 g2 => h0 q w' e g1 (F1'.tr g2))
theorem l_mcl {T : Tks} {nb a c sd : Nat} {s : PSt} {w w3 : Wo} {Q : Option AV → Wo → Prop} (hT : TOk T nb) (hW : WfS s a) (hP : PM T nb sd s a w) (hc : cOK c sd s.2.1) (m3 : MS T nb a c [] s.2.2.2 w3) (l3 : LsM c [] w3) (H3 : HdM T [] (0, 0) a w3) (F3 : FX (oN c) o0 w w3)
    (h1 : ∀ s' a', pClause T s a = .inr (s', a') → ∀ w', PM T nb sd s' a' w' → FX (oG sd) (oGJ sd) w w' → Q (some (vi 1)) w')
    (h0 : ∀ q, pClause T s a = .inl q → ∀ w', FPm q w' → FX (oG sd) (oGJ sd) w w' → Q (some (vi 0)) w') :
    (0 ≤ (gI w3 78 10) ∧ (gI w3 78 10) < 602) ∧ MetI m_M_readArguments [vr 78, vi 1, vi 0] w3 (fun z6 w5 => ((¬ z6 = 0 → MetV m_M_layHead [vr 78] w5 (fun w7 => MetI m_M_takes [vr 78, vi 46] w7 (fun z9 w8 => ((z9 = 0 → MetI m_M_isSign [vr 78, vi 300] w8 (fun z11 w10 => ((¬ z11 = 0 → (0 ≤ (gI w10 78 37) ∧ (gI w10 78 37) < 2) ∧ ((¬ (gI w10 88 (gI w10 78 37).toNat) = 30 → inr32 ((gI w10 78 10) + 1) ∧ (∀ w13 : Wo, w13 = uI w10 78 10 ((gI w10 78 10) + 1) → MetI m_M_readBody [vr 78] w13 (fun z16 w15 => ((z16 = 0 → Q (some (vi 0)) w15) ∧ (¬ z16 = 0 → MetI m_M_want [vr 78, vi 46] w15 (fun z18 w17 => ((¬ z18 = 0 → MetV m_M_lookBound [vr 78] w17 (fun w19 => (0 ≤ (gI w19 78 37) ∧ (gI w19 78 37) < 2) ∧ inr32 ((gI w19 88 (gI w19 78 37).toNat) + 1) ∧ (0 ≤ (gI w19 78 37) ∧ (gI w19 78 37) < 2) ∧ (∀ w22 : Wo, w22 = uI w19 88 (gI w19 78 37).toNat ((gI w19 88 (gI w19 78 37).toNat) + 1) → Q (some (vi 1)) w22))) ∧ (z18 = 0 → Q (some (vi 0)) w17)))))))) ∧ ((gI w10 88 (gI w10 78 37).toNat) = 30 → MetI m_M_wrong [vr 78, vi (gI w3 81 (gI w3 78 10).toNat)] w10 (fun z25 w24 => (z25 = 0 ∨ z25 = 1) ∧ Q (some (vi z25)) w24)))) ∧ (z11 = 0 → MetI m_M_refuse [vr 78] w10 (fun z27 w26 => (z27 = 0 ∨ z27 = 1) ∧ Q (some (vi z27)) w26))))) ∧ (¬ z9 = 0 → (((gI w8 78 41) = (-1) → MetI m_M_findFact [vr 78] w8 (fun z29 w28 => ((¬ z29 = (-1) → Q (some (vi 1)) w28) ∧ (z29 = (-1) → MetV m_M_addFact [vr 78] w28 (fun w30 => Q (some (vi 1)) w30))))) ∧ (¬ (gI w8 78 41) = (-1) → MetI m_M_wrong [vr 78, vi (gI w8 78 41)] w8 (fun z32 w31 => (z32 = 0 ∨ z32 = 1) ∧ Q (some (vi z32)) w31)))))))) ∧ (z6 = 0 → Q (some (vi 0)) w5))) := by
  have h600 := hT.1
  obtain ⟨hM, hPd, hRs, hFa⟩ := hP
  have hsd := hPd.2.1
  have ha := hM.2.1
  have hF4 : s.2.2.2.1 = 0 → ∀ x ∈ s.2.2.1, x.2.length ≤ 4 := fun q x hx => by
    have := (hW.2.2.2.2.1 q x hx).2.2.1
    have := szAt_le hW.1 x.1.toNat
    omega
  have P3 : PdM sd s.1 w3 := hPd.fx F3 (fun o k z => by unfold oN at z; omega) (fun o k z => z.elim)
  refine ⟨by rw [m3.2.2.1]; exact ⟨by omega, by omega⟩, ?_⟩
  refine s_M_readArguments (hd := true) (any := false) (tot := (0, 0)) hT m3 P3 (fun _ => H3) (fun ar V tot a1 hp w5 m5 P5 A5 H5 r5 F5 => ⟨fun _ => ?_, fun q => absurd q (by decide)⟩) (fun q hp w5 p5 F5 => ⟨fun q => absurd rfl q, fun _ => h0 q (by rw [pClause, hp]) w5 p5 (oG.cl hc ((oCl.n F3).tr (oCl.b (oB.r F5))))⟩)
  obtain ⟨y1, y2, y3, y4, y5, y6, y7, y8, y9, y10, y11, y12, y13⟩ := pAtom_ok hT hW.1 VOk_nil ttOK_0 ha hp
  obtain ⟨H5a, H5b, H5c, H5d, H5e⟩ := H5 rfl
  have hpc : ∀ r, pClause T s a = r → (if tK T a1 = 8 then (match opn V tot with
      | some q => .inl q
      | none => .inr ((rgP s.1 (tV T a) ar.length, s.2.1, adF s.2.2.1 (((fi s.1 (tV T a) : Nat) : Int), ar), ntS s.2.2.2 s.1 (tV T a) ar.length (tP T a)), a1 + 1))
    else if tK T a1 = 11 then (if s.2.1.length < 30 then pRule T s a ar V tot a1 else .inl (tP T a))
    else .inl (tP T a1) : Int ⊕ (PSt × Nat)) = r := by
    intro r e
    rw [pClause, hp] at e
    exact e
  have hpc := hpc _ rfl
  have nf := ntS_ok (x := tV T a) (P := s.1) (s := (ar.length : Int)) (p := tP T a) hW.2.1 (hT.pl ha)
  refine s_M_layHead m5.2.2.2.1.1 m5.2.2.2.1.2 A5 (fun w7 e89 e92 e110 F7 => ?_)
  have FC7 : FX (oCl c sd) (oClJ c sd) w w7 := ((oCl.n F3).tr (oCl.b (oB.r F5))).tr (oCl.h F7)
  have m7 : MS T nb a1 c V (ntS s.2.2.2 s.1 (tV T a) ar.length (tP T a)) w7 := m5.fx F7 (fun o k z => by unfold oH at z; unfold msI; omega) (fun o k z => by unfold oHJ at z; unfold msJ; omega)
  have P7 : PdM sd (rgP s.1 (tV T a) ar.length) w7 := P5.fx F7 (fun o k z => by unfold oH at z; omega) (fun o k z => by unfold oHJ at z; unfold oPJ; omega)
  have A7 : ArM ar w7 := A5.fx F7 (fun o k z => by unfold oH at z; omega) (fun o k z => by unfold oHJ at z; omega)
  have l7 : LsM c [] w7 := (l3.r F5).fx F7 (fun o k z => by unfold oH at z; unfold lsI; simp only [List.length_nil]; omega) (fun o k z => by unfold oHJ at z; unfold lsJ; simp only [List.length_nil]; omega)
  have x92 : gI w7 92 c = (if 0 < tot.1 then tot.1 + 1 else 0) := by rw [e92]; exact H5d.1
  have x89 : gI w7 89 c = (fi s.1 (tV T a) : Nat) := by rw [e89]; exact r5
  have x110 : 0 < tot.1 → gI w7 110 c = tot.2 := fun q => by rw [e110]; exact H5d.2 q
  have x41 : gI w7 78 41 = (opn V tot).getD (-1) := by rw [F7.1 78 41 (by unfold oH; omega)]; exact H5e
  have x45 : gI w7 78 45 = (fi s.1 (tV T a) : Nat) := by rw [F7.1 78 45 (by unfold oH; omega)]; exact r5
  refine s_M_takes hT m7 sg_p.2.2.2.1 (by decide) (fun h8 w8 m8 F8 => ⟨fun q => absurd q (by decide), fun _ => ?_⟩) (fun h8 => ⟨fun _ => ?_, fun q => absurd rfl q⟩)
  · -- a fact
    rw [if_pos h8] at hpc
    have FC8 := FC7.tr (oCl.a (c := c) (sd := sd) F8)
    have hlt := hT.lt y6 (by omega) (by omega)
    rw [F8.1 78 41 (by unfold oA; omega), x41]
    cases eo : opn V tot with
    | some q =>
      have hq := opn_rng y1 y2 eo
      refine ⟨fun z => absurd z (by show ¬ q = -1; omega), fun _ => s_M_wrong (by rw [m8.2.2.2.2.2.1]; exact m8.2.2.2.2.2.2.2) (fun w31 p31 F31 => ⟨Or.inl rfl, h0 q (by rw [← hpc, eo]) w31 p31 (oG.cl hc (FC8.tr (oCl.f F31)))⟩)⟩
    | none =>
      rw [eo] at hpc
      have hpc : pClause T s a = .inr ((rgP s.1 (tV T a) ar.length, s.2.1, adF s.2.2.1 (((fi s.1 (tV T a) : Nat) : Int), ar), ntS s.2.2.2 s.1 (tV T a) ar.length (tP T a)), a1 + 1) := hpc.symm
      obtain ⟨w1', w2', w3'⟩ := pClause_wf hT hW ha hpc
      have hVn := opn_none eo
      have arv : ∀ t ∈ ar, valT t := fun t ht => by
        obtain ⟨q1, q2⟩ := y3 t ht
        rw [hVn] at q2
        have q3 : t ≠ ANYT := y4 rfl t ht
        refine ⟨q1, ?_⟩
        unfold tmOK at q1
        have q3 : t ≠ 4503599627370496 := q3
        have q2 : 281474976710656 ≤ t → t < 4503599627370496 → t < 281474976710656 + ((0 : Nat) : Int) := q2
        omega
      have arn : ∀ t ∈ ar, t ≠ 4503599627370496 := fun t ht => by have := (arv t ht).2; omega
      have Fa8 := hFa.cl (by omega) hF4 FC8
      have Rs8 := hRs.cl hsd hc FC8
      have P8 : PdM sd (rgP s.1 (tV T a) ar.length) w8 := P7.t (oT.a (c := c) F8)
      have A8 : ArM ar w8 := A7.t (oT.a (c := c) F8)
      have y45 : gI w8 78 45 = (fi s.1 (tV T a) : Nat) := by rw [F8.1 78 45 (by unfold oA; omega)]; exact x45
      obtain ⟨n, n1, n2, n3⟩ := Fa8
      have isame : (ntS s.2.2.2 s.1 (tV T a) ar.length (tP T a)).1 = 0 → ((∃ i, i < n ∧ smM sd i ar w8) ↔ (((fi s.1 (tV T a) : Nat) : Int), ar) ∈ s.2.2.1) := by
        intro hf
        obtain ⟨hf0, hfs⟩ := nf.2 hf
        obtain ⟨en, hcx⟩ := n3 hf0
        constructor
        · intro ⟨i, hi, e1, e2⟩
          obtain ⟨x, hx⟩ : ∃ x, s.2.2.1[i]? = some x := ⟨_, List.getElem?_eq_getElem (by omega)⟩
          obtain ⟨c1, c2⟩ := hcx i x hx
          have hxm := List.mem_of_getElem? hx
          obtain ⟨u1, u2, u3, u4⟩ := hW.2.2.2.2.1 hf0 x hxm
          have hx1 : x.1 = ((fi s.1 (tV T a) : Nat) : Int) := by rw [← c1, e1, y45]
          have hx2 : x.2.length = ar.length := by
            rw [hx1, show (((fi s.1 (tV T a) : Nat) : Int)).toNat = fi s.1 (tV T a) from rfl] at u3
            have := hfs (by omega)
            omega
          have hxe : x.2 = ar := by
            refine ext_at hx2 (fun j t ht => ?_)
            have hj := (List.getElem?_eq_some_iff.mp ht).1
            have hu := getD_in (ar := ar) (k := j) (by omega)
            have q1 := c2 j t ht
            have q2 := e2 j _ hu
            rw [q1] at q2
            have := (rv_inj (u4 t (List.mem_of_getElem? ht)) (arv _ (List.mem_of_getElem? hu))).mp q2
            rw [hu, this]
          have : x = (((fi s.1 (tV T a) : Nat) : Int), ar) := by rw [← hx1, ← hxe]
          rw [← this]; exact hxm
        · intro hm
          obtain ⟨i, hi⟩ := List.getElem?_of_mem hm
          obtain ⟨c1, c2⟩ := hcx i _ hi
          exact ⟨i, by have := (List.getElem?_eq_some_iff.mp hi).1; omega, by rw [c1, y45], fun j t ht => c2 j t ht⟩
      refine ⟨fun _ => ?_, fun z => absurd rfl z⟩
      refine s_M_findFact hsd P8.1 n1 (by omega) A8 arn (fun hex z hz => ⟨fun _ => ?_, fun q => absurd q hz⟩) (fun hno => ⟨fun q => absurd rfl q, fun _ => ?_⟩)
      · refine h1 _ _ hpc w8 ⟨m8.m0, P8, Rs8, ⟨n, n1, by omega, fun hf => ?_⟩⟩ (oG.cl hc FC8)
        show n = (adF s.2.2.1 (((fi s.1 (tV T a) : Nat) : Int), ar)).length ∧ ∀ i x, (adF s.2.2.1 (((fi s.1 (tV T a) : Nat) : Int), ar))[i]? = some x → _
        rw [adF, if_pos ((isame hf).mp hex)]; exact n3 (nf.2 hf).1
      · refine s_M_addFact hsd P8.1 n1 (by omega) A8 arn (fun w30 g1 g2 g3 F30 => h1 _ _ hpc w30 ⟨?_, ?_, ?_, ⟨n + 1, by rw [g1]; rfl, by omega, fun hf => ?_⟩⟩ ?_)
        · exact (m8.fx F30 (fun o k z => by unfold oK at z; unfold msI; omega) (fun o k z => by unfold oKJ at z; unfold msJ; omega)).m0
        · exact P8.fx F30 (fun o k z => by unfold oK at z; omega) (fun o k z => by unfold oKJ at z; unfold oPJ; omega)
        · obtain ⟨r1, r2, r3, r4⟩ := Rs8
          refine ⟨by rw [F30.1 88 sd (by unfold oK; omega)]; exact r1, r2, r3, fun i r hr => (r4 i r hr).fx (r3 r (List.mem_of_getElem? hr)) F30 (fun o k z => by unfold oK at z; unfold ruI; omega) (fun o k z => by unfold oKJ at z; unfold ruJ; omega)⟩
        · show n + 1 = (adF s.2.2.1 (((fi s.1 (tV T a) : Nat) : Int), ar)).length ∧ ∀ i x, (adF s.2.2.1 (((fi s.1 (tV T a) : Nat) : Int), ar))[i]? = some x → _
          obtain ⟨hf0, hfs⟩ := nf.2 hf
          obtain ⟨en, hcx⟩ := n3 hf0
          rw [adF, if_neg (fun q => hno ((isame hf).mpr q)), List.length_append]
          refine ⟨by show n + 1 = s.2.2.1.length + 1; omega, fun i x hx => ?_⟩
          rcases getApp hx with ⟨hi, hx⟩ | ⟨hi, hx⟩
          · obtain ⟨c1, c2⟩ := hcx i x hx
            have hl4 := hF4 hf0 x (List.mem_of_getElem? hx)
            refine ⟨by rw [F30.1 101 _ (by unfold oK; clear hno isame; omega)]; exact c1, fun j t ht => ?_⟩
            have hj := (List.getElem?_eq_some_iff.mp ht).1
            rw [F30.2.1 102 _ (by unfold oKJ; clear hno isame; omega)]
            exact c2 j t ht
          · subst hx
            have e : i = n := by clear hno isame; omega
            rw [e]
            exact ⟨by rw [g2]; exact y45, fun j t ht => g3 j t ht⟩
        · refine (oG.cl hc FC8).tr (F30.sub (fun o k z => ?_) (fun o k z => ?_))
          · clear hno isame
            rcases z with ⟨rfl, z⟩ | ⟨rfl, z⟩ <;> simp [oG] <;> omega
          · clear hno isame
            obtain ⟨rfl, z⟩ := z
            simp [oGJ] <;> omega
  · rw [if_neg h8] at hpc
    refine s_M_isSign hT m7 sg_p.2.2.2.2.2.2.1 (fun h11 => ⟨fun _ => ?_, fun q => absurd q (by decide)⟩) (fun h11 => ⟨fun q => absurd rfl q, fun _ => s_M_refuse hT m7 (fun w26 p26 F26 => ⟨Or.inl rfl, h0 _ (by rw [← hpc, if_neg h11]) w26 p26 (oG.cl hc (FC7.tr (oCl.f F26)))⟩)⟩)
    rw [if_pos h11] at hpc
    have hlt := hT.lt y6 (by omega) (by omega)
    have Rs7 := hRs.cl hsd hc FC7
    rw [P7.1, show ((sd : Int)).toNat = sd from rfl, Rs7.1]
    refine ⟨⟨by omega, by omega⟩, fun z => ?_, fun z => ?_⟩
    · have hR30 : s.2.1.length < 30 := by have := Rs7.2.1; omega
      have hc' : c = 30 * sd + s.2.1.length := by unfold cOK at hc; omega
      rw [if_pos hR30] at hpc
      rw [m7.2.2.1]
      refine ⟨⟨by omega, by omega⟩, fun w13 e13 => ?_⟩
      have m13 := m7.adv hlt e13
      have F13 : FX oA o0 w7 w13 := by rw [e13]; exact FX.rf.uI ⟨rfl, rfl⟩
      have FC13 := FC7.tr (oCl.a (c := c) (sd := sd) F13)
      refine s_M_readBody (tot := tot) hT m13 (P7.t (oT.a (c := c) F13)) (l7.fx F13 (fun o k z => by unfold oA at z; unfold lsI; omega) (fun o k z => z.elim)) (by rw [F13.1 92 c (by unfold oA; omega)]; exact x92) (fun s' a2 w15 hpb m15 P15 l15 h8' F15 => ⟨fun q => absurd q (by decide), fun _ => ?_⟩) (fun q a2 V2 f2 w15 hpb m15 h8' hq F15 => ⟨fun q => absurd q (by decide), fun _ => ?_⟩) (fun q w15 hpb p15 F15 => ⟨fun _ => h0 q (by rw [← hpc, pRule, hpb]) w15 p15 (oG.cl hc (FC13.tr (oCl.b F15))), fun q => absurd rfl q⟩)
      · rw [pRule, hpb] at hpc
        have hpc : pClause T s a = .inr ((s'.2.1, s.2.1 ++ [(((fi s.1 (tV T a) : Nat) : Int), (s'.2.2.1.length : Int), tot.1, tot.2, s'.1)], s.2.2.1, ntU s'.2.2.2.2 (ubd s'.2.2.1 (plan s'.1 s'.1.length).1)), a2 + 1) := hpc.symm
        obtain ⟨w1', w2', w3'⟩ := pClause_wf hT hW ha hpc
        have hB0 : BOk T (tP T (a1 + 1)) ([], rgP s.1 (tV T a) ar.length, V, 0, ntS s.2.2.2 s.1 (tV T a) ar.length (tP T a)) (a1 + 1) := ⟨y1.mono hT (by omega) (by omega), y11, nf.1, fun L hL => (by cases hL), List.Pairwise.nil, fun L hL => (by cases hL), Int.le_refl _⟩
        obtain ⟨z1, z2, z3, z4, z5, z6, z7⟩ := pBody_ok hT 6 _ _ _ _ hB0 (y2.mono hT (show a1 ≤ a1 + 1 by omega) (by omega)) (by omega) hpb
        have back : (ntU s'.2.2.2.2 (ubd s'.2.2.1 (plan s'.1 s'.1.length).1)).1 = 0 → s.2.2.2.1 = 0 := fun q => (nf.2 (pBody_f0 hpb ((ntU_ok z1.2.2.1 (ubd_rng hT z1.1 z3)).2 q).1)).1
        have hl6 : s'.1.length ≤ 6 := by have z5 : s'.1.length ≤ ([] : List Lit).length + 6 := z5; simp at z5; omega
        refine s_M_want hT m15 sg_p.2.2.2.1 (by decide) (fun _ w17 m17 F17 => ⟨fun _ => ?_, fun q => absurd q (by decide)⟩) (fun q => absurd h8' q)
        have l17 : LsM c s'.1 w17 := l15.fx F17 (fun o k z => by unfold oA at z; unfold lsI; omega) (fun o k z => z.elim)
        refine s_M_lookBound m17 l17 hl6 z1.2.2.2.1 z1.1.2.2.1 (fun x hx => (z1.1.2.1 x hx).1) (fun w19 m19 F19 => ?_)
        have F19' : FX (oCl c sd) (oClJ c sd) w17 w19 := F19.sub (fun o k z => by rcases z with rfl | z; exact Or.inr (Or.inr (Or.inr rfl)); exact Or.inl (Or.inl (Or.inl (Or.inl ⟨z.1, by omega⟩)))) (fun o k z => z.elim)
        have FC19 := ((FC13.tr (oCl.b F15)).tr (oCl.a (c := c) (sd := sd) F17)).tr F19'
        have Rs19 := hRs.cl hsd hc FC19
        have P19 : PdM sd s'.2.1 w19 := (P15.t (oT.a (c := c) F17)).fx F19 (fun o k z => by omega) (fun o k z => z.elim)
        rw [P19.1, show ((sd : Int)).toNat = sd from rfl, Rs19.1]
        refine ⟨⟨by omega, by omega⟩, ⟨by omega, by omega⟩, ⟨by omega, by omega⟩, fun w22 e22 => ?_⟩
        have F22 : FX (fun o k => o = 88 ∧ k = sd) o0 w19 w22 := by rw [e22]; exact FX.rf.uI ⟨rfl, rfl⟩
        have FF : FX (oG sd) (oGJ sd) w w22 := (oG.cl hc FC19).tr (F22.sub (fun o k z => by obtain ⟨rfl, rfl⟩ := z; simp [oG]) (fun o k z => z.elim))
        have k13 : ∀ o, o = 89 ∨ o = 92 ∨ o = 110 → gI w19 o c = gI w7 o c := fun o ho => by
          rw [F19.1 o c (by omega), F17.1 o c (by unfold oA; omega), F15.1 o c (by unfold oB oR oT oP; omega), F13.1 o c (by unfold oA; omega)]
        have Ru : RuM c (((fi s.1 (tV T a) : Nat) : Int), (s'.2.2.1.length : Int), tot.1, tot.2, s'.1) w19 := ⟨by rw [k13 89 (by omega)]; exact x89, m19.2.2.2.2.1.1, by rw [k13 92 (by omega)]; exact x92, fun q => by rw [k13 110 (by omega)]; exact x110 q, l17.fx F19 (fun o k z => by unfold lsI; omega) (fun o k z => z.elim)⟩
        refine h1 _ _ hpc w22 ⟨?_, ?_, ⟨?_, ?_, fun r hr => ?_, fun i r hr => ?_⟩, ?_⟩ FF
        · exact (m19.fx F22 (fun o k z => by unfold msI; omega) (fun o k z => z.elim)).m0
        · exact P19.fx F22 (fun o k z => by omega) (fun o k z => z.elim)
        · show gI w22 88 sd = ((s.2.1 ++ [_]).length : Nat)
          rw [e22, gI_uI, if_pos ⟨rfl, rfl⟩, List.length_append]; rfl
        · show (s.2.1 ++ [_]).length ≤ 30
          rw [List.length_append]; show s.2.1.length + 1 ≤ 30; omega
        · rcases List.mem_append.mp hr with hr | hr
          · exact Rs19.2.2.1 r hr
          · rw [List.mem_singleton.mp hr]; exact hl6
        · have q : RuM (30 * sd + i) r w19 ∧ r.2.2.2.2.length ≤ 6 := by
            rcases getApp hr with ⟨hi, hr⟩ | ⟨hi, hr⟩
            · exact ⟨Rs19.2.2.2 i r hr, Rs19.2.2.1 r (List.mem_of_getElem? hr)⟩
            · rw [hi, ← hr, ← hc']; exact ⟨Ru, hl6⟩
          exact q.1.fx q.2 F22 (fun o k z => by unfold ruI; omega) (fun o k z => z.elim)
        · obtain ⟨n, n1, n2, n3⟩ := ((hFa.cl (by omega) hF4 FC19).fx (by omega) hF4 F22 (fun o k z => by omega) (fun o k z => z.elim))
          exact ⟨n, n1, by show 5 * n ≤ a2 + 1; omega, fun q => n3 (back q)⟩
      · refine s_M_want hT m15 sg_p.2.2.2.1 (by decide) (fun q => absurd q h8') (fun _ w17 p17 F17 => ⟨fun q => absurd rfl q, fun _ => h0 q (by rw [← hpc, pRule, hpb]) w17 (hq ▸ p17) (oG.cl hc ((FC13.tr (oCl.b F15)).tr (oCl.f F17)))⟩)
    · rw [if_neg (by omega)] at hpc
      have x81 : gI w3 81 (gI w3 78 10).toNat = tP T a := by rw [m3.2.2.1]; exact (m3.1 a ha).2
      rw [x81]
      exact s_M_wrong (by rw [m7.2.2.2.2.2.1]; exact m7.2.2.2.2.2.2.2) (fun w24 p24 F24 => ⟨Or.inl rfl, h0 _ hpc.symm w24 p24 (oG.cl hc (FC7.tr (oCl.f F24)))⟩)

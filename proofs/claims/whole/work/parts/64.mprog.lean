/-! the reference's program -/
def PdN (sd : Nat) (P : PL) (w : Wo) : Prop := gI w 84 sd = P.length ∧ P.length ≤ 16 ∧ (∀ x ∈ P, 0 ≤ x.1 ∧ x.1 < 4398046511104) ∧ ∀ i x, P[i]? = some x → gJ w 85 (16 * sd + i) = c8 x.1 ∧ gI w 86 (16 * sd + i) = x.2
def FaX (sd : Nat) (F : List Fct) (w : Wo) : Prop := gI w 100 sd = F.length ∧ F.length ≤ 120 ∧ ∀ i x, F[i]? = some x → gI w 101 (200 * sd + i) = x.1
def MBk (sd : Nat) (s : PSt) (w : Wo) : Prop := PdN sd s.1 w ∧ RsM sd s.2.1 w ∧ FaX sd s.2.2.1 w ∧ StS sd s.1.length (str s.2.1 s.1.length) w
/-- what one side's book takes -/
def bkI (sd : Nat) : OkF := fun o k => (o = 84 ∧ k = sd) ∨ (o = 86 ∧ 16 * sd ≤ k ∧ k < 16 * sd + 16) ∨ rsI sd o k ∨ (o = 100 ∧ k = sd) ∨ (o = 101 ∧ 200 * sd ≤ k ∧ k < 200 * sd + 200) ∨ (o = 87 ∧ 16 * sd ≤ k ∧ k < 16 * sd + 16)
def bkJ (sd : Nat) : OkF := fun o k => (o = 85 ∧ 16 * sd ≤ k ∧ k < 16 * sd + 16) ∨ rsJ sd o k
theorem MBk.fx {sd : Nat} {s : PSt} {w w' : Wo} {A B : OkF} (h : MBk sd s w) (hf : FX A B w w') (hA : ∀ o k, A o k → ¬ bkI sd o k) (hB : ∀ o k, B o k → ¬ bkJ sd o k) : MBk sd s w' := by
  obtain ⟨⟨p1, p2, p3, p4⟩, ⟨r1, r2, r3, r4⟩, ⟨f1, f2, f3⟩, st⟩ := h
  have e : ∀ o k, bkI sd o k → gI w' o k = gI w o k := fun o k z => hf.1 o k (fun q => hA o k q z)
  have e2 : ∀ o k, bkJ sd o k → gJ w' o k = gJ w o k := fun o k z => hf.2.1 o k (fun q => hB o k q z)
  refine ⟨⟨?_, p2, p3, fun i x hx => ?_⟩, ⟨?_, r2, r3, fun i r hr => ?_⟩, ⟨?_, f2, fun i x hx => ?_⟩, fun p hp => ?_⟩
  · rw [e 84 sd (Or.inl ⟨rfl, rfl⟩)]; exact p1
  · have hi := (List.getElem?_eq_some_iff.mp hx).1
    rw [e 86 _ (Or.inr (Or.inl ⟨rfl, by omega, by omega⟩)), e2 85 _ (Or.inl ⟨rfl, by omega, by omega⟩)]; exact p4 i x hx
  · rw [e 88 sd (Or.inr (Or.inr (Or.inl (Or.inl ⟨rfl, rfl⟩))))]; exact r1
  · have hi := (List.getElem?_eq_some_iff.mp hr).1
    refine (r4 i r hr).fx (r3 r (List.mem_of_getElem? hr)) hf (fun o k z q => hA o k z (Or.inr (Or.inr (Or.inl ?_)))) (fun o k z q => hB o k z (Or.inr ?_))
    · rcases q with ⟨q1, q2⟩ | ⟨q1, q2⟩ | ⟨q1, q2⟩
      · exact Or.inr (Or.inl ⟨q1, by omega⟩)
      · exact Or.inr (Or.inr (Or.inl ⟨q1, by omega⟩))
      · exact Or.inr (Or.inr (Or.inr ⟨q1, by omega⟩))
    · exact ⟨q.1, by have := q.2; omega⟩
  · rw [e 100 sd (Or.inr (Or.inr (Or.inr (Or.inl ⟨rfl, rfl⟩))))]; exact f1
  · have hi := (List.getElem?_eq_some_iff.mp hx).1
    rw [e 101 _ (Or.inr (Or.inr (Or.inr (Or.inr (Or.inl ⟨rfl, by omega, by omega⟩)))))]; exact f3 i x hx
  · rw [e 87 _ (Or.inr (Or.inr (Or.inr (Or.inr (Or.inr ⟨rfl, by omega, by omega⟩)))))]; exact st p hp
/-- all that a reading into side sd may touch -/
def oZ (sd : Nat) : OkF := fun o k => oG sd o k ∨ o = 78 ∨ o = 80 ∨ o = 81 ∨ o = 82 ∨ o = 111 ∨ (o = 87 ∧ 16 * sd ≤ k ∧ k < 16 * sd + 16)
def oZJ (sd : Nat) : OkF := fun o k => oGJ sd o k ∨ o = 83
theorem oZ_bk {sd sd' : Nat} (h : sd < 2) (h' : sd' < 2) (hn : sd ≠ sd') (o k : Nat) (z : oZ sd' o k) : ¬ bkI sd o k := by
  unfold oZ oG at z
  rcases z with (⟨rfl, z⟩ | rfl | rfl | rfl | ⟨rfl, z⟩ | ⟨rfl, z⟩ | ⟨rfl, z⟩ | ⟨rfl | rfl | rfl | rfl | rfl | rfl, z⟩ | ⟨rfl, z⟩ | ⟨rfl | rfl | rfl | rfl, z⟩ | ⟨rfl, z⟩ | ⟨rfl, z⟩ | ⟨rfl, z⟩) | rfl | rfl | rfl | rfl | rfl | ⟨rfl, z⟩ <;> simp [bkI, rsI] <;> omega
theorem oZJ_bk {sd sd' : Nat} (h : sd < 2) (h' : sd' < 2) (hn : sd ≠ sd') (o k : Nat) (z : oZJ sd' o k) : ¬ bkJ sd o k := by
  unfold oZJ oGJ at z
  rcases z with (rfl | rfl | rfl | ⟨rfl, z⟩ | ⟨rfl, z⟩ | ⟨rfl, z⟩ | ⟨rfl, z⟩) | rfl <;> simp [bkJ, rsJ] <;> omega
def oM : OkF := fun o _ => 78 ≤ o ∧ o ≤ 116
theorem oZ_M {sd : Nat} (o k : Nat) (z : oZ sd o k) : oM o k := by
  unfold oZ oG at z
  rcases z with (⟨rfl, z⟩ | rfl | rfl | rfl | ⟨rfl, z⟩ | ⟨rfl, z⟩ | ⟨rfl, z⟩ | ⟨rfl | rfl | rfl | rfl | rfl | rfl, z⟩ | ⟨rfl, z⟩ | ⟨rfl | rfl | rfl | rfl, z⟩ | ⟨rfl, z⟩ | ⟨rfl, z⟩ | ⟨rfl, z⟩) | rfl | rfl | rfl | rfl | rfl | ⟨rfl, z⟩ <;> exact ⟨by decide, by decide⟩
theorem oZJ_M {sd : Nat} (o k : Nat) (z : oZJ sd o k) : oM o k := by
  unfold oZJ oGJ at z
  rcases z with (rfl | rfl | rfl | ⟨rfl, z⟩ | ⟨rfl, z⟩ | ⟨rfl, z⟩ | ⟨rfl, z⟩) | rfl <;> exact ⟨by decide, by decide⟩
abbrev FZ (sd : Nat) (w w' : Wo) : Prop := FX (oZ sd) (oZJ sd) w w'
theorem FZ.g {sd : Nat} {w w' : Wo} (h : FX (oG sd) (oGJ sd) w w') : FZ sd w w' := h.sub (fun o k z => Or.inl z) (fun o k z => Or.inl z)
theorem s_M_raise {x : Int} {w : Wo} {K : Int → Wo → Prop} (h : ∀ w', w' = uI w 78 0 x → K 0 w') : MetI m_M_raise [vr 78, vi x] w K :=
  met_of (by decide) rfl (Nat.le_of_ble_eq_true rfl) (t_M_raise_0 (fun w1 e1 => kI (h w1 e1)))
theorem l_mprog {T : Tks} {nb sd : Nat} {w0 : Wo} {Q : Option AV → Wo → Prop} (hT : TOk T nb) : ∀ (k : Nat) (s : PSt) (a : Nat) (w : Wo), nb - a < k → WfS s a → PM T nb sd s a w → FX (oG sd) (oGJ sd) w0 w →
    (∀ q w', pProg T k s a = .inl q → FPm q w' → FX (oG sd) (oGJ sd) w0 w' → Wp m_M_program 90 [(0, vr 78)] [] (0, 0) w' Q) →
    (∀ s' a' w', pProg T k s a = .inr s' → WfS s' a' → PM T nb sd s' a' w' → FX (oG sd) (oGJ sd) w0 w' → Wp m_M_program 90 [(0, vr 78)] [] (0, 0) w' Q) →
    Wp m_M_program 66 [(0, vr 78), (1, vi 1)] [] (0, 0) w Q := by
  have h600 := hT.1
  intro k
  induction k with
  | zero => intro s a w hk; omega
  | succ k ih =>
    intro s a w hk hW hP F hE hD
    obtain ⟨t1, t2, t3, t4, t5, t6⟩ := hP.1
    have tr := (t1 a t2).1
    have k0 : gI w 80 a = 0 ↔ tK T a = 0 := by
      unfold TokRel at tr
      omega
    refine t_M_program_66 ⟨fun z => absurd z (by decide), fun _ => ?_⟩
    rw [t3, show ((a : Int)).toNat = a from rfl]
    refine ⟨⟨by omega, by omega⟩, fun z => hD s a w (pProg_e (k0.mp z)) hW hP F, fun z => ?_⟩
    have hz : ¬ tK T a = 0 := fun q => z (k0.mpr q)
    refine s_M_readClause hT hW hP (fun s' a' e w' p' F' => ?_) (fun q e w' p' F' => ?_)
    · obtain ⟨g1, g2, g3⟩ := pClause_wf hT hW t2 e
      have pe := pProg_s (k := k) hz e
      exact ih s' a' w' (by omega) g1 p' (F.tr F') (fun q w2 e2 => hE q w2 (pe.trans e2)) (fun s2 a2 w2 e2 => hD s2 a2 w2 (pe.trans e2))
    · exact t_M_program_66 ⟨fun _ => hE q w' (pProg_f hz e) p' (F.tr F'), fun z => absurd rfl z⟩
theorem PdM.n {sd : Nat} {P : PL} {w : Wo} (h : PdM sd P w) : PdN sd P w := ⟨h.2.2.1, h.2.2.2.1, h.2.2.2.2.1, h.2.2.2.2.2⟩
theorem s_M_program {c : Nat → Int} {n sd : Nat} {s : PSt} {w : Wo} {K : Int → Wo → Prop} (ht : MtR c n w) (hsd : sd < 2) (h11 : gI w 78 11 = (sd : Int)) (hB : MBk sd s w) (hok : ∀ r ∈ s.2.1, RuOK s.1.length r)
    (h0 : ∀ f w', rdP (Tc c n) = .inl f → FtM f w' → gI w' 78 0 = 1 → gI w' 78 2 = 0 → gI w' 78 11 = (sd : Int) → gI w' 78 37 = (sd : Int) → MBk sd s w' → BkE (hgs s.2.1 s.1.length) w' → FX oM oM w w' → K 0 w')
    (h1 : ∀ s' a w', rdP (Tc c n) = .inr s' → WfS s' a → FtM (0, 0) w' → gI w' 78 0 = 0 → gI w' 78 2 = 0 → gI w' 78 11 = ((1 - sd : Nat) : Int) → gI w' 78 37 = ((1 - sd : Nat) : Int) → MBk (1 - sd) s' w' → BkE (hgs s'.2.1 s'.1.length) w' → FX oM oM w w' → K (s'.2.1.length : Int) w') : MetI m_M_program [vr 78] w K := by
  obtain ⟨sd', hsd'⟩ : ∃ sd', sd' = 1 - sd := ⟨_, rfl⟩
  rw [← hsd'] at h1
  have hs2 : sd' < 2 := by omega
  have hne : sd ≠ sd' := by omega
  have zM : ∀ w1, FZ sd' w w1 → FX oM oM w w1 := fun w1 F => F.sub oZ_M oZJ_M
  have zB : ∀ w1, FZ sd' w w1 → MBk sd s w1 := fun w1 F => hB.fx F (oZ_bk hsd hs2 hne) (oZJ_bk hsd hs2 hne)
  -- it has a fault
  have fl : ∀ f w1, f.1 ≠ 0 → FtM f w1 → rdP (Tc c n) = .inl f → gI w1 78 11 = (sd : Int) → gI w1 78 2 = 0 → FZ sd' w w1 → Wp m_M_program 101 [(0, vr 78)] [] (0, 0) w1 (fun r w' => ∃ y, r = some (vi y) ∧ K y w') := by
    intro f w1 hf hF e x11 x2 F
    refine t_M_program_101 ⟨fun z => absurd (hF.1.symm.trans z) hf, fun _ w7 e7 => ?_⟩
    rw [x11] at e7
    have F7 : FX (fun o k => o = 78 ∧ k = 37) o0 w1 w7 := by rw [e7]; exact FX.rf.uI ⟨rfl, rfl⟩
    have F7z : FZ sd' w w7 := F.tr (F7.sub (fun o k z => Or.inr (Or.inl z.1)) (fun o k z => z.elim))
    have B7 := zB w7 F7z
    refine s_M_lookHangs (by rw [e7, gI_uI, if_pos ⟨rfl, rfl⟩]) hsd B7.1.2.1 B7.2.1 hok (fun w9 E9 F9 => s_M_raise (fun w10 e10 => kI ?_))
    have F10 : FX (fun o k => o = 78 ∧ k = 0) o0 w9 w10 := by rw [e10]; exact FX.rf.uI ⟨rfl, rfl⟩
    have Fz : FZ sd' w w10 := (F7z.tr (F9.sub (fun o k z => Or.inr (Or.inr (Or.inr (Or.inr (Or.inr (Or.inl z)))))) (fun o k z => z.elim))).tr (F10.sub (fun o k z => Or.inr (Or.inl z.1)) (fun o k z => z.elim))
    have x78 : ∀ k, k ≠ 0 → k ≠ 37 → gI w10 78 k = gI w1 78 k := fun k g1 g2 => by rw [F10.1 78 k (by omega), F9.1 78 k (by unfold oHg; omega), F7.1 78 k (by omega)]
    refine h0 f w10 e ⟨by rw [x78 3 (by omega) (by omega)]; exact hF.1, by rw [x78 4 (by omega) (by omega)]; exact hF.2⟩ (by rw [e10, gI_uI, if_pos ⟨rfl, rfl⟩]) (by rw [x78 2 (by omega) (by omega)]; exact x2) (by rw [x78 11 (by omega) (by omega)]; exact x11) (by rw [F10.1 78 37 (by omega), F9.1 78 37 (by unfold oHg; omega), e7, gI_uI, if_pos ⟨rfl, rfl⟩]) (zB w10 Fz) (fun a b ha hb => by rw [F10.1 111 _ (by omega)]; exact E9 a b ha hb) (zM w10 Fz)
  refine met_of (by decide) rfl (Nat.le_of_ble_eq_true rfl) (t_M_program_0 (fun w1 e1 w3 e3 => ?_))
  have F3 : FX (fun o k => o = 78 ∧ (k = 3 ∨ k = 4)) o0 w w3 := by rw [e3, e1]; exact (FX.rf.uI (by omega)).uI (by omega)
  have M3 : MtR c n w3 := by
    obtain ⟨g1, g2, g3, g4⟩ := ht
    exact ⟨g1, by rw [F3.1 78 2 (by omega)]; exact g2, fun i hi => by rw [F3.1 79 i (by omega)]; exact g3 i hi, g4⟩
  refine s_M_tokenize M3 (fun w5 P5 Fr5 F785 w6 e6 w8 e8 => ?_)
  have x5 : ∀ k, k ≠ 5 → gI w5 78 k = gI w3 78 k := fun k hk => F785 k (by simp; exact hk)
  have x11 : gI w8 78 11 = (sd : Int) := by rw [e8, gI_uI, if_neg (by omega), e6, gI_uI, if_neg (by omega), x5 11 (by omega), F3.1 78 11 (by omega)]; exact h11
  rw [x11]
  refine ⟨⟨by omega, by omega⟩, fun w10 e10 => ?_⟩
  rw [show 1 - (sd : Int) = (sd' : Int) by omega] at e10
  have x37 : gI w10 78 37 = (sd' : Int) := by rw [e10, gI_uI, if_pos ⟨rfl, rfl⟩]
  rw [x37, show ((sd' : Int)).toNat = sd' from rfl]
  refine ⟨⟨by omega, by omega⟩, fun w13 e13 => ?_⟩
  have y37 : gI w13 78 37 = (sd' : Int) := by rw [e13, gI_uI, if_neg (by omega)]; exact x37
  rw [y37, show ((sd' : Int)).toNat = sd' from rfl]
  refine ⟨⟨by omega, by omega⟩, fun w16 e16 => ?_⟩
  have z37 : gI w16 78 37 = (sd' : Int) := by rw [e16, gI_uI, if_neg (by omega)]; exact y37
  rw [z37, show ((sd' : Int)).toNat = sd' from rfl]
  refine ⟨⟨by omega, by omega⟩, fun w19 e19 => ?_⟩
  have F5z : FZ sd' w3 w5 := ⟨fun o k z => Fr5.1 o (fun q => z (by
      simp at q
      rcases q with rfl | rfl | rfl | rfl
      · exact Or.inr (Or.inl rfl)
      · exact Or.inr (Or.inr (Or.inl rfl))
      · exact Or.inr (Or.inr (Or.inr (Or.inl rfl)))
      · exact Or.inr (Or.inr (Or.inr (Or.inr (Or.inl rfl)))))) k, fun o k z => Fr5.2.1 o (fun q => z (by
      simp at q
      exact Or.inr q)) k, Fr5.2.2⟩
  have u : ∀ o k, gI w19 o k = if o = 100 ∧ k = sd' then 0 else if o = 88 ∧ k = sd' then 0 else if o = 84 ∧ k = sd' then 0 else if o = 78 ∧ k = 37 then (sd' : Int) else if o = 78 ∧ k = 10 then 0 else if o = 78 ∧ k = 2 then 0 else gI w5 o k := fun o k => by
    rw [e19, gI_uI, e16, gI_uI, e13, gI_uI, e10, gI_uI, e8, gI_uI, e6, gI_uI]
  have uJ' : ∀ o k, gJ w19 o k = gJ w5 o k := fun o k => by rw [e19, gJ_uI, e16, gJ_uI, e13, gJ_uI, e10, gJ_uI, e8, gJ_uI, e6, gJ_uI]
  have F19 : FX (fun o k => (o = 78) ∨ ((o = 84 ∨ o = 88 ∨ o = 100) ∧ k = sd')) o0 w5 w19 := by
    rw [e19, e16, e13, e10, e8, e6]
    exact (((((FX.rf.uI (by omega)).uI (by omega)).uI (by omega)).uI (by omega)).uI (by omega)).uI (by omega)
  have F19z : FZ sd' w w19 := ((F3.sub (fun o k z => Or.inr (Or.inl z.1)) (fun o k z => z.elim)).tr F5z).tr (F19.sub (fun o k z => by
    rcases z with z | ⟨rfl | rfl | rfl, rfl⟩
    · exact Or.inr (Or.inl z)
    · exact Or.inl (by simp [oG])
    · exact Or.inl (by simp [oG])
    · exact Or.inl (by simp [oG])) (fun o k z => z.elim))
  obtain ⟨nb, n1, n2, n3⟩ := P5
  have hT : TOk (Tc c n) nb := Tc_ok ht.2.2.2 ht.1 n1 n2
  have hlen : (((toks c n 0).map (tk7 c n)) ++ [(0, (n : Int), 0)]).length = (toks c n 0).length + 1 := by rw [List.length_append, List.length_map]; rfl
  have T19 : MkT (Tc c n) nb w19 := by
    intro i hi
    obtain ⟨t, ht2⟩ : ∃ t, (((toks c n 0).map (tk7 c n)) ++ [(0, (n : Int), 0)])[i]? = some t := ⟨_, List.getElem?_eq_getElem (by omega)⟩
    have et : Tc c n i = t := by unfold Tc; rw [List.getD_eq_getElem?_getD, ht2]; rfl
    have q := n3 i hi t ht2
    rw [F19.1 80 i (by omega), F19.1 81 i (by omega), F19.1 82 i (by omega), uJ']
    unfold tK tV tP
    rw [et]; exact q
  have P19 : PM (Tc c n) nb sd' s0 0 w19 := by
    refine ⟨⟨T19, Nat.zero_le _, ?_, ?_, ?_, by show (0 : Int) ≠ 1; decide⟩, ⟨?_, hs2, ?_, by decide, fun x hx => (by cases hx), fun i x hx => (by cases hx)⟩, ⟨?_, by decide, fun r hr => (by cases hr), fun i r hr => (by cases hr)⟩, ⟨0, ?_, Nat.le_refl _, fun _ => ⟨rfl, fun i x hx => (by cases hx)⟩⟩⟩
    · rw [u, if_neg (by omega), if_neg (by omega), if_neg (by omega), if_neg (by omega), if_pos ⟨rfl, rfl⟩]; rfl
    · rw [u, if_neg (by omega), if_neg (by omega), if_neg (by omega), if_neg (by omega), if_neg (by omega), if_neg (by omega), x5 3 (by omega), e3, gI_uI, if_neg (by omega), e1, gI_uI, if_pos ⟨rfl, rfl⟩]; rfl
    · rw [u, if_neg (by omega), if_neg (by omega), if_neg (by omega), if_neg (by omega), if_neg (by omega), if_neg (by omega), x5 4 (by omega), e3, gI_uI, if_pos ⟨rfl, rfl⟩]; rfl
    · rw [u, if_neg (by omega), if_neg (by omega), if_neg (by omega), if_pos ⟨rfl, rfl⟩]
    · rw [u, if_neg (by omega), if_neg (by omega), if_pos ⟨rfl, rfl⟩]; rfl
    · rw [u, if_neg (by omega), if_pos ⟨rfl, rfl⟩]; rfl
    · rw [u, if_pos ⟨rfl, rfl⟩]; rfl
  have y11 : gI w19 78 11 = (sd : Int) := by rw [u, if_neg (by omega), if_neg (by omega), if_neg (by omega), if_neg (by omega), if_neg (by omega), if_neg (by omega), x5 11 (by omega), F3.1 78 11 (by omega)]; exact h11
  have y2 : gI w19 78 2 = 0 := by rw [u, if_neg (by omega), if_neg (by omega), if_neg (by omega), if_neg (by omega), if_neg (by omega), if_pos ⟨rfl, rfl⟩]
  have g11 : ∀ w2, FX (oG sd') (oGJ sd') w19 w2 → gI w2 78 11 = (sd : Int) ∧ gI w2 78 2 = 0 := fun w2 F => ⟨by rw [F.1 78 11 (by simp [oG])]; exact y11, by rw [F.1 78 2 (by simp [oG])]; exact y2⟩
  have h600 := hT.1
  refine l_mprog hT 602 s0 0 w19 (by omega) s0_wf P19 FX.rf (fun q w2 e p F => ?_) (fun s' a' w2 e W P F => ?_)
  · obtain ⟨q1, q2⟩ := g11 w2 F
    refine t_M_program_90 ⟨fun _ => fl (1, q) w2 (by show (1 : Int) ≠ 0; decide) p (rdP_i e) q1 q2 (F19z.tr (FZ.g F)), fun z => ?_⟩
    have := p.1
    omega
  · obtain ⟨q1, q2⟩ := g11 w2 F
    obtain ⟨hM, hPd, hRs, hFa⟩ := P
    refine t_M_program_90 ⟨fun z => fl s'.2.2.2 w2 (fun q => z (hM.2.2.2.1.trans q)) ⟨hM.2.2.2.1, hM.2.2.2.2.1⟩ (rdP_f e (fun q => z (hM.2.2.2.1.trans q))) q1 q2 (F19z.tr (FZ.g F)), fun z => ?_⟩
    have hf : s'.2.2.2.1 = 0 := hM.2.2.2.1.symm.trans z
    have hf2 : s'.2.2.2.2 = 0 := W.2.1.2.2.2.2.2 hf
    refine s_M_lookAbsence hPd.1 hs2 hPd.2.2.2.1 hRs W.2.2.2.1 ⟨z, by rw [hM.2.2.2.2.1]; exact hf2⟩ (fun w3' E3 F3' FX3 => ?_)
    have FX3z : FZ sd' w w3' := (F19z.tr (FZ.g F)).tr (FX3.sub (fun o k z => by
      rcases z with z | z
      · exact Or.inr (Or.inr (Or.inr (Or.inr (Or.inr (Or.inl z)))))
      · exact Or.inr (Or.inl z.1)) (fun o k z => z.elim))
    have r1 : gI w3' 78 11 = (sd : Int) := by rw [FX3.1 78 11 (by omega)]; exact q1
    have r2 : gI w3' 78 2 = 0 := by rw [FX3.1 78 2 (by omega)]; exact q2
    cases ek : kn (hgs s'.2.1 s'.1.length) s'.2.1 with
    | some q =>
      rw [ek] at F3'
      exact fl (4, q) w3' (by show (4 : Int) ≠ 0; decide) F3' (rdP_k e hf ek) r1 r2 FX3z
    | none =>
      rw [ek] at F3'
      refine t_M_program_101 ⟨fun _ => ?_, fun z => absurd F3'.1 z⟩
      have x37' : gI w3' 78 37 = (sd' : Int) := by rw [FX3.1 78 37 (by omega)]; exact hPd.1
      have Rs3 : RsM sd' s'.2.1 w3' := hRs.hg FX3 (fun o k z => by rcases z with z | z; exact Or.inl z; exact Or.inr (Or.inr z)) (fun o k z => z)
      refine s_M_lookStrata x37' hs2 hPd.2.2.2.1 Rs3 W.2.2.2.1 ek (fun w4 S4 F4 w5' e5' w7 e7 => ?_)
      have F57 : FX (fun o k => o = 78 ∧ (k = 0 ∨ k = 11)) o0 w4 w7 := by rw [e7, e5']; exact (FX.rf.uI (by omega)).uI (by omega)
      have v37 : gI w5' 78 37 = (sd' : Int) := by rw [e5', gI_uI, if_neg (by omega), F4.1 78 37 (by unfold oS; omega)]; exact x37'
      have v11 : gI w7 78 11 = (sd' : Int) := by rw [e7, gI_uI, if_pos ⟨rfl, rfl⟩]; exact v37
      have v88 : gI w7 88 sd' = (s'.2.1.length : Int) := by rw [F57.1 88 sd' (by omega), F4.1 88 sd' (by unfold oS; omega)]; exact Rs3.1
      rw [v11, show ((sd' : Int)).toNat = sd' from rfl, v88]
      have F7z : FZ sd' w w7 := (FX3z.tr (F4.sub (fun o k z => Or.inr (Or.inr (Or.inr (Or.inr (Or.inr (Or.inr z)))))) (fun o k z => z.elim))).tr (F57.sub (fun o k z => Or.inr (Or.inl z.1)) (fun o k z => z.elim))
      have x78 : ∀ k, k ≠ 0 → k ≠ 11 → gI w7 78 k = gI w3' 78 k := fun k g1 g2 => by rw [F57.1 78 k (by omega), F4.1 78 k (by unfold oS; omega)]
      refine ⟨⟨by omega, by omega⟩, kI (h1 s' a' w7 (rdP_s e hf ek) W ⟨by rw [x78 3 (by omega) (by omega)]; exact F3'.1, by rw [x78 4 (by omega) (by omega)]; exact F3'.2⟩ (by rw [e7, gI_uI, if_neg (by omega), e5', gI_uI, if_pos ⟨rfl, rfl⟩]) (by rw [x78 2 (by omega) (by omega)]; exact r2) v11 (by rw [x78 37 (by omega) (by omega)]; exact x37') ⟨?_, ?_, ?_, fun p hp => ?_⟩ (fun a b ha hb => ?_) (zM w7 F7z))⟩
      · have P3 : PdM sd' s'.1 w3' := hPd.fx FX3 (fun o k z => by omega) (fun o k z => z.elim)
        have P7 : PdM sd' s'.1 w7 := (P3.fx F4 (fun o k z => by unfold oS at z; omega) (fun o k z => z.elim)).fx F57 (fun o k z => by omega) (fun o k z => z.elim)
        exact P7.n
      · obtain ⟨g1, g2, g3, g4⟩ := Rs3.hg F4 (fun o k z => Or.inr (Or.inl z.1)) (fun o k z => z)
        exact ⟨v88, g2, g3, fun i r hr => (g4 i r hr).fx (g3 r (List.mem_of_getElem? hr)) F57 (fun o k z => by obtain ⟨rfl, z⟩ := z; simp [ruI]) (fun o k z => z.elim)⟩
      · obtain ⟨m, m1, m2, m3⟩ := hFa
        obtain ⟨m4, m5⟩ := m3 hf
        have hl5 := W.2.2.2.2.2.1
        have e100 : ∀ o k, o = 100 ∨ o = 101 → gI w7 o k = gI w2 o k := fun o k ho => by rw [F57.1 o k (by omega), F4.1 o k (by unfold oS; omega), FX3.1 o k (by omega)]
        have := hM.2.1
        exact ⟨by rw [e100 100 _ (Or.inl rfl), m1, m4], by omega, fun i x hx => by rw [e100 101 _ (Or.inr rfl)]; exact (m5 i x hx).1⟩
      · rw [F57.1 87 _ (by omega)]; exact S4 p hp
      · rw [F57.1 111 _ (by omega), F4.1 111 _ (by unfold oS; omega)]; exact E3 a b ha hb

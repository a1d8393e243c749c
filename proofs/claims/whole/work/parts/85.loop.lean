/-! the law's loop -/
def IV (w : Wo) : Prop := ∃ (s : PSt) (f : Int × Int) (c : Nat → Int) (n : Nat), CI s f c n w ∧ RI s f c n w ∧ PW s
theorem CI.ty {s : PSt} {f : Int × Int} {c c' : Nat → Int} {n n' : Nat} {w w' : Wo} (h : CI s f c n w) (ht : TpR c' n' w') (hf : Frm [2, 3] [] w w') : CI s f c' n' w' := by
  obtain ⟨-, ⟨b, b', h1, h2, h3, h4, h5, h6⟩, g1, g2⟩ := h
  have bc := bk_c h1
  exact ⟨ht, ⟨b, b', h1, h2, h3, by rw [hf.2.2]; exact h4, by rw [hf.2.2]; exact h5, h6.eq (fun q hq j => hf.1 (b + q) (by simp only [List.mem_cons, List.not_mem_nil, or_false]; omega) j) (fun j => hf.2.1 _ List.not_mem_nil j)⟩, by rw [hf.1 4 (by decide)]; exact g1, by rw [hf.1 4 (by decide)]; exact g2⟩
theorem RI.ty {s : PSt} {f : Int × Int} {c c' : Nat → Int} {n n' : Nat} {w w' : Wo} (h : RI s f c n w) (ht : MtR c' n' w') (hf : FX oTy o0 w w') : RI s f c' n' w' := by
  obtain ⟨-, ⟨f1, f2⟩, sd, s1, s2, s3, s4⟩ := h
  have e : ∀ o k, ¬ oTy o k → gI w' o k = gI w o k := fun o k z => hf.1 o k z
  exact ⟨ht, ⟨by rw [e 78 3 (by unfold oTy; omega)]; exact f1, by rw [e 78 4 (by unfold oTy; omega)]; exact f2⟩, sd, s1, by rw [e 78 11 (by unfold oTy; omega)]; exact s2, s3.fx hf (fun o k z q => by
    unfold oTy at z
    unfold bkI rsI at q
    omega) (fun o k z => z.elim), fun a b ha hb => by rw [e 111 _ (by unfold oTy; omega)]; exact s4 a b ha hb⟩
theorem EqM.fr {A B : List Nat} {w w' : Wo} (h : Frm A B w w') (hA : ∀ o ∈ A, o < 78) (hB : ∀ o ∈ B, o < 78) : EqM w w' := fun o k z => ⟨h.1 o (fun q => absurd (hA o q) (by omega)) k, h.2.1 o (fun q => absurd (hB o q) (by omega)) k⟩
theorem EqM.out {w w' : Wo} {v : Int} (e : w' = uJ w 117 0 v) : EqM w w' := fun o k z => ⟨by rw [e, gI_uJ], by rw [e, gJ_uJ, if_neg (by omega)]⟩
theorem EqC.out {w w' : Wo} {v : Int} (e : w' = uJ w 117 0 v) : EqC w w' := fun o k z => ⟨by rw [e, gI_uJ], by rw [e, gJ_uJ, if_neg (by omega)], by rw [e, gP_uJ]⟩
theorem s_M_thrown {w : Wo} {K : Int → Wo → Prop} (h : K (gI w 78 0) w) : MetI m_M_thrown [vr 78] w K := met_of (by decide) rfl (Nat.le_of_ble_eq_true rfl) (t_M_thrown_0 (kI h))
theorem oM_hi (o k : Nat) (h : oM o k) : 78 ≤ o := h.1
theorem oT0_hi (o k : Nat) (h : oT0 o k) : 78 ≤ o := by rw [h.1]; decide
theorem oTy_hi (o k : Nat) (h : oTy o k) : 78 ≤ o := by unfold oTy at h; omega
theorem oTP_hi (o k : Nat) (h : oT0 o k ∨ oPl o k) : 78 ≤ o := by unfold oT0 oPl at h; omega
theorem o0_hi (o k : Nat) (h : o0 o k) : 78 ≤ o := h.elim
/-- what the law asks behind a call that may throw: z says whether the class threw, t whether the reference did, b is the reference's answer -/
abbrev AnsP (z b t : Int) (w : Wo) (P N : Wo → Prop) : Prop := ((t = z → ((¬ z = 0 → P w) ∧ (z = 0 → ((b_lcmp (gJ w 117 0) b = 0 → P w) ∧ (¬ b_lcmp (gJ w 117 0) b = 0 → N w))))) ∧ (¬ t = z → N w))
theorem ans_t {b t : Int} {w : Wo} {P N : Wo → Prop} (ht : t = 1) (h : P w) : AnsP 1 b t w P N := ⟨fun _ => ⟨fun _ => h, fun q => absurd q (by decide)⟩, fun q => absurd ht q⟩
theorem ans_r {b t : Int} {w : Wo} {P N : Wo → Prop} (ht : t = 0) (hb : gJ w 117 0 = b) (h : P w) : AnsP 0 b t w P N := ⟨fun _ => ⟨fun q => absurd rfl q, fun _ => ⟨fun _ => h, fun q => absurd (lcmp0.mpr hb) q⟩⟩, fun q => absurd ht q⟩
theorem lw_type {y x : Int} {w : Wo} {P N : Wo → Prop} (hI : IV w) (hx : inr32 x) (hP : ∀ w', IV w' → P w') : MetI m_D_type [vr 1, vl y, vi x] w (fun z w1 => MetI m_M_type [vr 78, vl y, vi x] w1 (fun z2 w2 => ((z = z2 → P w2) ∧ (¬ z = z2 → N w2)))) := by
  obtain ⟨s, f, c, n, hC, hR, hW⟩ := hI
  refine s_D_type hC.1 hx (fun hok w1 T1 F1 => ?_) (fun hno => ?_)
  · have R1 : RI s f c n w1 := hR.eqm (EqM.fr F1 (by decide) (by decide))
    exact s_M_type R1.1 hx (fun _ w2 M2 F2 => ⟨fun _ => hP w2 ⟨s, f, _, _, (hC.ty T1 F1).eqc (EqC.of F2 oTy_hi o0_hi), R1.ty M2 F2, hW⟩, fun q => absurd rfl q⟩) (fun q => absurd hok q)
  · exact s_M_type hR.1 hx (fun q => absurd q hno) (fun _ w2 M2 F2 => ⟨fun _ => hP w2 ⟨s, f, _, _, hC.eqc (EqC.of F2 oTy_hi o0_hi), hR.ty M2 F2, hW⟩, fun q => absurd rfl q⟩)
theorem lw_fault {x : Int} {w : Wo} {P N : Wo → Prop} (hI : IV w) (hP : ∀ w', IV w' → P w') : MetI m_D_fault [vr 1, vi x] w (fun z w1 => MetI m_M_fault [vr 78, vi x] w1 (fun z2 w2 => ((z = z2 → P w2) ∧ (¬ z = z2 → N w2)))) := by
  obtain ⟨s, f, c, n, hC, hR, hW⟩ := hI
  exact s_D_fault hC (s_M_fault hR (fun w2 R2 F2 => ⟨fun _ => hP w2 ⟨s, f, c, n, hC.eqc (EqC.of F2 oT0_hi o0_hi), R2, hW⟩, fun q => absurd rfl q⟩))
theorem lw_predicates {w : Wo} {P N : Wo → Prop} (hI : IV w) (hP : ∀ w', IV w' → P w') : MetI m_D_predicates [vr 1] w (fun z w1 => MetI m_M_predicates [vr 78] w1 (fun z2 w2 => ((z = z2 → P w2) ∧ (¬ z = z2 → N w2)))) := by
  obtain ⟨s, f, c, n, hC, hR, hW⟩ := hI
  exact s_D_predicates hC (s_M_predicates hR (fun w2 R2 F2 => ⟨fun _ => hP w2 ⟨s, f, c, n, hC.eqc (EqC.of F2 oT0_hi o0_hi), R2, hW⟩, fun q => absurd rfl q⟩))
theorem lw_predicate {p x : Int} {w : Wo} {P N : Wo → Prop} (hI : IV w) (hx : inr32 x) (hP : ∀ w', IV w' → P w') : MetI m_D_predicate [vr 1, vi p, vi x] w (fun z w1 => MetI m_M_predicate [vr 78, vi p, vi x] w1 (fun z2 w2 => ((z = z2 → P w2) ∧ (¬ z = z2 → N w2)))) := by
  obtain ⟨s, f, c, n, hC, hR, hW⟩ := hI
  exact s_D_predicate hC hW hx (s_M_predicate hR (fun w2 R2 F2 => ⟨fun _ => hP w2 ⟨s, f, c, n, hC.eqc (EqC.of F2 oT0_hi o0_hi), R2, hW⟩, fun q => absurd rfl q⟩) hx)
theorem lw_hangs {p q : Int} {w : Wo} {P N : Wo → Prop} (hI : IV w) (hP : ∀ w', IV w' → P w') : MetI m_D_hangs [vr 1, vi p, vi q] w (fun z w1 => MetI m_M_hangs [vr 78, vi p, vi q] w1 (fun z2 w2 => ((z = z2 → P w2) ∧ (¬ z = z2 → N w2)))) := by
  obtain ⟨s, f, c, n, hC, hR, hW⟩ := hI
  exact s_D_hangs hC hW (s_M_hangs hR (fun w2 R2 F2 => ⟨fun _ => hP w2 ⟨s, f, c, n, hC.eqc (EqC.of F2 oT0_hi o0_hi), R2, hW⟩, fun q => absurd rfl q⟩))
theorem lw_program {w : Wo} {P N : Wo → Prop} (hI : IV w) (hP : ∀ w', IV w' → P w') : MetH m_L_program hh_program [vr 1, vr 117] w (fun r w1 => ∃ z, r = some (vi z) ∧ MetI m_M_program [vr 78] w1 (fun b w2 => MetI m_M_thrown [vr 78] w2 (fun t w3 => AnsP z b t w3 P N))) := by
  obtain ⟨s, f, c, n, hC, hR, hW⟩ := hI
  have hok := hW.choose_spec.2.1.2.2.2.1
  refine s_L_program hC (fun f' w1 e C1 E1 => ?_) (fun s' w' w1 e C1 W1 E1 e1 => ?_)
  · have R1 : RI s f c n w1 := hR.eqm E1
    obtain ⟨hM, -, sd, s1, s2, s3, s4⟩ := R1
    refine s_M_program hM s1 s2 s3 hok (fun f2 w2 e2 F2 t2 n2 q11 q37 B2 E2 X2 => s_M_thrown (ans_t t2 ?_)) (fun s2 a w2 e2 => by rw [e] at e2; cases e2)
    rw [e] at e2
    cases e2
    exact hP w2 ⟨s, f', c, 0, C1.eqc (EqC.of X2 oM_hi oM_hi), ⟨⟨by decide, n2, fun i hi => absurd hi (Nat.not_lt_zero i), fun i hi => absurd hi (Nat.not_lt_zero i)⟩, F2, sd, s1, q11, B2, E2⟩, hW⟩
  · have R1 : RI s f c n w1 := hR.eqm (E1.tr (EqM.out e1))
    have C1' := C1.eqc (EqC.out e1)
    obtain ⟨hM, -, sd, s1, s2, s3, s4⟩ := R1
    refine s_M_program hM s1 s2 s3 hok (fun f2 w2 e2 => by rw [e] at e2; cases e2) (fun s2' a w2 e2 Wf F2 t2 n2 q11 q37 B2 E2 X2 => s_M_thrown (ans_r t2 ?_ ?_))
    · rw [e] at e2
      cases e2
      rw [X2.2.1 117 0 (by unfold oM; omega), e1, gJ_uJ, if_pos ⟨rfl, rfl⟩]
    · rw [e] at e2
      cases e2
      exact hP w2 ⟨s', (0, 0), c, 0, C1'.eqc (EqC.of X2 oM_hi oM_hi), ⟨⟨by decide, n2, fun i hi => absurd hi (Nat.not_lt_zero i), fun i hi => absurd hi (Nat.not_lt_zero i)⟩, F2, 1 - sd, by omega, q11, B2, E2⟩, W1⟩
theorem lw_rule {r x : Int} {w : Wo} {P N : Wo → Prop} (hI : IV w) (hP : ∀ w', IV w' → P w') : MetH m_L_rule hh_rule [vr 1, vi r, vi x, vr 117] w (fun q w1 => ∃ z, q = some (vi z) ∧ MetI m_M_rule [vr 78, vi r, vi x] w1 (fun b w2 => MetI m_M_thrown [vr 78] w2 (fun t w3 => AnsP z b t w3 P N))) := by
  obtain ⟨s, f, c, n, hC, hR, hW⟩ := hI
  refine s_L_rule hC hW (fun e => ?_) (fun v w1 e e1 => ?_)
  · refine s_M_rule hR hW (fun v w2 e2 => by rw [e] at e2; cases e2) (fun w2 e2 R2 t2 X2 => s_M_thrown (ans_t t2 ?_))
    exact hP w2 ⟨s, f, c, n, hC.eqc (EqC.of X2 oT0_hi o0_hi), R2, hW⟩
  · refine s_M_rule (hR.eqm (EqM.out e1)) hW (fun v2 w2 e2 R2 t2 X2 => s_M_thrown (ans_r t2 ?_ ?_)) (fun w2 e2 => by rw [e] at e2; cases e2)
    · rw [e] at e2
      cases e2
      rw [X2.2.1 117 0 (fun q => q), e1, gJ_uJ, if_pos ⟨rfl, rfl⟩]
    · exact hP w2 ⟨s, f, c, n, (hC.eqc (EqC.out e1)).eqc (EqC.of X2 oT0_hi o0_hi), R2, hW⟩
theorem lw_literal {r i x : Int} {w : Wo} {P N : Wo → Prop} (hI : IV w) (hP : ∀ w', IV w' → P w') : MetH m_L_literal hh_literal [vr 1, vi r, vi i, vi x, vr 117] w (fun q w1 => ∃ z, q = some (vi z) ∧ MetI m_M_literal [vr 78, vi r, vi i, vi x] w1 (fun b w2 => MetI m_M_thrown [vr 78] w2 (fun t w3 => AnsP z b t w3 P N))) := by
  obtain ⟨s, f, c, n, hC, hR, hW⟩ := hI
  refine s_L_literal hC hW (fun e => ?_) (fun v w1 e e1 => ?_)
  · refine s_M_literal hR hW (fun v w2 e2 => by rw [e] at e2; cases e2) (fun w2 e2 R2 t2 X2 => s_M_thrown (ans_t t2 ?_))
    exact hP w2 ⟨s, f, c, n, hC.eqc (EqC.of X2 oTP_hi o0_hi), R2, hW⟩
  · refine s_M_literal (hR.eqm (EqM.out e1)) hW (fun v2 w2 e2 R2 t2 X2 => s_M_thrown (ans_r t2 ?_ ?_)) (fun w2 e2 => by rw [e] at e2; cases e2)
    · rw [e] at e2
      cases e2
      rw [X2.2.1 117 0 (fun q => q), e1, gJ_uJ, if_pos ⟨rfl, rfl⟩]
    · exact hP w2 ⟨s, f, c, n, (hC.eqc (EqC.out e1)).eqc (EqC.of X2 oTP_hi o0_hi), R2, hW⟩
abbrev lwQ : Option AV → Wo → Prop := fun r _ => r = some (vi 1)
set_option maxHeartbeats 1000000 in
theorem law_step {xs : List Int} {k1 k2 : Nat} {x4 : Int} {w : Wo} (hN : xs.length ≤ 2048) (hr : ∀ j, inr32 (xs.getD j 0)) (h0 : 0 ≤ x4) (h9 : x4 < 100000) (hk1 : k1 + 1 ≤ 601024) (hk2 : k2 + 6 ≤ 7293034) (hI : IV w)
    (hP : x4 ≤ (xs.length : Int) - 4 → ∀ w', IV w' → WpG true true (m_law xs) 23 [(0, vr 4000), (1, vr 1), (2, vr 78), (3, vr 117), (4, vi (x4 + 4))] [] (k1, k2) w' lwQ ∧ WpG true true (m_law xs) 23 [(0, vr 4000), (1, vr 1), (2, vr 78), (3, vr 117), (4, vi (x4 + 4))] [] (k1 + 1, k2 + 6) w' lwQ) : WpG true true (m_law xs) 23 [(0, vr 4000), (1, vr 1), (2, vr 78), (3, vr 117), (4, vi x4)] [] (k1, k2) w lwQ := by
  refine t_L_law_23 ⟨hk1, hk2⟩ ⟨⟨by omega, by omega⟩, fun _ => rfl, fun z => ?_⟩
  have hx : x4 ≤ (xs.length : Int) - 4 := by omega
  replace hP := hP hx
  have i1 : inr32 (x4 + 1) := ⟨by omega, by omega⟩
  have i2 : inr32 (x4 + 2) := ⟨by omega, by omega⟩
  have i3 : inr32 (x4 + 3) := ⟨by omega, by omega⟩
  have i4 : inr32 (x4 + 4) := ⟨by omega, by omega⟩
  have b0 : 0 ≤ x4 ∧ x4 < (xs.length : Int) := ⟨by omega, by omega⟩
  have b1 : 0 ≤ x4 + 1 ∧ x4 + 1 < (xs.length : Int) := ⟨by omega, by omega⟩
  have b2 : 0 ≤ x4 + 2 ∧ x4 + 2 < (xs.length : Int) := ⟨by omega, by omega⟩
  have b3 : 0 ≤ x4 + 3 ∧ x4 + 3 < (xs.length : Int) := ⟨by omega, by omega⟩
  obtain ⟨P, hPe⟩ : ∃ P : Wo → Prop, P = fun w' => inr32 (x4 + 4) ∧ WpG true true (m_law xs) 23 [(0, vr 4000), (1, vr 1), (2, vr 78), (3, vr 117), (4, vi (x4 + 4))] [] (k1, k2) w' lwQ := ⟨_, rfl⟩
  obtain ⟨P2, hPe2⟩ : ∃ P : Wo → Prop, P = fun w' => inr32 (x4 + 4) ∧ WpG true true (m_law xs) 23 [(0, vr 4000), (1, vr 1), (2, vr 78), (3, vr 117), (4, vi (x4 + 4))] [] (k1 + 1, k2 + 6) w' lwQ := ⟨_, rfl⟩
  have P0 : ∀ w', IV w' → P w' := fun w' h => by rw [hPe]; exact ⟨i4, (hP w' h).1⟩
  have P1 : ∀ w', IV w' → P2 w' := fun w' h => by rw [hPe2]; exact ⟨i4, (hP w' h).2⟩
  refine ⟨b0, fun _ => ?_, fun _ => ?_, fun _ => ?_, fun _ => ?_, fun _ => ?_, fun _ => ?_, fun _ => ?_, fun _ => ?_, fun _ _ _ _ _ _ _ _ => by have h := P0 w hI; rw [hPe] at h; exact h⟩
  · have h := lw_type (N := fun w' => lwQ (some (vi 0)) w') (y := b_lor (b_lshl (xs.getD (x4 + 1).toNat 0) 32) (b_land (xs.getD (x4 + 2).toNat 0) 4294967295)) hI (hr (x4 + 3).toNat) P0
    rw [hPe] at h
    exact ⟨i1, b1, i2, b2, i3, b3, MetS.mono h (fun r w1 hh => by obtain ⟨z, rfl, h⟩ := hh; exact ⟨z, rfl, i1, b1, i2, b2, i3, b3, h⟩)⟩
  · have h := lw_program (N := fun w' => lwQ (some (vi 0)) w') hI P1
    rw [hPe2] at h
    exact h
  · have h := lw_fault (N := fun w' => lwQ (some (vi 0)) w') (x := xs.getD (x4 + 1).toNat 0) hI P0
    rw [hPe] at h
    exact ⟨i1, b1, MetS.mono h (fun r w1 hh => by obtain ⟨z, rfl, h⟩ := hh; exact ⟨z, rfl, i1, b1, h⟩)⟩
  · have h := lw_predicates (N := fun w' => lwQ (some (vi 0)) w') hI P0
    rw [hPe] at h
    exact h
  · have h := lw_predicate (N := fun w' => lwQ (some (vi 0)) w') (p := xs.getD (x4 + 1).toNat 0) hI (hr (x4 + 2).toNat) P0
    rw [hPe] at h
    exact ⟨i1, b1, i2, b2, MetS.mono h (fun r w1 hh => by obtain ⟨z, rfl, h⟩ := hh; exact ⟨z, rfl, i1, b1, i2, b2, h⟩)⟩
  · have h := lw_hangs (N := fun w' => lwQ (some (vi 0)) w') (p := xs.getD (x4 + 1).toNat 0) (q := xs.getD (x4 + 2).toNat 0) hI P0
    rw [hPe] at h
    exact ⟨i1, b1, i2, b2, MetS.mono h (fun r w1 hh => by obtain ⟨z, rfl, h⟩ := hh; exact ⟨z, rfl, i1, b1, i2, b2, h⟩)⟩
  · have h := lw_rule (N := fun w' => lwQ (some (vi 0)) w') (r := xs.getD (x4 + 1).toNat 0) (x := xs.getD (x4 + 2).toNat 0) hI P1
    rw [hPe2] at h
    exact ⟨i1, b1, i2, b2, MetH.mono h (fun r w1 hh => by obtain ⟨z, rfl, h⟩ := hh; exact ⟨z, rfl, i1, b1, i2, b2, h⟩)⟩
  · have h := lw_literal (N := fun w' => lwQ (some (vi 0)) w') (r := xs.getD (x4 + 1).toNat 0) (i := xs.getD (x4 + 2).toNat 0) (x := xs.getD (x4 + 3).toNat 0) hI P1
    rw [hPe2] at h
    exact ⟨i1, b1, i2, b2, i3, b3, MetH.mono h (fun r w1 hh => by obtain ⟨z, rfl, h⟩ := hh; exact ⟨z, rfl, i1, b1, i2, b2, i3, b3, h⟩)⟩
theorem law_loop {xs : List Int} : ∀ (t j k1 k2 : Nat) (x4 : Int) (w : Wo), 513 ≤ j + t → j ≤ 513 → x4 = 4 * (j : Int) → k1 ≤ 117 + j → k2 ≤ 16612 + 6 * j → IV w → WpG true true (m_law xs) 23 [(0, vr 4000), (1, vr 1), (2, vr 78), (3, vr 117), (4, vi x4)] [] (k1, k2) w lwQ := by
  intro t
  induction t with
  | zero =>
    intro j k1 k2 x4 w ht hj hx h1 h2 hI
    exact wp_scr (xs := xs) rfl (fun hN hr => law_step hN hr (by omega) (by omega) (by omega) (by omega) hI (fun q => by omega))
  | succ t ih =>
    intro j k1 k2 x4 w ht hj hx h1 h2 hI
    exact wp_scr (xs := xs) rfl (fun hN hr => law_step hN hr (by omega) (by omega) (by omega) (by omega) hI (fun q w' I' => ⟨ih (j + 1) k1 k2 (x4 + 4) w' (by omega) (by omega) (by omega) (by omega) (by omega) I', ih (j + 1) (k1 + 1) (k2 + 6) (x4 + 4) w' (by omega) (by omega) (by omega) (by omega) (by omega) I'⟩))

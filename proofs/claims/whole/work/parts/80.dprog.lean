/-! what one side leaves of the other; program and rule of the class -/
def EqC (w w' : Wo) : Prop := ∀ o k, o < 78 → gI w' o k = gI w o k ∧ gJ w' o k = gJ w o k ∧ gP w' o k = gP w o k
def EqM (w w' : Wo) : Prop := ∀ o k, 78 ≤ o ∧ o ≤ 116 → gI w' o k = gI w o k ∧ gJ w' o k = gJ w o k
theorem EqM.rf {w : Wo} : EqM w w := fun _ _ _ => ⟨rfl, rfl⟩
theorem EqM.tr {w w' w'' : Wo} (h1 : EqM w w') (h2 : EqM w' w'') : EqM w w'' := fun o k z => ⟨(h2 o k z).1.trans (h1 o k z).1, (h2 o k z).2.trans (h1 o k z).2⟩
theorem EqC.of {A B : OkF} {w w' : Wo} (h : FX A B w w') (hA : ∀ o k, A o k → 78 ≤ o) (hB : ∀ o k, B o k → 78 ≤ o) : EqC w w' := fun o k z => ⟨h.1 o k (fun q => absurd (hA o k q) (by omega)), h.2.1 o k (fun q => absurd (hB o k q) (by omega)), h.2.2 o k⟩
theorem RlC.eq {b : Nat} {R : List Rul} {w w' : Wo} (h : RlC b R w) (e : ∀ q, q ≤ 18 → ∀ j, gI w' (b + q) j = gI w (b + q) j) : RlC b R w' := by
  refine ⟨by rw [e 1 (by decide)]; exact h.1, fun i r hr => ?_⟩
  obtain ⟨r1, r2, r3, r4, r5, r6, r7⟩ := h.2 i r hr
  refine ⟨?_, ?_, ?_, ?_, ?_, fun j L hL => ?_, fun j x hx => ?_⟩
  · rw [e 2 (by decide)]; exact r1
  · rw [e 3 (by decide)]; exact r2
  · rw [e 4 (by decide)]; exact r3
  · rw [e 5 (by decide)]; exact r4
  · rw [e 6 (by decide)]; exact r5
  · rw [e 7 (by decide), e 8 (by decide), e 9 (by decide)]; exact r6 j L hL
  · rw [e 10 (by decide), e 11 (by decide), e 12 (by decide)]; exact r7 j x hx
theorem BookC.eq {b : Nat} {s : PSt} {w w' : Wo} (h : BookC b s w) (e : ∀ q, q ≤ 18 → ∀ j, gI w' (b + q) j = gI w (b + q) j) (e2 : ∀ j, gJ w' (b + 13) j = gJ w (b + 13) j) : BookC b s w' := by
  obtain ⟨h1, h2, h3, h4⟩ := h
  have e0 : gI w' b 1 = gI w b 1 := e 0 (by decide) 1
  exact ⟨by rw [e0]; exact h1, fun i x hx => by rw [e2, e 14 (by decide)]; exact h2 i x hx, fun i hi => by rw [e 15 (by decide), e 16 (by decide), e 17 (by decide), e 18 (by decide)]; exact h3 i hi, h4.eq e⟩
theorem CI.eqc {s : PSt} {f : Int × Int} {c : Nat → Int} {n : Nat} {w w' : Wo} (h : CI s f c n w) (e : EqC w w') : CI s f c n w' := by
  obtain ⟨⟨t1, t2, t3, t4⟩, ⟨b, b', h1, h2, h3, h4, h5, h6⟩, g1, g2⟩ := h
  have bc := bk_c h1
  exact ⟨⟨t1, by rw [(e 2 1 (by decide)).1]; exact t2, fun i hi => by rw [(e 3 i (by decide)).1]; exact t3 i hi, t4⟩, ⟨b, b', h1, h2, h3, by rw [(e 1 2 (by decide)).2.2]; exact h4, by rw [(e 1 3 (by decide)).2.2]; exact h5, h6.eq (fun q hq j => (e (b + q) j (by omega)).1) (fun j => (e (b + 13) j (by omega)).2.1)⟩, by rw [(e 4 4 (by decide)).1]; exact g1, by rw [(e 4 5 (by decide)).1]; exact g2⟩
theorem RI.eqm {s : PSt} {f : Int × Int} {c : Nat → Int} {n : Nat} {w w' : Wo} (h : RI s f c n w) (e : EqM w w') : RI s f c n w' := by
  obtain ⟨⟨g1, g2, g3, g4⟩, ⟨f1, f2⟩, sd, s1, s2, s3, s4⟩ := h
  have F : FX (fun o _ => ¬ (78 ≤ o ∧ o ≤ 116)) (fun o _ => ¬ (78 ≤ o ∧ o ≤ 116)) w (w'.1, w'.2.1, w'.2.2.1, w'.2.2.2.1, w.2.2.2.2) := ⟨fun o k z => (e o k (Decidable.of_not_not z)).1, fun o k z => (e o k (Decidable.of_not_not z)).2, fun _ _ => rfl⟩
  have B : MBk sd s (w'.1, w'.2.1, w'.2.2.1, w'.2.2.2.1, w.2.2.2.2) := s3.fx F (fun o k z q => z (by
    unfold bkI rsI at q
    omega)) (fun o k z q => z (by
    unfold bkJ rsJ at q
    omega))
  exact ⟨⟨g1, by rw [(e 78 2 (by decide)).1]; exact g2, fun i hi => by rw [(e 79 i (by decide)).1]; exact g3 i hi, g4⟩, ⟨by rw [(e 78 3 (by decide)).1]; exact f1, by rw [(e 78 4 (by decide)).1]; exact f2⟩, sd, s1, by rw [(e 78 11 (by decide)).1]; exact s2, B, fun a b ha hb => by rw [(e 111 _ (by decide)).1]; exact s4 a b ha hb⟩
theorem FH.hi {b o k : Nat} {w w' : Wo} (h : FH b w w') (hb : isBk b) (ho : 78 ≤ o) : gI w' o k = gI w o k ∧ gJ w' o k = gJ w o k := by
  refine ⟨h.1 o ?_ k, h.2.1 o ?_ k⟩
  · rcases hb with rfl | rfl <;> (simp only [List.mem_cons, List.not_mem_nil, or_false]; omega)
  · rcases hb with rfl | rfl <;> (simp only [List.mem_cons, List.not_mem_nil, or_false]; omega)
theorem FH.ob {b b' q : Nat} {w w' : Wo} (h : FH b' w w') (hb : isBk b) (hb' : isBk b') (hn : b ≠ b') (hq : q ≤ 18) (k : Nat) : gI w' (b + q) k = gI w (b + q) k := by
  refine h.1 _ ?_ k
  rcases hb with rfl | rfl
  · rcases hb' with rfl | rfl
    · exact absurd rfl hn
    · simp only [List.mem_cons, List.not_mem_nil, or_false]; omega
  · rcases hb' with rfl | rfl
    · simp only [List.mem_cons, List.not_mem_nil, or_false]; omega
    · exact absurd rfl hn
theorem FH.oj {b b' : Nat} {w w' : Wo} (h : FH b' w w') (hb : isBk b) (hb' : isBk b') (hn : b ≠ b') (k : Nat) : gJ w' (b + 13) k = gJ w (b + 13) k := by
  refine h.2.1 _ ?_ k
  rcases hb with rfl | rfl
  · rcases hb' with rfl | rfl
    · exact absurd rfl hn
    · decide
  · rcases hb' with rfl | rfl
    · decide
    · exact absurd rfl hn
theorem TpR.nil {c : Nat → Int} {w : Wo} (h : gI w 2 1 = 0) : TpR c 0 w := ⟨by decide, h, fun i hi => absurd hi (Nat.not_lt_zero i), fun i hi => absurd hi (Nat.not_lt_zero i)⟩
theorem d_program {s : PSt} {f : Int × Int} {c : Nat → Int} {n : Nat} {w : Wo} {Q : Option AV → Wo → Prop} (hC : CI s f c n w)
    (h0 : ∀ f' w', rdP (Tc c n) = .inl f' → CI s f' c 0 w' → EqM w w' → Q (some (vr 28)) w')
    (h1 : ∀ s' w', rdP (Tc c n) = .inr s' → CI s' (0, 0) c 0 w' → PW s' → EqM w w' → Q (some (vi (s'.2.1.length : Int))) w') : Wp m_D_program 0 [(0, vr 1)] [] (0, 0) w Q := by
  obtain ⟨ht, ⟨b, b', h2, h3, h4, h5, h6, h7⟩, -, -⟩ := hC
  have bc := bk_c h2
  have bc' := bk_c h3
  refine t_D_program_0 ?_
  rw [h6]
  refine s_Rd_read ht h3 (fun f' w1 e k4 k5 F w2 e2 => ⟨fun z => absurd rfl z, fun _ => ?_⟩) (fun s' a w1 e ha W hf ek B k4 k5 F w2 e2 => ⟨fun _ w3 e3 w4 e4 => ?_, fun z => absurd z (by decide)⟩)
  · have g2 : ∀ o k, o ≠ 2 → gI w2 o k = gI w1 o k := fun o k z => by rw [e2, gI_uI, if_neg (fun q => z q.1)]
    refine h0 f' w2 e ⟨TpR.nil (by rw [e2, gI_uI, if_pos ⟨rfl, rfl⟩]), ⟨b, b', h2, h3, h4, ?_, ?_, ?_⟩, ?_, ?_⟩ (fun o k z => ⟨?_, ?_⟩)
    · rw [e2, gP_uI, F.2.2 1 2 (by decide)]; exact h5
    · rw [e2, gP_uI, F.2.2 1 3 (by decide)]; exact h6
    · exact h7.eq (fun q hq j => by rw [g2 (b + q) j (by omega)]; exact F.ob h2 h3 h4 hq j) (fun j => by rw [e2, gJ_uI]; exact F.oj h2 h3 h4 j)
    · rw [g2 4 4 (by decide)]; exact k4
    · rw [g2 4 5 (by decide)]; exact k5
    · rw [g2 o k (by omega)]; exact (F.hi h3 z.1).1
    · rw [e2, gJ_uI]; exact (F.hi h3 z.1).2
  · have g4 : ∀ o k, o ≠ 2 → gI w4 o k = gI w1 o k := fun o k z => by rw [e4, gI_uP, e3, gI_uP, e2, gI_uI, if_neg (fun q => z q.1)]
    have j4 : ∀ o k, gJ w4 o k = gJ w1 o k := fun o k => by rw [e4, gJ_uP, e3, gJ_uP, e2, gJ_uI]
    have p2 : gP w2 1 2 = b := by rw [e2, gP_uI, F.2.2 1 2 (by decide)]; exact h5
    have p3 : gP w2 1 3 = b' := by rw [e2, gP_uI, F.2.2 1 3 (by decide)]; exact h6
    have q2 : gP w4 1 2 = b' := by rw [e4, gP_uP, if_neg (by decide), e3, gP_uP, if_pos ⟨rfl, rfl⟩]; exact p3
    have q3 : gP w4 1 3 = b := by rw [e4, gP_uP, if_pos ⟨rfl, rfl⟩]; exact p2
    have B4 : BookC b' s' w4 := B.eq (fun q hq j => g4 (b' + q) j (by omega)) (fun j => j4 _ j)
    have hl : gI w4 (b' + 1) 0 = (s'.2.1.length : Int) := B4.2.2.2.1
    rw [q2, hl]
    refine h1 s' w4 e ⟨TpR.nil ?_, ⟨b', b, h3, h2, Ne.symm h4, q2, q3, B4⟩, ?_, ?_⟩ ⟨a, ha, W, hf⟩ (fun o k z => ⟨?_, ?_⟩)
    · rw [e4, gI_uP, e3, gI_uP, e2, gI_uI, if_pos ⟨rfl, rfl⟩]
    · rw [g4 4 4 (by decide)]; exact k4
    · rw [g4 4 5 (by decide)]; exact k5
    · rw [g4 o k (by omega)]; exact (F.hi h3 z.1).1
    · rw [j4]; exact (F.hi h3 z.1).2
theorem s_D_programR {s s' : PSt} {f : Int × Int} {c : Nat → Int} {n : Nat} {w : Wo} {K : Int → Wo → Prop} (hC : CI s f c n w) (e : rdP (Tc c n) = .inr s') (h : ∀ w', CI s' (0, 0) c 0 w' → PW s' → EqM w w' → K (s'.2.1.length : Int) w') : MetI m_D_program [vr 1] w K :=
  met_ofR (by decide) rfl (fun q w' z => by obtain ⟨x, z, -⟩ := z; cases z) (Nat.le_of_ble_eq_true rfl) (d_program hC (fun f' w' e2 => by rw [e] at e2; cases e2) (fun s2 w' e2 C W E => by rw [e] at e2; cases e2; exact kI (h w' C W E)))
theorem s_D_programT {s : PSt} {f f' : Int × Int} {c : Nat → Int} {n : Nat} {w : Wo} {Qw : Wo → Prop} (hC : CI s f c n w) (e : rdP (Tc c n) = .inl f') (h : ∀ w', CI s f' c 0 w' → EqM w w' → Qw w') : MetTS m_D_program [vr 1] w "java/lang/IllegalArgumentException" Qw :=
  met_ofT (by decide) exk_IA rfl ⟨rfl, rfl, by decide, by decide⟩ (Nat.le_of_ble_eq_true rfl) (d_program hC (fun f2 w' e2 C E => by rw [e] at e2; cases e2; exact ⟨28, rfl, thr_program, h w' C E⟩) (fun s2 w' e2 => by rw [e] at e2; cases e2))
theorem d_rule {s : PSt} {f : Int × Int} {c : Nat → Int} {n : Nat} {r x : Int} {w : Wo} {Q : Option AV → Wo → Prop} (hC : CI s f c n w) (hW : PW s) (h0 : ruA s r x = none → Q (some (vr 20)) w ∧ Q (some (vr 101)) w) (h1 : ∀ v, ruA s r x = some v → Q (some (vi v)) w) : Wp m_D_rule 0 [(0, vr 1), (1, vi r), (2, vi x)] [] (0, 0) w Q := by
  obtain ⟨b, b', h2, h3, h4, h5, h6, h7⟩ := hC.2.1
  obtain ⟨a, ha, W, hf⟩ := hW
  have hl16 := W.1.1
  have hl30 := W.2.2.1
  have hc : gI w (b + 1) 0 = (s.2.1.length : Int) := h7.2.2.2.1
  refine t_D_rule_0 ?_
  rw [h5, hc]
  refine ⟨fun z => (h0 (if_neg (by omega))).1, fun z => ⟨fun z2 => ?_, fun z2 => (h0 (if_neg (by omega))).1⟩⟩
  have hr := getD_ru (R := s.2.1) (i := r.toNat) (by omega)
  have hok := W.2.2.2.1 _ (List.mem_of_getElem? hr)
  have h1' : 0 ≤ x → x ≤ 4 → Q (some (vi (ruV s (s.2.1.getD r.toNat dfR) x))) w := fun y0 y1 => h1 _ (if_pos ⟨by omega, by omega, y0, y1⟩)
  have hci : x = 4 → MetI m_Bk_circles [vr b, vi ((r.toNat : Nat) : Int)] w (fun z w' => Q (some (vi z)) w') := fun y4 => s_Bk_circles h2 h7 rfl hl16 hr (by omega) hok W.ro (by
    have h := h1' (by omega) (by omega)
    unfold ruV at h
    rw [if_neg (by omega), if_neg (by omega), if_neg (by omega), if_neg (by omega)] at h
    exact h)
  rw [show ((r.toNat : Nat) : Int) = r by omega] at hci
  obtain ⟨r1, r2, r3, r4, r5, r6, r7⟩ := h7.2.2.2.2 r.toNat _ hr
  generalize s.2.1.getD r.toNat dfR = rr at *
  have e1 : gI w (b + 1 + 1) r.toNat = rr.1 := r1
  have e2 : gI w (b + 1 + 2) r.toNat = (rr.2.2.2.2.length : Int) := r2
  have e3 : gI w (b + 1 + 3) r.toNat = rr.2.1 := r3
  have e4 : gI w (b + 1 + 4) r.toNat = rr.2.2.1 := r4
  rw [e1, e2, e3, e4]
  unfold ruV at h1'
  refine ⟨fun y => ⟨⟨by omega, by omega⟩, ?_⟩, fun y => ⟨⟨by omega, by omega⟩, ?_⟩, fun y => ⟨⟨by omega, by omega⟩, ?_⟩, fun y => ⟨⟨by omega, by omega⟩, ?_⟩, fun y => hci y, fun y0 y1 y2 y3 y4 => (h0 (if_neg (by omega))).2⟩
  · have h := h1' (by omega) (by omega)
    rw [if_pos y] at h; exact h
  · have h := h1' (by omega) (by omega)
    rw [if_neg (by omega), if_pos y] at h; exact h
  · have h := h1' (by omega) (by omega)
    rw [if_neg (by omega), if_neg (by omega), if_pos y] at h; exact h
  · have h := h1' (by omega) (by omega)
    rw [if_neg (by omega), if_neg (by omega), if_neg (by omega), if_pos y] at h; exact h
theorem s_D_ruleR {s : PSt} {f : Int × Int} {c : Nat → Int} {n : Nat} {r x v : Int} {w : Wo} {K : Int → Wo → Prop} (hC : CI s f c n w) (hW : PW s) (e : ruA s r x = some v) (h : K v w) : MetI m_D_rule [vr 1, vi r, vi x] w K :=
  met_ofR (by decide) rfl (fun q w' z => by obtain ⟨x, z, -⟩ := z; cases z) (Nat.le_of_ble_eq_true rfl) (d_rule hC hW (fun e2 => by rw [e] at e2; cases e2) (fun v2 e2 => by rw [e] at e2; cases e2; exact kI h))
theorem s_D_ruleT {s : PSt} {f : Int × Int} {c : Nat → Int} {n : Nat} {r x : Int} {w : Wo} {Qw : Wo → Prop} (hC : CI s f c n w) (hW : PW s) (e : ruA s r x = none) (h : Qw w) : MetTS m_D_rule [vr 1, vi r, vi x] w "java/util/NoSuchElementException" Qw :=
  met_ofT (by decide) exk_NS rfl ⟨rfl, rfl, by decide, by decide⟩ (Nat.le_of_ble_eq_true rfl) (d_rule hC hW (fun _ => ⟨⟨20, rfl, thr_rule0, h⟩, ⟨101, rfl, thr_rule1, h⟩⟩) (fun v2 e2 => by rw [e] at e2; cases e2))

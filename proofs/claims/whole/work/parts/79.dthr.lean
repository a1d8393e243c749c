/-! what throws in the class (by program) -/
set_option maxRecDepth 20000 in
set_option maxHeartbeats 2000000 in
theorem t_D_program_0   {w : Wo} {Q : Option AV → Wo → Prop} (h : MetI m_Rd_read [vr 4, vr 2, vr (gP w 1 3)] w (fun z3 w2 => (∀ w4 : Wo, w4 = uI w2 2 1 0 → ((¬ z3 = 0 → (∀ w8 : Wo, w8 = uP w4 1 2 (gP w4 1 3) → (∀ w10 : Wo, w10 = uP w8 1 3 (gP w4 1 2) → Q (some (vi (gI w10 ((gP w10 1 2) + 1) 0))) w10))) ∧ (z3 = 0 → Q (some (vr 28)) w4))))) : Wp m_D_program 0 [(0, vr 1)] [] (0, 0) w Q := by
  refine wp_ly (fun hly => ?_)
  refine wp_aload_n d_D_program_0 (i := 0) rfl 0 rfl ?_
  refine wp_getP d_D_program_1 fl_D_19 cl_8 rfl (ly_o hly (by decide)) (ly_r (v := 4) hly (by decide +kernel)) ?_
  refine wp_aload_n d_D_program_4 (i := 0) rfl 0 rfl ?_
  refine wp_getP d_D_program_5 fl_D_10 cl_8 rfl (ly_o hly (by decide)) (ly_r (v := 2) hly (by decide +kernel)) ?_
  refine wp_aload_n d_D_program_8 (i := 0) rfl 0 rfl ?_
  have hb1 := ly_draft hly
  refine wp_getP d_D_program_9 fl_D_30 cl_8 rfl (ly_o hly (by decide)) rfl ?_
  refine wp_callV (A := [vr 2, vr (gP w 1 3)]) (S := []) d_D_program_12 cv_D_program_45 (ly_o hly (by decide)) rfl (Nat.le_of_ble_eq_true rfl) (by decide) (MetS.mono h (fun r w2 hh => ?_))
  obtain ⟨z3, er, h⟩ := hh
  subst er
  refine wp_ly (fun hly => ?_)
  refine wp_istore_n (L' := [(1, vi z3), (0, vr 1)]) d_D_program_15 (i := 1) rfl rfl (by decide) ?_
  refine wp_aload_n d_D_program_16 (i := 0) rfl 1 rfl ?_
  refine wp_getP d_D_program_17 fl_D_10 cl_8 rfl (ly_o hly (by decide)) (ly_r (v := 2) hly (by decide +kernel)) ?_
  refine wp_iconst d_D_program_20 (by decide) ?_
  refine wp_putI d_D_program_21 fl_D_33 cl_6 ⟨rfl, rfl⟩ (ly_o hly (by decide)) (fun w4 e5 => ?_)
  replace h := h w4 e5
  refine wp_ly (fun hly => ?_)
  refine wp_iload_n d_D_program_24 (i := 1) rfl 0 rfl ?_
  refine wp_if_ne (tgt := 38) d_D_program_25 (by decide) (fun hc => ?_) (fun hc => ?_)
  · replace h := h.1 hc
    refine wp_aload_n d_D_program_38 (i := 0) rfl 1 rfl ?_
    have hb6 := ly_book hly
    refine wp_getP d_D_program_39 fl_D_26 cl_8 rfl (ly_o hly (by decide)) rfl ?_
    refine wp_astore_n (L' := [(2, vr (gP w4 1 2)), (1, vi z3), (0, vr 1)]) d_D_program_42 (i := 2) rfl rfl (by decide) ?_
    refine wp_aload_n d_D_program_43 (i := 0) rfl 2 rfl ?_
    refine wp_aload_n d_D_program_44 (i := 0) rfl 2 rfl ?_
    have hb7 := ly_draft hly
    refine wp_getP d_D_program_45 fl_D_30 cl_8 rfl (ly_o hly (by decide)) rfl ?_
    refine wp_putP d_D_program_48 fl_D_26 (Or.inl rfl) (Or.inl rfl) cl_8 ⟨rfl, by first | exact Or.inl ⟨_, rfl⟩ | exact Or.inr ⟨_, rfl⟩⟩ (ly_o hly (by decide)) (fun _ hl => ly_pbook hl hb7) (fun w8 e9 => ?_)
    replace h := h w8 e9
    refine wp_ly (fun hly => ?_)
    refine wp_aload_n d_D_program_51 (i := 0) rfl 2 rfl ?_
    refine wp_aload_n d_D_program_52 (i := 2) rfl 0 rfl ?_
    refine wp_putP d_D_program_53 fl_D_30 (Or.inl rfl) (Or.inl rfl) cl_8 ⟨rfl, by first | exact Or.inl ⟨_, rfl⟩ | exact Or.inr ⟨_, rfl⟩⟩ (ly_o hly (by decide)) (fun _ hl => ly_pdraft hl hb6) (fun w10 e11 => ?_)
    replace h := h w10 e11
    refine wp_ly (fun hly => ?_)
    refine wp_aload_n d_D_program_56 (i := 0) rfl 2 rfl ?_
    have hb12 := ly_book hly
    refine wp_getP d_D_program_57 fl_D_26 cl_8 rfl (ly_o hly (by decide)) rfl ?_
    refine wp_getP d_D_program_60 fl_D_56 cl_0 rfl (ly_o hly (bk_o hb12)) (bk_r0 hly hb12) ?_
    refine wp_getI d_D_program_63 fl_D_60 cl_5 rfl (ly_o hly (rl_o (bk_m0 hb12))) ?_
    exact wp_iret d_D_program_66 rfl (by decide) h
  · replace h := h.2 hc
    exact wp_throw rfl (by decide) h
theorem sw_D_rule_31 {y : Int} (h0 : ¬ y = 0) (h1 : ¬ y = 1) (h2 : ¬ y = 2) (h3 : ¬ y = 3) (h4 : ¬ y = 4) : y < 0 ∨ 4 < y := by omega
set_option maxRecDepth 20000 in
set_option maxHeartbeats 2000000 in
theorem t_D_rule_0 {x1 : Int} {x2 : Int}  {w : Wo} {Q : Option AV → Wo → Prop} (h : ((x1 < 0 → Q (some (vr 20)) w) ∧ (¬ x1 < 0 → ((x1 < (gI w ((gP w 1 2) + 1) 0) → ((x2 = 0 → (0 ≤ x1 ∧ x1 < 30) ∧ Q (some (vi (gI w (((gP w 1 2) + 1) + 1) x1.toNat))) w) ∧ (x2 = 1 → (0 ≤ x1 ∧ x1 < 30) ∧ Q (some (vi (gI w (((gP w 1 2) + 1) + 2) x1.toNat))) w) ∧ (x2 = 2 → (0 ≤ x1 ∧ x1 < 30) ∧ Q (some (vi (gI w (((gP w 1 2) + 1) + 3) x1.toNat))) w) ∧ (x2 = 3 → (0 ≤ x1 ∧ x1 < 30) ∧ Q (some (vi (gI w (((gP w 1 2) + 1) + 4) x1.toNat))) w) ∧ (x2 = 4 → MetI m_Bk_circles [vr (gP w 1 2), vi x1] w (fun z8 w7 => Q (some (vi z8)) w7)) ∧ (¬ x2 = 0 → ¬ x2 = 1 → ¬ x2 = 2 → ¬ x2 = 3 → ¬ x2 = 4 → Q (some (vr 101)) w))) ∧ (¬ x1 < (gI w ((gP w 1 2) + 1) 0) → Q (some (vr 20)) w))))) : Wp m_D_rule 0 [(0, vr 1), (1, vi x1), (2, vi x2)] [] (0, 0) w Q := by
  refine wp_ly (fun hly => ?_)
  refine wp_aload_n d_D_rule_0 (i := 0) rfl 0 rfl ?_
  have hb1 := ly_book hly
  refine wp_getP d_D_rule_1 fl_D_26 cl_8 rfl (ly_o hly (by decide)) rfl ?_
  refine wp_getP d_D_rule_4 fl_D_56 cl_0 rfl (ly_o hly (bk_o hb1)) (bk_r0 hly hb1) ?_
  refine wp_astore_n (L' := [(3, vr ((gP w 1 2) + 1)), (0, vr 1), (1, vi x1), (2, vi x2)]) d_D_rule_7 (i := 3) rfl rfl (by decide) ?_
  refine wp_iload_n d_D_rule_8 (i := 1) rfl 2 rfl ?_
  refine wp_if_lt (tgt := 20) d_D_rule_9 (by decide) (fun hc => ?_) (fun hc => ?_)
  · replace h := h.1 hc
    exact wp_throw rfl (by decide) h
  · replace h := h.2 hc
    refine wp_iload_n d_D_rule_12 (i := 1) rfl 2 rfl ?_
    refine wp_aload_n d_D_rule_13 (i := 3) rfl 0 rfl ?_
    refine wp_getI d_D_rule_14 fl_D_60 cl_5 rfl (ly_o hly (rl_o (bk_m0 hb1))) ?_
    refine wp_icmp_lt (tgt := 30) d_D_rule_17 (by decide) (fun hc => ?_) (fun hc => ?_)
    · replace h := h.1 hc
      refine wp_iload_n d_D_rule_30 (i := 2) rfl 3 rfl ?_
      by_cases hc0 : x2 = 0
      · replace h := h.1 hc0
        refine wp_tsw d_D_rule_31 (by decide) 64 (by rw [hc0]; decide) ?_
        refine wp_aload_n d_D_rule_64 (i := 3) rfl 0 rfl ?_
        refine wp_getP d_D_rule_65 fl_D_105 cl_5 rfl (ly_o hly (rl_o (bk_m0 hb1))) (rl_r1 hly (bk_m0 hb1)) ?_
        refine wp_iload_n d_D_rule_68 (i := 1) rfl 2 rfl ?_
        obtain ⟨hi2, h⟩ := h
        refine wp_iaload d_D_rule_69 (ly_a (n := 30) (N := 30) hly (rl_a1 (bk_m0 hb1)) hi2) ?_
        exact wp_iret d_D_rule_70 rfl (by decide) h
      replace h := h.2
      by_cases hc1 : x2 = 1
      · replace h := h.1 hc1
        refine wp_tsw d_D_rule_31 (by decide) 71 (by rw [hc1]; decide) ?_
        refine wp_aload_n d_D_rule_71 (i := 3) rfl 0 rfl ?_
        refine wp_getP d_D_rule_72 fl_D_108 cl_5 rfl (ly_o hly (rl_o (bk_m0 hb1))) (rl_r2 hly (bk_m0 hb1)) ?_
        refine wp_iload_n d_D_rule_75 (i := 1) rfl 2 rfl ?_
        obtain ⟨hi3, h⟩ := h
        refine wp_iaload d_D_rule_76 (ly_a (n := 30) (N := 30) hly (rl_a2 (bk_m0 hb1)) hi3) ?_
        exact wp_iret d_D_rule_77 rfl (by decide) h
      replace h := h.2
      by_cases hc2 : x2 = 2
      · replace h := h.1 hc2
        refine wp_tsw d_D_rule_31 (by decide) 78 (by rw [hc2]; decide) ?_
        refine wp_aload_n d_D_rule_78 (i := 3) rfl 0 rfl ?_
        refine wp_getP d_D_rule_79 fl_D_109 cl_5 rfl (ly_o hly (rl_o (bk_m0 hb1))) (rl_r3 hly (bk_m0 hb1)) ?_
        refine wp_iload_n d_D_rule_82 (i := 1) rfl 2 rfl ?_
        obtain ⟨hi4, h⟩ := h
        refine wp_iaload d_D_rule_83 (ly_a (n := 30) (N := 30) hly (rl_a3 (bk_m0 hb1)) hi4) ?_
        exact wp_iret d_D_rule_84 rfl (by decide) h
      replace h := h.2
      by_cases hc3 : x2 = 3
      · replace h := h.1 hc3
        refine wp_tsw d_D_rule_31 (by decide) 85 (by rw [hc3]; decide) ?_
        refine wp_aload_n d_D_rule_85 (i := 3) rfl 0 rfl ?_
        refine wp_getP d_D_rule_86 fl_D_112 cl_5 rfl (ly_o hly (rl_o (bk_m0 hb1))) (rl_r4 hly (bk_m0 hb1)) ?_
        refine wp_iload_n d_D_rule_89 (i := 1) rfl 2 rfl ?_
        obtain ⟨hi5, h⟩ := h
        refine wp_iaload d_D_rule_90 (ly_a (n := 30) (N := 30) hly (rl_a4 (bk_m0 hb1)) hi5) ?_
        exact wp_iret d_D_rule_91 rfl (by decide) h
      replace h := h.2
      by_cases hc4 : x2 = 4
      · replace h := h.1 hc4
        refine wp_tsw d_D_rule_31 (by decide) 92 (by rw [hc4]; decide) ?_
        refine wp_aload_n d_D_rule_92 (i := 0) rfl 1 rfl ?_
        have hb6 := ly_book hly
        refine wp_getP d_D_rule_93 fl_D_26 cl_8 rfl (ly_o hly (by decide)) rfl ?_
        refine wp_iload_n d_D_rule_96 (i := 1) rfl 2 rfl ?_
        refine wp_callV (A := [vi x1]) (S := []) d_D_rule_97 cv_D_rule_115 (ly_o hly (bk_o hb6)) rfl (Nat.le_of_ble_eq_true rfl) (by decide) (MetS.mono h (fun r w7 hh => ?_))
        obtain ⟨z8, er, h⟩ := hh
        subst er
        refine wp_ly (fun hly => ?_)
        exact wp_iret d_D_rule_100 rfl (by decide) h
      replace h := h.2
      replace h := h hc0 hc1 hc2 hc3 hc4
      have hsw := sw_D_rule_31 hc0 hc1 hc2 hc3 hc4
      refine wp_tsw d_D_rule_31 (by decide) 101 (by rcases hsw with hsw | hsw <;> first | (rw [swT_lo hsw]; decide) | (rw [swT_hi hsw]; decide) | (rw [hsw]; decide)) ?_
      exact wp_throw rfl (by decide) h
    · replace h := h.2 hc
      exact wp_throw rfl (by decide) h
theorem sw_D_literal_71 {y : Int} (h0 : ¬ y = 0) (h1 : ¬ y = 1) (h2 : ¬ y = 2) (h3 : ¬ y = 3) (h4 : ¬ y = 4) : y < 0 ∨ 4 < y := by omega
set_option maxRecDepth 20000 in
set_option maxHeartbeats 2000000 in
theorem t_D_literal_0 {x1 : Int} {x2 : Int} {x3 : Int}  {w : Wo} {Q : Option AV → Wo → Prop} (h : ((x1 < 0 → Q (some (vr 37)) w) ∧ (¬ x1 < 0 → (((gI w ((gP w 1 2) + 1) 0) ≤ x1 → Q (some (vr 37)) w) ∧ (¬ (gI w ((gP w 1 2) + 1) 0) ≤ x1 → ((x2 < 0 → Q (some (vr 37)) w) ∧ (¬ x2 < 0 → (0 ≤ x1 ∧ x1 < 30) ∧ ((x2 < (gI w (((gP w 1 2) + 1) + 2) x1.toNat) → inr32 (x1 * 6) ∧ inr32 ((x1 * 6) + x2) ∧ inr32 (x1 * 6) ∧ (0 ≤ ((x1 * 6) + x2) ∧ ((x1 * 6) + x2) < 180) ∧ inr32 ((x1 * 6) + (gI w (((gP w 1 2) + 1) + 9) ((x1 * 6) + x2).toNat)) ∧ ((x3 = 0 → (0 ≤ ((x1 * 6) + x2) ∧ ((x1 * 6) + x2) < 180) ∧ Q (some (vi (gI w (((gP w 1 2) + 1) + 9) ((x1 * 6) + x2).toNat))) w) ∧ (x3 = 1 → (0 ≤ ((x1 * 6) + (gI w (((gP w 1 2) + 1) + 9) ((x1 * 6) + x2).toNat)) ∧ ((x1 * 6) + (gI w (((gP w 1 2) + 1) + 9) ((x1 * 6) + x2).toNat)) < 180) ∧ Q (some (vi (gI w (((gP w 1 2) + 1) + 6) ((x1 * 6) + (gI w (((gP w 1 2) + 1) + 9) ((x1 * 6) + x2).toNat)).toNat))) w) ∧ (x3 = 2 → (0 ≤ ((x1 * 6) + (gI w (((gP w 1 2) + 1) + 9) ((x1 * 6) + x2).toNat)) ∧ ((x1 * 6) + (gI w (((gP w 1 2) + 1) + 9) ((x1 * 6) + x2).toNat)) < 180) ∧ Q (some (vi (gI w (((gP w 1 2) + 1) + 7) ((x1 * 6) + (gI w (((gP w 1 2) + 1) + 9) ((x1 * 6) + x2).toNat)).toNat))) w) ∧ (x3 = 3 → (0 ≤ ((x1 * 6) + x2) ∧ ((x1 * 6) + x2) < 180) ∧ Q (some (vi (gI w (((gP w 1 2) + 1) + 10) ((x1 * 6) + x2).toNat))) w) ∧ (x3 = 4 → (0 ≤ ((x1 * 6) + x2) ∧ ((x1 * 6) + x2) < 180) ∧ Q (some (vi (gI w (((gP w 1 2) + 1) + 11) ((x1 * 6) + x2).toNat))) w) ∧ (¬ x3 = 0 → ¬ x3 = 1 → ¬ x3 = 2 → ¬ x3 = 3 → ¬ x3 = 4 → Q (some (vr 149)) w))) ∧ (¬ x2 < (gI w (((gP w 1 2) + 1) + 2) x1.toNat) → Q (some (vr 37)) w))))))))) : Wp m_D_literal 0 [(0, vr 1), (1, vi x1), (2, vi x2), (3, vi x3)] [] (0, 0) w Q := by
  refine wp_ly (fun hly => ?_)
  refine wp_aload_n d_D_literal_0 (i := 0) rfl 0 rfl ?_
  have hb1 := ly_book hly
  refine wp_getP d_D_literal_1 fl_D_26 cl_8 rfl (ly_o hly (by decide)) rfl ?_
  refine wp_getP d_D_literal_4 fl_D_56 cl_0 rfl (ly_o hly (bk_o hb1)) (bk_r0 hly hb1) ?_
  refine wp_astore (L' := [(4, vr ((gP w 1 2) + 1)), (0, vr 1), (1, vi x1), (2, vi x2), (3, vi x3)]) d_D_literal_7 rfl (by decide) ?_
  refine wp_iload_n d_D_literal_9 (i := 1) rfl 2 rfl ?_
  refine wp_if_lt (tgt := 37) d_D_literal_10 (by decide) (fun hc => ?_) (fun hc => ?_)
  · replace h := h.1 hc
    exact wp_throw rfl (by decide) h
  · replace h := h.2 hc
    refine wp_iload_n d_D_literal_13 (i := 1) rfl 2 rfl ?_
    refine wp_aload d_D_literal_14 0 rfl ?_
    refine wp_getI d_D_literal_16 fl_D_60 cl_5 rfl (ly_o hly (rl_o (bk_m0 hb1))) ?_
    refine wp_icmp_ge (tgt := 37) d_D_literal_19 (by decide) (fun hc => ?_) (fun hc => ?_)
    · replace h := h.1 hc
      exact wp_throw rfl (by decide) h
    · replace h := h.2 hc
      refine wp_iload_n d_D_literal_22 (i := 2) rfl 3 rfl ?_
      refine wp_if_lt (tgt := 37) d_D_literal_23 (by decide) (fun hc => ?_) (fun hc => ?_)
      · replace h := h.1 hc
        exact wp_throw rfl (by decide) h
      · replace h := h.2 hc
        refine wp_iload_n d_D_literal_26 (i := 2) rfl 3 rfl ?_
        refine wp_aload d_D_literal_27 0 rfl ?_
        refine wp_getP d_D_literal_29 fl_D_108 cl_5 rfl (ly_o hly (rl_o (bk_m0 hb1))) (rl_r2 hly (bk_m0 hb1)) ?_
        refine wp_iload_n d_D_literal_32 (i := 1) rfl 2 rfl ?_
        obtain ⟨hi2, h⟩ := h
        refine wp_iaload d_D_literal_33 (ly_a (n := 30) (N := 30) hly (rl_a2 (bk_m0 hb1)) hi2) ?_
        refine wp_icmp_lt (tgt := 47) d_D_literal_34 (by decide) (fun hc => ?_) (fun hc => ?_)
        · replace h := h.1 hc
          refine wp_iload_n d_D_literal_47 (i := 1) rfl 2 rfl ?_
          refine wp_bipush d_D_literal_48 (by decide) (by decide) ?_
          obtain ⟨ho, h⟩ := h
          refine wp_imul d_D_literal_50 ho ?_
          refine wp_iload_n d_D_literal_51 (i := 2) rfl 3 rfl ?_
          obtain ⟨ho, h⟩ := h
          refine wp_iadd d_D_literal_52 ho ?_
          refine wp_istore (L' := [(5, vi ((x1 * 6) + x2)), (4, vr ((gP w 1 2) + 1)), (0, vr 1), (1, vi x1), (2, vi x2), (3, vi x3)]) d_D_literal_53 rfl (by decide) ?_
          refine wp_iload_n d_D_literal_55 (i := 1) rfl 3 rfl ?_
          refine wp_bipush d_D_literal_56 (by decide) (by decide) ?_
          obtain ⟨ho, h⟩ := h
          refine wp_imul d_D_literal_58 ho ?_
          refine wp_aload d_D_literal_59 1 rfl ?_
          refine wp_getP d_D_literal_61 fl_D_123 cl_5 rfl (ly_o hly (rl_o (bk_m0 hb1))) (rl_r9 hly (bk_m0 hb1)) ?_
          refine wp_iload d_D_literal_64 0 rfl ?_
          obtain ⟨hi3, h⟩ := h
          refine wp_iaload d_D_literal_66 (ly_a (n := 180) (N := 180) hly (rl_a9 (bk_m0 hb1)) hi3) ?_
          obtain ⟨ho, h⟩ := h
          refine wp_iadd d_D_literal_67 ho ?_
          refine wp_istore (L' := [(6, vi ((x1 * 6) + (gI w (((gP w 1 2) + 1) + 9) ((x1 * 6) + x2).toNat))), (5, vi ((x1 * 6) + x2)), (4, vr ((gP w 1 2) + 1)), (0, vr 1), (1, vi x1), (2, vi x2), (3, vi x3)]) d_D_literal_68 rfl (by decide) ?_
          refine wp_iload_n d_D_literal_70 (i := 3) rfl 6 rfl ?_
          by_cases hc0 : x3 = 0
          · replace h := h.1 hc0
            refine wp_tsw d_D_literal_71 (by decide) 104 (by rw [hc0]; decide) ?_
            refine wp_aload d_D_literal_104 2 rfl ?_
            refine wp_getP d_D_literal_106 fl_D_123 cl_5 rfl (ly_o hly (rl_o (bk_m0 hb1))) (rl_r9 hly (bk_m0 hb1)) ?_
            refine wp_iload d_D_literal_109 1 rfl ?_
            obtain ⟨hi4, h⟩ := h
            refine wp_iaload d_D_literal_111 (ly_a (n := 180) (N := 180) hly (rl_a9 (bk_m0 hb1)) hi4) ?_
            exact wp_iret d_D_literal_112 rfl (by decide) h
          replace h := h.2
          by_cases hc1 : x3 = 1
          · replace h := h.1 hc1
            refine wp_tsw d_D_literal_71 (by decide) 113 (by rw [hc1]; decide) ?_
            refine wp_aload d_D_literal_113 2 rfl ?_
            refine wp_getP d_D_literal_115 fl_D_126 cl_5 rfl (ly_o hly (rl_o (bk_m0 hb1))) (rl_r6 hly (bk_m0 hb1)) ?_
            refine wp_iload d_D_literal_118 0 rfl ?_
            obtain ⟨hi5, h⟩ := h
            refine wp_iaload d_D_literal_120 (ly_a (n := 180) (N := 180) hly (rl_a6 (bk_m0 hb1)) hi5) ?_
            exact wp_iret d_D_literal_121 rfl (by decide) h
          replace h := h.2
          by_cases hc2 : x3 = 2
          · replace h := h.1 hc2
            refine wp_tsw d_D_literal_71 (by decide) 122 (by rw [hc2]; decide) ?_
            refine wp_aload d_D_literal_122 2 rfl ?_
            refine wp_getP d_D_literal_124 fl_D_129 cl_5 rfl (ly_o hly (rl_o (bk_m0 hb1))) (rl_r7 hly (bk_m0 hb1)) ?_
            refine wp_iload d_D_literal_127 0 rfl ?_
            obtain ⟨hi6, h⟩ := h
            refine wp_iaload d_D_literal_129 (ly_a (n := 180) (N := 180) hly (rl_a7 (bk_m0 hb1)) hi6) ?_
            exact wp_iret d_D_literal_130 rfl (by decide) h
          replace h := h.2
          by_cases hc3 : x3 = 3
          · replace h := h.1 hc3
            refine wp_tsw d_D_literal_71 (by decide) 131 (by rw [hc3]; decide) ?_
            refine wp_aload d_D_literal_131 2 rfl ?_
            refine wp_getP d_D_literal_133 fl_D_132 cl_5 rfl (ly_o hly (rl_o (bk_m0 hb1))) (rl_r10 hly (bk_m0 hb1)) ?_
            refine wp_iload d_D_literal_136 1 rfl ?_
            obtain ⟨hi7, h⟩ := h
            refine wp_iaload d_D_literal_138 (ly_a (n := 180) (N := 180) hly (rl_a10 (bk_m0 hb1)) hi7) ?_
            exact wp_iret d_D_literal_139 rfl (by decide) h
          replace h := h.2
          by_cases hc4 : x3 = 4
          · replace h := h.1 hc4
            refine wp_tsw d_D_literal_71 (by decide) 140 (by rw [hc4]; decide) ?_
            refine wp_aload d_D_literal_140 2 rfl ?_
            refine wp_getP d_D_literal_142 fl_D_135 cl_5 rfl (ly_o hly (rl_o (bk_m0 hb1))) (rl_r11 hly (bk_m0 hb1)) ?_
            refine wp_iload d_D_literal_145 1 rfl ?_
            obtain ⟨hi8, h⟩ := h
            refine wp_iaload d_D_literal_147 (ly_a (n := 180) (N := 180) hly (rl_a11 (bk_m0 hb1)) hi8) ?_
            exact wp_iret d_D_literal_148 rfl (by decide) h
          replace h := h.2
          replace h := h hc0 hc1 hc2 hc3 hc4
          have hsw := sw_D_literal_71 hc0 hc1 hc2 hc3 hc4
          refine wp_tsw d_D_literal_71 (by decide) 149 (by rcases hsw with hsw | hsw <;> first | (rw [swT_lo hsw]; decide) | (rw [swT_hi hsw]; decide) | (rw [hsw]; decide)) ?_
          exact wp_throw rfl (by decide) h
        · replace h := h.2 hc
          exact wp_throw rfl (by decide) h
theorem thr_program : ThrAt m_D_program 28 "java/lang/IllegalArgumentException" := ⟨49, 51, 53, 5, _, d_D_program_28, d_D_program_31, d_D_program_32, d_D_program_34, d_D_program_37, (aw3 (i := 220) rfl rfl), (aw4 (i := 21) rfl rfl), rfl⟩
theorem thr_rule0 : ThrAt m_D_rule 20 "java/util/NoSuchElementException" := ⟨100, 102, 104, 6, _, d_D_rule_20, d_D_rule_23, d_D_rule_24, d_D_rule_26, d_D_rule_29, (aw4 (i := 54) rfl rfl), (aw4 (i := 64) rfl rfl), rfl⟩
theorem thr_rule1 : ThrAt m_D_rule 101 "java/util/NoSuchElementException" := ⟨100, 119, 104, 7, _, d_D_rule_101, d_D_rule_104, d_D_rule_105, d_D_rule_107, d_D_rule_110, (aw4 (i := 54) rfl rfl), (aw4 (i := 64) rfl rfl), rfl⟩
theorem thr_lit0 : ThrAt m_D_literal 37 "java/util/NoSuchElementException" := ⟨100, 121, 104, 8, _, d_D_literal_37, d_D_literal_40, d_D_literal_41, d_D_literal_43, d_D_literal_46, (aw4 (i := 54) rfl rfl), (aw4 (i := 64) rfl rfl), rfl⟩
theorem thr_lit1 : ThrAt m_D_literal 149 "java/util/NoSuchElementException" := ⟨100, 138, 104, 9, _, d_D_literal_149, d_D_literal_152, d_D_literal_153, d_D_literal_155, d_D_literal_158, (aw4 (i := 54) rfl rfl), (aw4 (i := 64) rfl rfl), rfl⟩

set_option maxRecDepth 20000 in
set_option maxHeartbeats 2000000 in
theorem t_Bk_clear_0 {r0 : Nat} (hr0 : isBk r0) {w : Wo} {Q : Option AV → Wo → Prop} (h : (∀ w1 : Wo, w1 = uI w r0 1 0 → (∀ w3 : Wo, w3 = uI w1 (r0 + 1) 0 0 → Q none w3))) : Wp m_Bk_clear 0 [(0, vr r0)] [] (0, 0) w Q := by
  refine wp_ly (fun hly => ?_)
  refine wp_aload_n d_Bk_clear_0 (i := 0) rfl 0 rfl ?_
  refine wp_iconst d_Bk_clear_1 (by decide) ?_
  refine wp_putI d_Bk_clear_2 fl_Bk_38 cl_0 ⟨rfl, rfl⟩ (ly_o hly (bk_o hr0)) (fun w1 e2 => ?_)
  replace h := h w1 e2
  refine wp_ly (fun hly => ?_)
  refine wp_aload_n d_Bk_clear_5 (i := 0) rfl 0 rfl ?_
  refine wp_getP d_Bk_clear_6 fl_Bk_12 cl_0 rfl (ly_o hly (bk_o hr0)) (bk_r0 hly hr0) ?_
  refine wp_iconst d_Bk_clear_9 (by decide) ?_
  refine wp_putI d_Bk_clear_10 fl_Bk_42 cl_5 ⟨rfl, rfl⟩ (ly_o hly (rl_o (bk_m0 hr0))) (fun w3 e4 => ?_)
  replace h := h w3 e4
  refine wp_ly (fun hly => ?_)
  exact wp_vret d_Bk_clear_13 rfl (by decide) h
set_option maxRecDepth 20000 in
set_option maxHeartbeats 2000000 in
theorem t_Bk_numberOf_0 {r0 : Nat} {y1 : Int} (hr0 : isBk r0) {w : Wo} {Q : Option AV → Wo → Prop} (h : Wp m_Bk_numberOf 2 [(0, vr r0), (1, vl y1), (3, vi 0)] [] (0, 0) w Q) : Wp m_Bk_numberOf 0 [(0, vr r0), (1, vl y1)] [] (0, 0) w Q := by
  refine wp_ly (fun hly => ?_)
  refine wp_iconst d_Bk_numberOf_0 (by decide) ?_
  refine wp_istore_n (L' := [(3, vi 0), (0, vr r0), (1, vl y1)]) d_Bk_numberOf_1 (i := 3) rfl rfl (by decide) ?_
  exact wp_pick [1, 2, 0] rfl h
set_option maxRecDepth 20000 in
set_option maxHeartbeats 2000000 in
theorem t_Bk_numberOf_2 {r0 : Nat} {y1 : Int} {x3 : Int} (hr0 : isBk r0) {w : Wo} {Q : Option AV → Wo → Prop} (h : (((gI w r0 1) ≤ x3 → (((gI w r0 1) < 16 → (0 ≤ (gI w r0 1) ∧ (gI w r0 1) < 16) ∧ (∀ w2 : Wo, w2 = uJ w (r0 + 13) (gI w r0 1).toNat y1 → (0 ≤ (gI w2 r0 1) ∧ (gI w2 r0 1) < 16) ∧ (∀ w5 : Wo, w5 = uI w2 (r0 + 14) (gI w2 r0 1).toNat 0 → (0 ≤ (gI w5 r0 1) ∧ (gI w5 r0 1) < 16) ∧ (∀ w8 : Wo, w8 = uI w5 (r0 + 15) (gI w5 r0 1).toNat 0 → (0 ≤ (gI w8 r0 1) ∧ (gI w8 r0 1) < 16) ∧ (∀ w11 : Wo, w11 = uI w8 (r0 + 16) (gI w8 r0 1).toNat 0 → (0 ≤ (gI w11 r0 1) ∧ (gI w11 r0 1) < 16) ∧ (∀ w14 : Wo, w14 = uI w11 (r0 + 17) (gI w11 r0 1).toNat 0 → (0 ≤ (gI w14 r0 1) ∧ (gI w14 r0 1) < 16) ∧ (∀ w17 : Wo, w17 = uI w14 (r0 + 18) (gI w14 r0 1).toNat 0 → inr32 ((gI w17 r0 1) + 1) ∧ (∀ w19 : Wo, w19 = uI w17 r0 1 ((gI w17 r0 1) + 1) → inr32 ((gI w19 r0 1) - 1) ∧ Q (some (vi ((gI w19 r0 1) - 1))) w19)))))))) ∧ (¬ (gI w r0 1) < 16 → Q (some (vi (-1))) w))) ∧ (¬ (gI w r0 1) ≤ x3 → (0 ≤ x3 ∧ x3 < 16) ∧ ((¬ (b_lcmp (gJ w (r0 + 13) x3.toNat) y1) = 0 → inr32 (x3 + 1) ∧ Wp m_Bk_numberOf 2 [(0, vr r0), (1, vl y1), (3, vi (x3 + 1))] [] (0, 0) w Q) ∧ ((b_lcmp (gJ w (r0 + 13) x3.toNat) y1) = 0 → Q (some (vi x3)) w))))) : Wp m_Bk_numberOf 2 [(0, vr r0), (1, vl y1), (3, vi x3)] [] (0, 0) w Q := by
  refine wp_ly (fun hly => ?_)
  refine wp_iload_n d_Bk_numberOf_2 (i := 3) rfl 2 rfl ?_
  refine wp_aload_n d_Bk_numberOf_3 (i := 0) rfl 0 rfl ?_
  refine wp_getI d_Bk_numberOf_4 fl_Bk_38 cl_0 rfl (ly_o hly (bk_o hr0)) ?_
  refine wp_icmp_ge (tgt := 29) d_Bk_numberOf_7 (by decide) (fun hc => ?_) (fun hc => ?_)
  · replace h := h.1 hc
    refine wp_aload_n d_Bk_numberOf_29 (i := 0) rfl 0 rfl ?_
    refine wp_getI d_Bk_numberOf_30 fl_Bk_38 cl_0 rfl (ly_o hly (bk_o hr0)) ?_
    refine wp_bipush d_Bk_numberOf_33 (by decide) (by decide) ?_
    refine wp_icmp_lt (tgt := 40) d_Bk_numberOf_35 (by decide) (fun hc => ?_) (fun hc => ?_)
    · replace h := h.1 hc
      refine wp_aload_n d_Bk_numberOf_40 (i := 0) rfl 0 rfl ?_
      refine wp_getP d_Bk_numberOf_41 fl_Bk_18 cl_0 rfl (ly_o hly (bk_o hr0)) (bk_r2 hly hr0) ?_
      refine wp_aload_n d_Bk_numberOf_44 (i := 0) rfl 0 rfl ?_
      refine wp_getI d_Bk_numberOf_45 fl_Bk_38 cl_0 rfl (ly_o hly (bk_o hr0)) ?_
      refine wp_lload_n d_Bk_numberOf_48 (i := 1) rfl 1 rfl ?_
      obtain ⟨hi1, h⟩ := h
      refine wp_lastore d_Bk_numberOf_49 (ly_a (n := 16) (N := 16) hly (bk_a2 hr0) hi1) (fun w2 e3 => ?_)
      replace h := h w2 e3
      refine wp_ly (fun hly => ?_)
      refine wp_aload_n d_Bk_numberOf_50 (i := 0) rfl 0 rfl ?_
      refine wp_getP d_Bk_numberOf_51 fl_Bk_22 cl_0 rfl (ly_o hly (bk_o hr0)) (bk_r3 hly hr0) ?_
      refine wp_aload_n d_Bk_numberOf_54 (i := 0) rfl 0 rfl ?_
      refine wp_getI d_Bk_numberOf_55 fl_Bk_38 cl_0 rfl (ly_o hly (bk_o hr0)) ?_
      refine wp_iconst d_Bk_numberOf_58 (by decide) ?_
      obtain ⟨hi4, h⟩ := h
      refine wp_iastore d_Bk_numberOf_59 (ly_a (n := 16) (N := 16) hly (bk_a3 hr0) hi4) (fun w5 e6 => ?_)
      replace h := h w5 e6
      refine wp_ly (fun hly => ?_)
      refine wp_aload_n d_Bk_numberOf_60 (i := 0) rfl 0 rfl ?_
      refine wp_getP d_Bk_numberOf_61 fl_Bk_26 cl_0 rfl (ly_o hly (bk_o hr0)) (bk_r4 hly hr0) ?_
      refine wp_aload_n d_Bk_numberOf_64 (i := 0) rfl 0 rfl ?_
      refine wp_getI d_Bk_numberOf_65 fl_Bk_38 cl_0 rfl (ly_o hly (bk_o hr0)) ?_
      refine wp_iconst d_Bk_numberOf_68 (by decide) ?_
      obtain ⟨hi7, h⟩ := h
      refine wp_iastore d_Bk_numberOf_69 (ly_a (n := 16) (N := 16) hly (bk_a4 hr0) hi7) (fun w8 e9 => ?_)
      replace h := h w8 e9
      refine wp_ly (fun hly => ?_)
      refine wp_aload_n d_Bk_numberOf_70 (i := 0) rfl 0 rfl ?_
      refine wp_getP d_Bk_numberOf_71 fl_Bk_29 cl_0 rfl (ly_o hly (bk_o hr0)) (bk_r5 hly hr0) ?_
      refine wp_aload_n d_Bk_numberOf_74 (i := 0) rfl 0 rfl ?_
      refine wp_getI d_Bk_numberOf_75 fl_Bk_38 cl_0 rfl (ly_o hly (bk_o hr0)) ?_
      refine wp_iconst d_Bk_numberOf_78 (by decide) ?_
      obtain ⟨hi10, h⟩ := h
      refine wp_iastore d_Bk_numberOf_79 (ly_a (n := 16) (N := 16) hly (bk_a5 hr0) hi10) (fun w11 e12 => ?_)
      replace h := h w11 e12
      refine wp_ly (fun hly => ?_)
      refine wp_aload_n d_Bk_numberOf_80 (i := 0) rfl 0 rfl ?_
      refine wp_getP d_Bk_numberOf_81 fl_Bk_32 cl_0 rfl (ly_o hly (bk_o hr0)) (bk_r6 hly hr0) ?_
      refine wp_aload_n d_Bk_numberOf_84 (i := 0) rfl 0 rfl ?_
      refine wp_getI d_Bk_numberOf_85 fl_Bk_38 cl_0 rfl (ly_o hly (bk_o hr0)) ?_
      refine wp_iconst d_Bk_numberOf_88 (by decide) ?_
      obtain ⟨hi13, h⟩ := h
      refine wp_iastore d_Bk_numberOf_89 (ly_a (n := 16) (N := 16) hly (bk_a6 hr0) hi13) (fun w14 e15 => ?_)
      replace h := h w14 e15
      refine wp_ly (fun hly => ?_)
      refine wp_aload_n d_Bk_numberOf_90 (i := 0) rfl 0 rfl ?_
      refine wp_getP d_Bk_numberOf_91 fl_Bk_35 cl_0 rfl (ly_o hly (bk_o hr0)) (bk_r7 hly hr0) ?_
      refine wp_aload_n d_Bk_numberOf_94 (i := 0) rfl 0 rfl ?_
      refine wp_getI d_Bk_numberOf_95 fl_Bk_38 cl_0 rfl (ly_o hly (bk_o hr0)) ?_
      refine wp_iconst d_Bk_numberOf_98 (by decide) ?_
      obtain ⟨hi16, h⟩ := h
      refine wp_iastore d_Bk_numberOf_99 (ly_a (n := 16) (N := 16) hly (bk_a7 hr0) hi16) (fun w17 e18 => ?_)
      replace h := h w17 e18
      refine wp_ly (fun hly => ?_)
      refine wp_aload_n d_Bk_numberOf_100 (i := 0) rfl 0 rfl ?_
      refine wp_dup d_Bk_numberOf_101 rfl ?_
      refine wp_getI d_Bk_numberOf_102 fl_Bk_38 cl_0 rfl (ly_o hly (bk_o hr0)) ?_
      refine wp_iconst d_Bk_numberOf_105 (by decide) ?_
      obtain ⟨ho, h⟩ := h
      refine wp_iadd d_Bk_numberOf_106 ho ?_
      refine wp_putI d_Bk_numberOf_107 fl_Bk_38 cl_0 ⟨rfl, rfl⟩ (ly_o hly (bk_o hr0)) (fun w19 e20 => ?_)
      replace h := h w19 e20
      refine wp_ly (fun hly => ?_)
      refine wp_aload_n d_Bk_numberOf_110 (i := 0) rfl 0 rfl ?_
      refine wp_getI d_Bk_numberOf_111 fl_Bk_38 cl_0 rfl (ly_o hly (bk_o hr0)) ?_
      refine wp_iconst d_Bk_numberOf_114 (by decide) ?_
      obtain ⟨ho, h⟩ := h
      refine wp_isub d_Bk_numberOf_115 ho ?_
      exact wp_iret d_Bk_numberOf_116 rfl (by decide) h
    · replace h := h.2 hc
      refine wp_iconst d_Bk_numberOf_38 (by decide) ?_
      exact wp_iret d_Bk_numberOf_39 rfl (by decide) h
  · replace h := h.2 hc
    refine wp_aload_n d_Bk_numberOf_10 (i := 0) rfl 0 rfl ?_
    refine wp_getP d_Bk_numberOf_11 fl_Bk_18 cl_0 rfl (ly_o hly (bk_o hr0)) (bk_r2 hly hr0) ?_
    refine wp_iload_n d_Bk_numberOf_14 (i := 3) rfl 2 rfl ?_
    obtain ⟨hi21, h⟩ := h
    refine wp_laload d_Bk_numberOf_15 (ly_a (n := 16) (N := 16) hly (bk_a2 hr0) hi21) ?_
    refine wp_lload_n d_Bk_numberOf_16 (i := 1) rfl 1 rfl ?_
    refine wp_lcmp d_Bk_numberOf_17 ?_
    refine wp_if_ne (tgt := 23) d_Bk_numberOf_18 (by decide) (fun hc => ?_) (fun hc => ?_)
    · replace h := h.1 hc
      obtain ⟨ho, h⟩ := h
      refine wp_iinc (L' := [(3, vi (x3 + 1)), (0, vr r0), (1, vl y1)]) d_Bk_numberOf_23 2 rfl rfl (by decide) ho ?_
      refine wp_goto (tgt := 2) d_Bk_numberOf_26 (by decide) ?_
      exact wp_pick [1, 2, 0] rfl h
    · replace h := h.2 hc
      refine wp_iload_n d_Bk_numberOf_21 (i := 3) rfl 2 rfl ?_
      exact wp_iret d_Bk_numberOf_22 rfl (by decide) h
set_option maxRecDepth 20000 in
set_option maxHeartbeats 2000000 in
theorem t_Bk_agrees_0 {r0 : Nat} {x1 : Int} {x2 : Int} (hr0 : isBk r0) {w : Wo} {Q : Option AV → Wo → Prop} (h : ((x1 < 0 → Q (some (vi 0)) w) ∧ (¬ x1 < 0 → ((x1 < (gI w r0 1) → (0 ≤ x1 ∧ x1 < 16) ∧ ((¬ (gI w (r0 + 14) x1.toNat) = 0 → (0 ≤ x1 ∧ x1 < 16) ∧ ((¬ (gI w (r0 + 14) x1.toNat) = x2 → Q (some (vi 0)) w) ∧ ((gI w (r0 + 14) x1.toNat) = x2 → Q (some (vi 1)) w))) ∧ ((gI w (r0 + 14) x1.toNat) = 0 → (0 ≤ x1 ∧ x1 < 16) ∧ (∀ w4 : Wo, w4 = uI w (r0 + 14) x1.toNat x2 → (0 ≤ x1 ∧ x1 < 16) ∧ ((¬ (gI w4 (r0 + 14) x1.toNat) = x2 → Q (some (vi 0)) w4) ∧ ((gI w4 (r0 + 14) x1.toNat) = x2 → Q (some (vi 1)) w4)))))) ∧ (¬ x1 < (gI w r0 1) → Q (some (vi 0)) w))))) : Wp m_Bk_agrees 0 [(0, vr r0), (1, vi x1), (2, vi x2)] [] (0, 0) w Q := by
  refine wp_ly (fun hly => ?_)
  refine wp_iload_n d_Bk_agrees_0 (i := 1) rfl 1 rfl ?_
  refine wp_if_lt (tgt := 12) d_Bk_agrees_1 (by decide) (fun hc => ?_) (fun hc => ?_)
  · replace h := h.1 hc
    refine wp_iconst d_Bk_agrees_12 (by decide) ?_
    exact wp_zret d_Bk_agrees_13 rfl (by decide) (by decide) h
  · replace h := h.2 hc
    refine wp_iload_n d_Bk_agrees_4 (i := 1) rfl 1 rfl ?_
    refine wp_aload_n d_Bk_agrees_5 (i := 0) rfl 0 rfl ?_
    refine wp_getI d_Bk_agrees_6 fl_Bk_38 cl_0 rfl (ly_o hly (bk_o hr0)) ?_
    refine wp_icmp_lt (tgt := 14) d_Bk_agrees_9 (by decide) (fun hc => ?_) (fun hc => ?_)
    · replace h := h.1 hc
      refine wp_aload_n d_Bk_agrees_14 (i := 0) rfl 0 rfl ?_
      refine wp_getP d_Bk_agrees_15 fl_Bk_22 cl_0 rfl (ly_o hly (bk_o hr0)) (bk_r3 hly hr0) ?_
      refine wp_iload_n d_Bk_agrees_18 (i := 1) rfl 1 rfl ?_
      obtain ⟨hi1, h⟩ := h
      refine wp_iaload d_Bk_agrees_19 (ly_a (n := 16) (N := 16) hly (bk_a3 hr0) hi1) ?_
      refine wp_if_ne (tgt := 30) d_Bk_agrees_20 (by decide) (fun hc => ?_) (fun hc => ?_)
      · replace h := h.1 hc
        refine wp_aload_n d_Bk_agrees_30 (i := 0) rfl 0 rfl ?_
        refine wp_getP d_Bk_agrees_31 fl_Bk_22 cl_0 rfl (ly_o hly (bk_o hr0)) (bk_r3 hly hr0) ?_
        refine wp_iload_n d_Bk_agrees_34 (i := 1) rfl 1 rfl ?_
        obtain ⟨hi2, h⟩ := h
        refine wp_iaload d_Bk_agrees_35 (ly_a (n := 16) (N := 16) hly (bk_a3 hr0) hi2) ?_
        refine wp_iload_n d_Bk_agrees_36 (i := 2) rfl 2 rfl ?_
        refine wp_icmp_ne (tgt := 44) d_Bk_agrees_37 (by decide) (fun hc => ?_) (fun hc => ?_)
        · replace h := h.1 hc
          refine wp_iconst d_Bk_agrees_44 (by decide) ?_
          exact wp_zret d_Bk_agrees_45 rfl (by decide) (by decide) h
        · replace h := h.2 hc
          refine wp_iconst d_Bk_agrees_40 (by decide) ?_
          refine wp_goto (tgt := 45) d_Bk_agrees_41 (by decide) ?_
          exact wp_zret d_Bk_agrees_45 rfl (by decide) (by decide) h
      · replace h := h.2 hc
        refine wp_aload_n d_Bk_agrees_23 (i := 0) rfl 0 rfl ?_
        refine wp_getP d_Bk_agrees_24 fl_Bk_22 cl_0 rfl (ly_o hly (bk_o hr0)) (bk_r3 hly hr0) ?_
        refine wp_iload_n d_Bk_agrees_27 (i := 1) rfl 1 rfl ?_
        refine wp_iload_n d_Bk_agrees_28 (i := 2) rfl 2 rfl ?_
        obtain ⟨hi3, h⟩ := h
        refine wp_iastore d_Bk_agrees_29 (ly_a (n := 16) (N := 16) hly (bk_a3 hr0) hi3) (fun w4 e5 => ?_)
        replace h := h w4 e5
        refine wp_ly (fun hly => ?_)
        refine wp_aload_n d_Bk_agrees_30 (i := 0) rfl 0 rfl ?_
        refine wp_getP d_Bk_agrees_31 fl_Bk_22 cl_0 rfl (ly_o hly (bk_o hr0)) (bk_r3 hly hr0) ?_
        refine wp_iload_n d_Bk_agrees_34 (i := 1) rfl 1 rfl ?_
        obtain ⟨hi6, h⟩ := h
        refine wp_iaload d_Bk_agrees_35 (ly_a (n := 16) (N := 16) hly (bk_a3 hr0) hi6) ?_
        refine wp_iload_n d_Bk_agrees_36 (i := 2) rfl 2 rfl ?_
        refine wp_icmp_ne (tgt := 44) d_Bk_agrees_37 (by decide) (fun hc => ?_) (fun hc => ?_)
        · replace h := h.1 hc
          refine wp_iconst d_Bk_agrees_44 (by decide) ?_
          exact wp_zret d_Bk_agrees_45 rfl (by decide) (by decide) h
        · replace h := h.2 hc
          refine wp_iconst d_Bk_agrees_40 (by decide) ?_
          refine wp_goto (tgt := 45) d_Bk_agrees_41 (by decide) ?_
          exact wp_zret d_Bk_agrees_45 rfl (by decide) (by decide) h
    · replace h := h.2 hc
      refine wp_iconst d_Bk_agrees_12 (by decide) ?_
      exact wp_zret d_Bk_agrees_13 rfl (by decide) (by decide) h
set_option maxRecDepth 20000 in
set_option maxHeartbeats 2000000 in
theorem t_Bk_addRule_0 {r0 : Nat} (hr0 : isBk r0) {w : Wo} {Q : Option AV → Wo → Prop} (h : (((gI w 10 2) < 0 → Q none w) ∧ (¬ (gI w 10 2) < 0 → (((gI w 10 2) < (gI w r0 1) → MetV m_Rl_add [vr (r0 + 1), vr 9] w (fun w1 => (0 ≤ (gI w 10 2) ∧ (gI w 10 2) < 16) ∧ inr32 ((gI w1 (r0 + 15) (gI w 10 2).toNat) + 1) ∧ (0 ≤ (gI w 10 2) ∧ (gI w 10 2) < 16) ∧ (∀ w4 : Wo, w4 = uI w1 (r0 + 15) (gI w 10 2).toNat ((gI w1 (r0 + 15) (gI w 10 2).toNat) + 1) → Wp m_Bk_addRule 41 [(0, vr r0), (1, vr 9), (2, vi (gI w 10 2)), (3, vi 0)] [] (0, 0) w4 Q))) ∧ (¬ (gI w 10 2) < (gI w r0 1) → Q none w))))) : Wp m_Bk_addRule 0 [(0, vr r0), (1, vr 9)] [] (0, 0) w Q := by
  refine wp_ly (fun hly => ?_)
  refine wp_aload_n d_Bk_addRule_0 (i := 1) rfl 1 rfl ?_
  refine wp_getP d_Bk_addRule_1 fl_Bk_43 cl_1 rfl (ly_o hly (by decide)) (ly_r (v := 10) hly (by decide +kernel)) ?_
  refine wp_getI d_Bk_addRule_4 fl_Bk_49 cl_3 rfl (ly_o hly (by decide)) ?_
  refine wp_istore_n (L' := [(2, vi (gI w 10 2)), (0, vr r0), (1, vr 9)]) d_Bk_addRule_7 (i := 2) rfl rfl (by decide) ?_
  refine wp_iload_n d_Bk_addRule_8 (i := 2) rfl 0 rfl ?_
  refine wp_if_lt (tgt := 20) d_Bk_addRule_9 (by decide) (fun hc => ?_) (fun hc => ?_)
  · replace h := h.1 hc
    exact wp_vret d_Bk_addRule_20 rfl (by decide) h
  · replace h := h.2 hc
    refine wp_iload_n d_Bk_addRule_12 (i := 2) rfl 0 rfl ?_
    refine wp_aload_n d_Bk_addRule_13 (i := 0) rfl 1 rfl ?_
    refine wp_getI d_Bk_addRule_14 fl_Bk_38 cl_0 rfl (ly_o hly (bk_o hr0)) ?_
    refine wp_icmp_lt (tgt := 21) d_Bk_addRule_17 (by decide) (fun hc => ?_) (fun hc => ?_)
    · replace h := h.1 hc
      refine wp_aload_n d_Bk_addRule_21 (i := 0) rfl 1 rfl ?_
      refine wp_getP d_Bk_addRule_22 fl_Bk_12 cl_0 rfl (ly_o hly (bk_o hr0)) (bk_r0 hly hr0) ?_
      refine wp_aload_n d_Bk_addRule_25 (i := 1) rfl 2 rfl ?_
      refine wp_callV (A := [vr 9]) (S := []) d_Bk_addRule_26 cv_Bk_addRule_54 (ly_o hly (rl_o (bk_m0 hr0))) rfl (Nat.le_of_ble_eq_true rfl) (by decide) (MetS.mono h (fun r w1 hh => ?_))
      obtain ⟨er, h⟩ := hh
      subst er
      refine wp_ly (fun hly => ?_)
      refine wp_aload_n d_Bk_addRule_29 (i := 0) rfl 1 rfl ?_
      refine wp_getP d_Bk_addRule_30 fl_Bk_26 cl_0 rfl (ly_o hly (bk_o hr0)) (bk_r4 hly hr0) ?_
      refine wp_iload_n d_Bk_addRule_33 (i := 2) rfl 0 rfl ?_
      refine wp_dup2 d_Bk_addRule_34 rfl rfl ?_
      obtain ⟨hi2, h⟩ := h
      refine wp_iaload d_Bk_addRule_35 (ly_a (n := 16) (N := 16) hly (bk_a4 hr0) hi2) ?_
      refine wp_iconst d_Bk_addRule_36 (by decide) ?_
      obtain ⟨ho, h⟩ := h
      refine wp_iadd d_Bk_addRule_37 ho ?_
      obtain ⟨hi3, h⟩ := h
      refine wp_iastore d_Bk_addRule_38 (ly_a (n := 16) (N := 16) hly (bk_a4 hr0) hi3) (fun w4 e5 => ?_)
      replace h := h w4 e5
      refine wp_ly (fun hly => ?_)
      refine wp_iconst d_Bk_addRule_39 (by decide) ?_
      refine wp_istore_n (L' := [(3, vi 0), (2, vi (gI w 10 2)), (0, vr r0), (1, vr 9)]) d_Bk_addRule_40 (i := 3) rfl rfl (by decide) ?_
      exact wp_pick [2, 3, 1, 0] rfl h
    · replace h := h.2 hc
      exact wp_vret d_Bk_addRule_20 rfl (by decide) h
set_option maxRecDepth 20000 in
set_option maxHeartbeats 2000000 in
theorem t_Bk_addRule_41 {r0 : Nat} {x2 : Int} {x3 : Int} (hr0 : isBk r0) {w : Wo} {Q : Option AV → Wo → Prop} (h : (((gI w 9 2) ≤ x3 → Q none w) ∧ (¬ (gI w 9 2) ≤ x3 → (0 ≤ x3 ∧ x3 < 6) ∧ MetI m_Lt_isAtom [vr (19 + 3 * x3.toNat)] w (fun z4 w3 => ((z4 = 0 → inr32 (x3 + 1) ∧ Wp m_Bk_addRule 41 [(0, vr r0), (1, vr 9), (2, vi x2), (3, vi (x3 + 1))] [] (0, 0) w3 Q) ∧ (¬ z4 = 0 → (0 ≤ x2 ∧ x2 < 16) ∧ (0 ≤ x3 ∧ x3 < 6) ∧ (0 ≤ x2 ∧ x2 < 16) ∧ (∀ w9 : Wo, w9 = uI w3 (r0 + 18) x2.toNat (b_ior (gI w3 (r0 + 18) x2.toNat) (b_ishl 1 (gI w3 (19 + 3 * x3.toNat) 2))) → inr32 (x3 + 1) ∧ Wp m_Bk_addRule 41 [(0, vr r0), (1, vr 9), (2, vi x2), (3, vi (x3 + 1))] [] (0, 0) w9 Q))))))) : Wp m_Bk_addRule 41 [(0, vr r0), (1, vr 9), (2, vi x2), (3, vi x3)] [] (0, 0) w Q := by
  refine wp_ly (fun hly => ?_)
  refine wp_iload_n d_Bk_addRule_41 (i := 3) rfl 3 rfl ?_
  refine wp_aload_n d_Bk_addRule_42 (i := 1) rfl 1 rfl ?_
  refine wp_getI d_Bk_addRule_43 fl_Bk_58 cl_1 rfl (ly_o hly (by decide)) ?_
  refine wp_icmp_ge (tgt := 87) d_Bk_addRule_46 (by decide) (fun hc => ?_) (fun hc => ?_)
  · replace h := h.1 hc
    exact wp_vret d_Bk_addRule_87 rfl (by decide) h
  · replace h := h.2 hc
    refine wp_aload_n d_Bk_addRule_49 (i := 1) rfl 1 rfl ?_
    refine wp_getP d_Bk_addRule_50 fl_Bk_61 cl_1 rfl (ly_o hly (by decide)) (ly_r (v := 13) hly (by decide +kernel)) ?_
    refine wp_iload_n d_Bk_addRule_53 (i := 3) rfl 3 rfl ?_
    obtain ⟨hi1, h⟩ := h
    have hb2 := body_m hi1
    refine wp_aaload d_Bk_addRule_54 (ly_a (n := 6) (N := 6) hly (by decide) hi1) (body_r hi1 hly) ?_
    refine wp_callV (A := []) (S := []) d_Bk_addRule_55 cv_Bk_addRule_65 (ly_o hly (lt_o hb2)) rfl (Nat.le_of_ble_eq_true rfl) (by decide) (MetS.mono h (fun r w3 hh => ?_))
    obtain ⟨z4, er, h⟩ := hh
    subst er
    refine wp_ly (fun hly => ?_)
    refine wp_if_eq (tgt := 81) d_Bk_addRule_58 (by decide) (fun hc => ?_) (fun hc => ?_)
    · replace h := h.1 hc
      obtain ⟨ho, h⟩ := h
      refine wp_iinc (L' := [(3, vi (x3 + 1)), (0, vr r0), (1, vr 9), (2, vi x2)]) d_Bk_addRule_81 3 rfl rfl (by decide) ho ?_
      refine wp_goto (tgt := 41) d_Bk_addRule_84 (by decide) ?_
      exact wp_pick [1, 2, 3, 0] rfl h
    · replace h := h.2 hc
      refine wp_aload_n d_Bk_addRule_61 (i := 0) rfl 0 rfl ?_
      refine wp_getP d_Bk_addRule_62 fl_Bk_35 cl_0 rfl (ly_o hly (bk_o hr0)) (bk_r7 hly hr0) ?_
      refine wp_iload_n d_Bk_addRule_65 (i := 2) rfl 2 rfl ?_
      refine wp_dup2 d_Bk_addRule_66 rfl rfl ?_
      obtain ⟨hi5, h⟩ := h
      refine wp_iaload d_Bk_addRule_67 (ly_a (n := 16) (N := 16) hly (bk_a7 hr0) hi5) ?_
      refine wp_iconst d_Bk_addRule_68 (by decide) ?_
      refine wp_aload_n d_Bk_addRule_69 (i := 1) rfl 1 rfl ?_
      refine wp_getP d_Bk_addRule_70 fl_Bk_61 cl_1 rfl (ly_o hly (by decide)) (ly_r (v := 13) hly (by decide +kernel)) ?_
      refine wp_iload_n d_Bk_addRule_73 (i := 3) rfl 3 rfl ?_
      obtain ⟨hi6, h⟩ := h
      have hb7 := body_m hi6
      refine wp_aaload d_Bk_addRule_74 (ly_a (n := 6) (N := 6) hly (by decide) hi6) (body_r hi6 hly) ?_
      refine wp_getI d_Bk_addRule_75 fl_Bk_49 cl_3 rfl (ly_o hly (lt_o hb7)) ?_
      refine wp_ishl d_Bk_addRule_78 ?_
      refine wp_ior d_Bk_addRule_79 ?_
      obtain ⟨hi8, h⟩ := h
      refine wp_iastore d_Bk_addRule_80 (ly_a (n := 16) (N := 16) hly (bk_a7 hr0) hi8) (fun w9 e10 => ?_)
      replace h := h w9 e10
      refine wp_ly (fun hly => ?_)
      obtain ⟨ho, h⟩ := h
      refine wp_iinc (L' := [(3, vi (x3 + 1)), (0, vr r0), (1, vr 9), (2, vi x2)]) d_Bk_addRule_81 3 rfl rfl (by decide) ho ?_
      refine wp_goto (tgt := 41) d_Bk_addRule_84 (by decide) ?_
      exact wp_pick [1, 2, 3, 0] rfl h
set_option maxRecDepth 20000 in
set_option maxHeartbeats 2000000 in
theorem t_Bk_addFact_0 {r0 : Nat} {x1 : Int} (hr0 : isBk r0) {w : Wo} {Q : Option AV → Wo → Prop} (h : ((x1 < 0 → Q none w) ∧ (¬ x1 < 0 → (((gI w r0 1) ≤ x1 → Q none w) ∧ (¬ (gI w r0 1) ≤ x1 → (0 ≤ x1 ∧ x1 < 16) ∧ inr32 ((gI w (r0 + 16) x1.toNat) + 1) ∧ (0 ≤ x1 ∧ x1 < 16) ∧ (∀ w3 : Wo, w3 = uI w (r0 + 16) x1.toNat ((gI w (r0 + 16) x1.toNat) + 1) → Q none w3)))))) : Wp m_Bk_addFact 0 [(0, vr r0), (1, vi x1)] [] (0, 0) w Q := by
  refine wp_ly (fun hly => ?_)
  refine wp_iload_n d_Bk_addFact_0 (i := 1) rfl 1 rfl ?_
  refine wp_if_lt (tgt := 22) d_Bk_addFact_1 (by decide) (fun hc => ?_) (fun hc => ?_)
  · replace h := h.1 hc
    exact wp_vret d_Bk_addFact_22 rfl (by decide) h
  · replace h := h.2 hc
    refine wp_iload_n d_Bk_addFact_4 (i := 1) rfl 1 rfl ?_
    refine wp_aload_n d_Bk_addFact_5 (i := 0) rfl 0 rfl ?_
    refine wp_getI d_Bk_addFact_6 fl_Bk_38 cl_0 rfl (ly_o hly (bk_o hr0)) ?_
    refine wp_icmp_ge (tgt := 22) d_Bk_addFact_9 (by decide) (fun hc => ?_) (fun hc => ?_)
    · replace h := h.1 hc
      exact wp_vret d_Bk_addFact_22 rfl (by decide) h
    · replace h := h.2 hc
      refine wp_aload_n d_Bk_addFact_12 (i := 0) rfl 0 rfl ?_
      refine wp_getP d_Bk_addFact_13 fl_Bk_29 cl_0 rfl (ly_o hly (bk_o hr0)) (bk_r5 hly hr0) ?_
      refine wp_iload_n d_Bk_addFact_16 (i := 1) rfl 1 rfl ?_
      refine wp_dup2 d_Bk_addFact_17 rfl rfl ?_
      obtain ⟨hi1, h⟩ := h
      refine wp_iaload d_Bk_addFact_18 (ly_a (n := 16) (N := 16) hly (bk_a5 hr0) hi1) ?_
      refine wp_iconst d_Bk_addFact_19 (by decide) ?_
      obtain ⟨ho, h⟩ := h
      refine wp_iadd d_Bk_addFact_20 ho ?_
      obtain ⟨hi2, h⟩ := h
      refine wp_iastore d_Bk_addFact_21 (ly_a (n := 16) (N := 16) hly (bk_a5 hr0) hi2) (fun w3 e4 => ?_)
      replace h := h w3 e4
      refine wp_ly (fun hly => ?_)
      exact wp_vret d_Bk_addFact_22 rfl (by decide) h
set_option maxRecDepth 20000 in
set_option maxHeartbeats 2000000 in
theorem t_Bk_reaches_0 {r0 : Nat} {x1 : Int} {x2 : Int} (hr0 : isBk r0) {w : Wo} {Q : Option AV → Wo → Prop} (h : (0 ≤ x1 ∧ x1 < 16) ∧ (((b_iand (b_ishr (gI w (r0 + 18) x1.toNat) x2) 1) = 0 → Q (some (vi 0)) w) ∧ (¬ (b_iand (b_ishr (gI w (r0 + 18) x1.toNat) x2) 1) = 0 → Q (some (vi 1)) w))) : Wp m_Bk_reaches 0 [(0, vr r0), (1, vi x1), (2, vi x2)] [] (0, 0) w Q := by
  refine wp_ly (fun hly => ?_)
  refine wp_aload_n d_Bk_reaches_0 (i := 0) rfl 0 rfl ?_
  refine wp_getP d_Bk_reaches_1 fl_Bk_35 cl_0 rfl (ly_o hly (bk_o hr0)) (bk_r7 hly hr0) ?_
  refine wp_iload_n d_Bk_reaches_4 (i := 1) rfl 1 rfl ?_
  obtain ⟨hi1, h⟩ := h
  refine wp_iaload d_Bk_reaches_5 (ly_a (n := 16) (N := 16) hly (bk_a7 hr0) hi1) ?_
  refine wp_iload_n d_Bk_reaches_6 (i := 2) rfl 2 rfl ?_
  refine wp_ishr d_Bk_reaches_7 ?_
  refine wp_iconst d_Bk_reaches_8 (by decide) ?_
  refine wp_iand d_Bk_reaches_9 ?_
  refine wp_if_eq (tgt := 17) d_Bk_reaches_10 (by decide) (fun hc => ?_) (fun hc => ?_)
  · replace h := h.1 hc
    refine wp_iconst d_Bk_reaches_17 (by decide) ?_
    exact wp_zret d_Bk_reaches_18 rfl (by decide) (by decide) h
  · replace h := h.2 hc
    refine wp_iconst d_Bk_reaches_13 (by decide) ?_
    refine wp_goto (tgt := 18) d_Bk_reaches_14 (by decide) ?_
    exact wp_zret d_Bk_reaches_18 rfl (by decide) (by decide) h
set_option maxRecDepth 20000 in
set_option maxHeartbeats 2000000 in
theorem t_Bk_spreadHanging_0 {r0 : Nat} (hr0 : isBk r0) {w : Wo} {Q : Option AV → Wo → Prop} (h : Wp m_Bk_spreadHanging 2 [(0, vr r0), (1, vi 0)] [] (0, 0) w Q) : Wp m_Bk_spreadHanging 0 [(0, vr r0)] [] (0, 0) w Q := by
  refine wp_ly (fun hly => ?_)
  refine wp_iconst d_Bk_spreadHanging_0 (by decide) ?_
  refine wp_istore_n (L' := [(1, vi 0), (0, vr r0)]) d_Bk_spreadHanging_1 (i := 1) rfl rfl (by decide) ?_
  exact wp_pick [1, 0] rfl h
set_option maxRecDepth 20000 in
set_option maxHeartbeats 2000000 in
theorem t_Bk_spreadHanging_2 {r0 : Nat} {x1 : Int} (hr0 : isBk r0) {w : Wo} {Q : Option AV → Wo → Prop} (h : (((gI w r0 1) ≤ x1 → Q none w) ∧ (¬ (gI w r0 1) ≤ x1 → Wp m_Bk_spreadHanging 12 [(0, vr r0), (1, vi x1), (2, vi 0)] [] (0, 0) w Q))) : Wp m_Bk_spreadHanging 2 [(0, vr r0), (1, vi x1)] [] (0, 0) w Q := by
  refine wp_ly (fun hly => ?_)
  refine wp_iload_n d_Bk_spreadHanging_2 (i := 1) rfl 1 rfl ?_
  refine wp_aload_n d_Bk_spreadHanging_3 (i := 0) rfl 0 rfl ?_
  refine wp_getI d_Bk_spreadHanging_4 fl_Bk_38 cl_0 rfl (ly_o hly (bk_o hr0)) ?_
  refine wp_icmp_ge (tgt := 56) d_Bk_spreadHanging_7 (by decide) (fun hc => ?_) (fun hc => ?_)
  · replace h := h.1 hc
    exact wp_vret d_Bk_spreadHanging_56 rfl (by decide) h
  · replace h := h.2 hc
    refine wp_iconst d_Bk_spreadHanging_10 (by decide) ?_
    refine wp_istore_n (L' := [(2, vi 0), (0, vr r0), (1, vi x1)]) d_Bk_spreadHanging_11 (i := 2) rfl rfl (by decide) ?_
    exact wp_pick [1, 2, 0] rfl h
set_option maxRecDepth 20000 in
set_option maxHeartbeats 2000000 in
theorem t_Bk_spreadHanging_12 {r0 : Nat} {x1 : Int} {x2 : Int} (hr0 : isBk r0) {w : Wo} {Q : Option AV → Wo → Prop} (h : (((gI w r0 1) ≤ x2 → inr32 (x1 + 1) ∧ Wp m_Bk_spreadHanging 2 [(0, vr r0), (1, vi (x1 + 1))] [] (0, 0) w Q) ∧ (¬ (gI w r0 1) ≤ x2 → MetI m_Bk_reaches [vr r0, vi x2, vi x1] w (fun z2 w1 => ((z2 = 0 → inr32 (x2 + 1) ∧ Wp m_Bk_spreadHanging 12 [(0, vr r0), (1, vi x1), (2, vi (x2 + 1))] [] (0, 0) w1 Q) ∧ (¬ z2 = 0 → (0 ≤ x2 ∧ x2 < 16) ∧ (0 ≤ x1 ∧ x1 < 16) ∧ (0 ≤ x2 ∧ x2 < 16) ∧ (∀ w6 : Wo, w6 = uI w1 (r0 + 18) x2.toNat (b_ior (gI w1 (r0 + 18) x2.toNat) (gI w1 (r0 + 18) x1.toNat)) → inr32 (x2 + 1) ∧ Wp m_Bk_spreadHanging 12 [(0, vr r0), (1, vi x1), (2, vi (x2 + 1))] [] (0, 0) w6 Q))))))) : Wp m_Bk_spreadHanging 12 [(0, vr r0), (1, vi x1), (2, vi x2)] [] (0, 0) w Q := by
  refine wp_ly (fun hly => ?_)
  refine wp_iload_n d_Bk_spreadHanging_12 (i := 2) rfl 2 rfl ?_
  refine wp_aload_n d_Bk_spreadHanging_13 (i := 0) rfl 0 rfl ?_
  refine wp_getI d_Bk_spreadHanging_14 fl_Bk_38 cl_0 rfl (ly_o hly (bk_o hr0)) ?_
  refine wp_icmp_ge (tgt := 50) d_Bk_spreadHanging_17 (by decide) (fun hc => ?_) (fun hc => ?_)
  · replace h := h.1 hc
    obtain ⟨ho, h⟩ := h
    refine wp_iinc (L' := [(1, vi (x1 + 1)), (0, vr r0), (2, vi x2)]) d_Bk_spreadHanging_50 1 rfl rfl (by decide) ho ?_
    refine wp_goto (tgt := 2) d_Bk_spreadHanging_53 (by decide) ?_
    exact wp_pick [1, 0] rfl h
  · replace h := h.2 hc
    refine wp_aload_n d_Bk_spreadHanging_20 (i := 0) rfl 0 rfl ?_
    refine wp_iload_n d_Bk_spreadHanging_21 (i := 2) rfl 2 rfl ?_
    refine wp_iload_n d_Bk_spreadHanging_22 (i := 1) rfl 1 rfl ?_
    refine wp_callV (A := [vi x2, vi x1]) (S := []) d_Bk_spreadHanging_23 cv_Bk_spreadHanging_69 (ly_o hly (bk_o hr0)) rfl (Nat.le_of_ble_eq_true rfl) (by decide) (MetS.mono h (fun r w1 hh => ?_))
    obtain ⟨z2, er, h⟩ := hh
    subst er
    refine wp_ly (fun hly => ?_)
    refine wp_if_eq (tgt := 44) d_Bk_spreadHanging_26 (by decide) (fun hc => ?_) (fun hc => ?_)
    · replace h := h.1 hc
      obtain ⟨ho, h⟩ := h
      refine wp_iinc (L' := [(2, vi (x2 + 1)), (0, vr r0), (1, vi x1)]) d_Bk_spreadHanging_44 2 rfl rfl (by decide) ho ?_
      refine wp_goto (tgt := 12) d_Bk_spreadHanging_47 (by decide) ?_
      exact wp_pick [1, 2, 0] rfl h
    · replace h := h.2 hc
      refine wp_aload_n d_Bk_spreadHanging_29 (i := 0) rfl 0 rfl ?_
      refine wp_getP d_Bk_spreadHanging_30 fl_Bk_35 cl_0 rfl (ly_o hly (bk_o hr0)) (bk_r7 hly hr0) ?_
      refine wp_iload_n d_Bk_spreadHanging_33 (i := 2) rfl 2 rfl ?_
      refine wp_dup2 d_Bk_spreadHanging_34 rfl rfl ?_
      obtain ⟨hi3, h⟩ := h
      refine wp_iaload d_Bk_spreadHanging_35 (ly_a (n := 16) (N := 16) hly (bk_a7 hr0) hi3) ?_
      refine wp_aload_n d_Bk_spreadHanging_36 (i := 0) rfl 0 rfl ?_
      refine wp_getP d_Bk_spreadHanging_37 fl_Bk_35 cl_0 rfl (ly_o hly (bk_o hr0)) (bk_r7 hly hr0) ?_
      refine wp_iload_n d_Bk_spreadHanging_40 (i := 1) rfl 1 rfl ?_
      obtain ⟨hi4, h⟩ := h
      refine wp_iaload d_Bk_spreadHanging_41 (ly_a (n := 16) (N := 16) hly (bk_a7 hr0) hi4) ?_
      refine wp_ior d_Bk_spreadHanging_42 ?_
      obtain ⟨hi5, h⟩ := h
      refine wp_iastore d_Bk_spreadHanging_43 (ly_a (n := 16) (N := 16) hly (bk_a7 hr0) hi5) (fun w6 e7 => ?_)
      replace h := h w6 e7
      refine wp_ly (fun hly => ?_)
      obtain ⟨ho, h⟩ := h
      refine wp_iinc (L' := [(2, vi (x2 + 1)), (0, vr r0), (1, vi x1)]) d_Bk_spreadHanging_44 2 rfl rfl (by decide) ho ?_
      refine wp_goto (tgt := 12) d_Bk_spreadHanging_47 (by decide) ?_
      exact wp_pick [1, 2, 0] rfl h
set_option maxRecDepth 20000 in
set_option maxHeartbeats 2000000 in
theorem t_Bk_leadsBack_0 {r0 : Nat} {x1 : Int} {x2 : Int} (hr0 : isBk r0) {w : Wo} {Q : Option AV → Wo → Prop} (h : (0 ≤ x2 ∧ x2 < 180) ∧ (0 ≤ x1 ∧ x1 < 30) ∧ (((gI w ((r0 + 1) + 7) x2.toNat) < 0 → Q (some (vi 0)) w) ∧ (¬ (gI w ((r0 + 1) + 7) x2.toNat) < 0 → (((gI w r0 1) ≤ (gI w ((r0 + 1) + 7) x2.toNat) → Q (some (vi 0)) w) ∧ (¬ (gI w r0 1) ≤ (gI w ((r0 + 1) + 7) x2.toNat) → (((gI w ((r0 + 1) + 7) x2.toNat) = (gI w ((r0 + 1) + 1) x1.toNat) → Q (some (vi 1)) w) ∧ (¬ (gI w ((r0 + 1) + 7) x2.toNat) = (gI w ((r0 + 1) + 1) x1.toNat) → MetI m_Bk_reaches [vr r0, vi (gI w ((r0 + 1) + 7) x2.toNat), vi (gI w ((r0 + 1) + 1) x1.toNat)] w (fun z4 w3 => ((z4 = 0 → Q (some (vi 0)) w3) ∧ (¬ z4 = 0 → Q (some (vi 1)) w3)))))))))) : Wp m_Bk_leadsBack 0 [(0, vr r0), (1, vi x1), (2, vi x2)] [] (0, 0) w Q := by
  refine wp_ly (fun hly => ?_)
  refine wp_aload_n d_Bk_leadsBack_0 (i := 0) rfl 0 rfl ?_
  refine wp_getP d_Bk_leadsBack_1 fl_Bk_12 cl_0 rfl (ly_o hly (bk_o hr0)) (bk_r0 hly hr0) ?_
  refine wp_getP d_Bk_leadsBack_4 fl_Bk_73 cl_5 rfl (ly_o hly (rl_o (bk_m0 hr0))) (rl_r7 hly (bk_m0 hr0)) ?_
  refine wp_iload_n d_Bk_leadsBack_7 (i := 2) rfl 2 rfl ?_
  obtain ⟨hi1, h⟩ := h
  refine wp_iaload d_Bk_leadsBack_8 (ly_a (n := 180) (N := 180) hly (rl_a7 (bk_m0 hr0)) hi1) ?_
  refine wp_istore_n (L' := [(3, vi (gI w ((r0 + 1) + 7) x2.toNat)), (0, vr r0), (1, vi x1), (2, vi x2)]) d_Bk_leadsBack_9 (i := 3) rfl rfl (by decide) ?_
  refine wp_aload_n d_Bk_leadsBack_10 (i := 0) rfl 1 rfl ?_
  refine wp_getP d_Bk_leadsBack_11 fl_Bk_12 cl_0 rfl (ly_o hly (bk_o hr0)) (bk_r0 hly hr0) ?_
  refine wp_getP d_Bk_leadsBack_14 fl_Bk_75 cl_5 rfl (ly_o hly (rl_o (bk_m0 hr0))) (rl_r1 hly (bk_m0 hr0)) ?_
  refine wp_iload_n d_Bk_leadsBack_17 (i := 1) rfl 2 rfl ?_
  obtain ⟨hi2, h⟩ := h
  refine wp_iaload d_Bk_leadsBack_18 (ly_a (n := 30) (N := 30) hly (rl_a1 (bk_m0 hr0)) hi2) ?_
  refine wp_istore (L' := [(4, vi (gI w ((r0 + 1) + 1) x1.toNat)), (3, vi (gI w ((r0 + 1) + 7) x2.toNat)), (0, vr r0), (1, vi x1), (2, vi x2)]) d_Bk_leadsBack_19 rfl (by decide) ?_
  refine wp_iload_n d_Bk_leadsBack_21 (i := 3) rfl 1 rfl ?_
  refine wp_if_lt (tgt := 53) d_Bk_leadsBack_22 (by decide) (fun hc => ?_) (fun hc => ?_)
  · replace h := h.1 hc
    refine wp_iconst d_Bk_leadsBack_53 (by decide) ?_
    exact wp_zret d_Bk_leadsBack_54 rfl (by decide) (by decide) h
  · replace h := h.2 hc
    refine wp_iload_n d_Bk_leadsBack_25 (i := 3) rfl 1 rfl ?_
    refine wp_aload_n d_Bk_leadsBack_26 (i := 0) rfl 2 rfl ?_
    refine wp_getI d_Bk_leadsBack_27 fl_Bk_38 cl_0 rfl (ly_o hly (bk_o hr0)) ?_
    refine wp_icmp_ge (tgt := 53) d_Bk_leadsBack_30 (by decide) (fun hc => ?_) (fun hc => ?_)
    · replace h := h.1 hc
      refine wp_iconst d_Bk_leadsBack_53 (by decide) ?_
      exact wp_zret d_Bk_leadsBack_54 rfl (by decide) (by decide) h
    · replace h := h.2 hc
      refine wp_iload_n d_Bk_leadsBack_33 (i := 3) rfl 1 rfl ?_
      refine wp_iload d_Bk_leadsBack_34 0 rfl ?_
      refine wp_icmp_eq (tgt := 49) d_Bk_leadsBack_36 (by decide) (fun hc => ?_) (fun hc => ?_)
      · replace h := h.1 hc
        refine wp_iconst d_Bk_leadsBack_49 (by decide) ?_
        refine wp_goto (tgt := 54) d_Bk_leadsBack_50 (by decide) ?_
        exact wp_zret d_Bk_leadsBack_54 rfl (by decide) (by decide) h
      · replace h := h.2 hc
        refine wp_aload_n d_Bk_leadsBack_39 (i := 0) rfl 2 rfl ?_
        refine wp_iload_n d_Bk_leadsBack_40 (i := 3) rfl 1 rfl ?_
        refine wp_iload d_Bk_leadsBack_41 0 rfl ?_
        refine wp_callV (A := [vi (gI w ((r0 + 1) + 7) x2.toNat), vi (gI w ((r0 + 1) + 1) x1.toNat)]) (S := []) d_Bk_leadsBack_43 cv_Bk_leadsBack_69 (ly_o hly (bk_o hr0)) rfl (Nat.le_of_ble_eq_true rfl) (by decide) (MetS.mono h (fun r w3 hh => ?_))
        obtain ⟨z4, er, h⟩ := hh
        subst er
        refine wp_ly (fun hly => ?_)
        refine wp_if_eq (tgt := 53) d_Bk_leadsBack_46 (by decide) (fun hc => ?_) (fun hc => ?_)
        · replace h := h.1 hc
          refine wp_iconst d_Bk_leadsBack_53 (by decide) ?_
          exact wp_zret d_Bk_leadsBack_54 rfl (by decide) (by decide) h
        · replace h := h.2 hc
          refine wp_iconst d_Bk_leadsBack_49 (by decide) ?_
          refine wp_goto (tgt := 54) d_Bk_leadsBack_50 (by decide) ?_
          exact wp_zret d_Bk_leadsBack_54 rfl (by decide) (by decide) h
set_option maxRecDepth 20000 in
set_option maxHeartbeats 2000000 in
theorem t_Bk_circles_0 {r0 : Nat} {x1 : Int} (hr0 : isBk r0) {w : Wo} {Q : Option AV → Wo → Prop} (h : Wp m_Bk_circles 4 [(0, vr r0), (1, vi x1), (2, vi 0), (3, vi 0)] [] (0, 0) w Q) : Wp m_Bk_circles 0 [(0, vr r0), (1, vi x1)] [] (0, 0) w Q := by
  refine wp_ly (fun hly => ?_)
  refine wp_iconst d_Bk_circles_0 (by decide) ?_
  refine wp_istore_n (L' := [(2, vi 0), (0, vr r0), (1, vi x1)]) d_Bk_circles_1 (i := 2) rfl rfl (by decide) ?_
  refine wp_iconst d_Bk_circles_2 (by decide) ?_
  refine wp_istore_n (L' := [(3, vi 0), (2, vi 0), (0, vr r0), (1, vi x1)]) d_Bk_circles_3 (i := 3) rfl rfl (by decide) ?_
  exact wp_pick [2, 3, 1, 0] rfl h
set_option maxRecDepth 20000 in
set_option maxHeartbeats 2000000 in
theorem t_Bk_circles_4 {r0 : Nat} {x1 : Int} {x2 : Int} {x3 : Int} (hr0 : isBk r0) {w : Wo} {Q : Option AV → Wo → Prop} (h : (0 ≤ x1 ∧ x1 < 30) ∧ (((gI w ((r0 + 1) + 2) x1.toNat) ≤ x3 → Q (some (vi x2)) w) ∧ (¬ (gI w ((r0 + 1) + 2) x1.toNat) ≤ x3 → inr32 (x1 * 6) ∧ inr32 ((x1 * 6) + x3) ∧ (0 ≤ ((x1 * 6) + x3) ∧ ((x1 * 6) + x3) < 180) ∧ ((¬ (gI w ((r0 + 1) + 6) ((x1 * 6) + x3).toNat) = 0 → inr32 (x3 + 1) ∧ Wp m_Bk_circles 4 [(0, vr r0), (1, vi x1), (2, vi x2), (3, vi (x3 + 1))] [] (0, 0) w Q) ∧ ((gI w ((r0 + 1) + 6) ((x1 * 6) + x3).toNat) = 0 → MetI m_Bk_leadsBack [vr r0, vi x1, vi ((x1 * 6) + x3)] w (fun z4 w3 => ((z4 = 0 → inr32 (x3 + 1) ∧ Wp m_Bk_circles 4 [(0, vr r0), (1, vi x1), (2, vi x2), (3, vi (x3 + 1))] [] (0, 0) w3 Q) ∧ (¬ z4 = 0 → inr32 (x2 + 1) ∧ inr32 (x3 + 1) ∧ Wp m_Bk_circles 4 [(0, vr r0), (1, vi x1), (2, vi (x2 + 1)), (3, vi (x3 + 1))] [] (0, 0) w3 Q)))))))) : Wp m_Bk_circles 4 [(0, vr r0), (1, vi x1), (2, vi x2), (3, vi x3)] [] (0, 0) w Q := by
  refine wp_ly (fun hly => ?_)
  refine wp_iload_n d_Bk_circles_4 (i := 3) rfl 3 rfl ?_
  refine wp_aload_n d_Bk_circles_5 (i := 0) rfl 0 rfl ?_
  refine wp_getP d_Bk_circles_6 fl_Bk_12 cl_0 rfl (ly_o hly (bk_o hr0)) (bk_r0 hly hr0) ?_
  refine wp_getP d_Bk_circles_9 fl_Bk_78 cl_5 rfl (ly_o hly (rl_o (bk_m0 hr0))) (rl_r2 hly (bk_m0 hr0)) ?_
  refine wp_iload_n d_Bk_circles_12 (i := 1) rfl 1 rfl ?_
  obtain ⟨hi1, h⟩ := h
  refine wp_iaload d_Bk_circles_13 (ly_a (n := 30) (N := 30) hly (rl_a2 (bk_m0 hr0)) hi1) ?_
  refine wp_icmp_ge (tgt := 57) d_Bk_circles_14 (by decide) (fun hc => ?_) (fun hc => ?_)
  · replace h := h.1 hc
    refine wp_iload_n d_Bk_circles_57 (i := 2) rfl 2 rfl ?_
    exact wp_iret d_Bk_circles_58 rfl (by decide) h
  · replace h := h.2 hc
    refine wp_iload_n d_Bk_circles_17 (i := 1) rfl 1 rfl ?_
    refine wp_bipush d_Bk_circles_18 (by decide) (by decide) ?_
    obtain ⟨ho, h⟩ := h
    refine wp_imul d_Bk_circles_20 ho ?_
    refine wp_iload_n d_Bk_circles_21 (i := 3) rfl 3 rfl ?_
    obtain ⟨ho, h⟩ := h
    refine wp_iadd d_Bk_circles_22 ho ?_
    refine wp_istore (L' := [(4, vi ((x1 * 6) + x3)), (0, vr r0), (1, vi x1), (2, vi x2), (3, vi x3)]) d_Bk_circles_23 rfl (by decide) ?_
    refine wp_aload_n d_Bk_circles_25 (i := 0) rfl 1 rfl ?_
    refine wp_getP d_Bk_circles_26 fl_Bk_12 cl_0 rfl (ly_o hly (bk_o hr0)) (bk_r0 hly hr0) ?_
    refine wp_getP d_Bk_circles_29 fl_Bk_79 cl_5 rfl (ly_o hly (rl_o (bk_m0 hr0))) (rl_r6 hly (bk_m0 hr0)) ?_
    refine wp_iload d_Bk_circles_32 0 rfl ?_
    obtain ⟨hi2, h⟩ := h
    refine wp_iaload d_Bk_circles_34 (ly_a (n := 180) (N := 180) hly (rl_a6 (bk_m0 hr0)) hi2) ?_
    refine wp_if_ne (tgt := 51) d_Bk_circles_35 (by decide) (fun hc => ?_) (fun hc => ?_)
    · replace h := h.1 hc
      obtain ⟨ho, h⟩ := h
      refine wp_iinc (L' := [(3, vi (x3 + 1)), (4, vi ((x1 * 6) + x3)), (0, vr r0), (1, vi x1), (2, vi x2)]) d_Bk_circles_51 4 rfl rfl (by decide) ho ?_
      refine wp_goto (tgt := 4) d_Bk_circles_54 (by decide) ?_
      exact wp_pick [2, 3, 4, 0] rfl h
    · replace h := h.2 hc
      refine wp_aload_n d_Bk_circles_38 (i := 0) rfl 1 rfl ?_
      refine wp_iload_n d_Bk_circles_39 (i := 1) rfl 2 rfl ?_
      refine wp_iload d_Bk_circles_40 0 rfl ?_
      refine wp_callV (A := [vi x1, vi ((x1 * 6) + x3)]) (S := []) d_Bk_circles_42 cv_Bk_circles_82 (ly_o hly (bk_o hr0)) rfl (Nat.le_of_ble_eq_true rfl) (by decide) (MetS.mono h (fun r w3 hh => ?_))
      obtain ⟨z4, er, h⟩ := hh
      subst er
      refine wp_ly (fun hly => ?_)
      refine wp_if_eq (tgt := 51) d_Bk_circles_45 (by decide) (fun hc => ?_) (fun hc => ?_)
      · replace h := h.1 hc
        obtain ⟨ho, h⟩ := h
        refine wp_iinc (L' := [(3, vi (x3 + 1)), (4, vi ((x1 * 6) + x3)), (0, vr r0), (1, vi x1), (2, vi x2)]) d_Bk_circles_51 4 rfl rfl (by decide) ho ?_
        refine wp_goto (tgt := 4) d_Bk_circles_54 (by decide) ?_
        exact wp_pick [2, 3, 4, 0] rfl h
      · replace h := h.2 hc
        obtain ⟨ho, h⟩ := h
        refine wp_iinc (L' := [(2, vi (x2 + 1)), (4, vi ((x1 * 6) + x3)), (0, vr r0), (1, vi x1), (3, vi x3)]) d_Bk_circles_48 3 rfl rfl (by decide) ho ?_
        obtain ⟨ho, h⟩ := h
        refine wp_iinc (L' := [(3, vi (x3 + 1)), (2, vi (x2 + 1)), (4, vi ((x1 * 6) + x3)), (0, vr r0), (1, vi x1)]) d_Bk_circles_51 4 rfl rfl (by decide) ho ?_
        refine wp_goto (tgt := 4) d_Bk_circles_54 (by decide) ?_
        exact wp_pick [3, 4, 1, 0] rfl h
set_option maxRecDepth 20000 in
set_option maxHeartbeats 2000000 in
theorem t_Bk_knotPlace_0 {r0 : Nat} (hr0 : isBk r0) {w : Wo} {Q : Option AV → Wo → Prop} (h : Wp m_Bk_knotPlace 2 [(0, vr r0), (1, vi 0)] [] (0, 0) w Q) : Wp m_Bk_knotPlace 0 [(0, vr r0)] [] (0, 0) w Q := by
  refine wp_ly (fun hly => ?_)
  refine wp_iconst d_Bk_knotPlace_0 (by decide) ?_
  refine wp_istore_n (L' := [(1, vi 0), (0, vr r0)]) d_Bk_knotPlace_1 (i := 1) rfl rfl (by decide) ?_
  exact wp_pick [1, 0] rfl h
set_option maxRecDepth 20000 in
set_option maxHeartbeats 2000000 in
theorem t_Bk_knotPlace_2 {r0 : Nat} {x1 : Int} (hr0 : isBk r0) {w : Wo} {Q : Option AV → Wo → Prop} (h : (((gI w (r0 + 1) 0) ≤ x1 → Q (some (vi (-1))) w) ∧ (¬ (gI w (r0 + 1) 0) ≤ x1 → Wp m_Bk_knotPlace 15 [(0, vr r0), (1, vi x1), (2, vi 0)] [] (0, 0) w Q))) : Wp m_Bk_knotPlace 2 [(0, vr r0), (1, vi x1)] [] (0, 0) w Q := by
  refine wp_ly (fun hly => ?_)
  refine wp_iload_n d_Bk_knotPlace_2 (i := 1) rfl 1 rfl ?_
  refine wp_aload_n d_Bk_knotPlace_3 (i := 0) rfl 0 rfl ?_
  refine wp_getP d_Bk_knotPlace_4 fl_Bk_12 cl_0 rfl (ly_o hly (bk_o hr0)) (bk_r0 hly hr0) ?_
  refine wp_getI d_Bk_knotPlace_7 fl_Bk_42 cl_5 rfl (ly_o hly (rl_o (bk_m0 hr0))) ?_
  refine wp_icmp_ge (tgt := 102) d_Bk_knotPlace_10 (by decide) (fun hc => ?_) (fun hc => ?_)
  · replace h := h.1 hc
    refine wp_iconst d_Bk_knotPlace_102 (by decide) ?_
    exact wp_iret d_Bk_knotPlace_103 rfl (by decide) h
  · replace h := h.2 hc
    refine wp_iconst d_Bk_knotPlace_13 (by decide) ?_
    refine wp_istore_n (L' := [(2, vi 0), (0, vr r0), (1, vi x1)]) d_Bk_knotPlace_14 (i := 2) rfl rfl (by decide) ?_
    exact wp_pick [1, 2, 0] rfl h
set_option maxRecDepth 20000 in
set_option maxHeartbeats 2000000 in
theorem t_Bk_knotPlace_15 {r0 : Nat} {x1 : Int} {x2 : Int} (hr0 : isBk r0) {w : Wo} {Q : Option AV → Wo → Prop} (h : (0 ≤ x1 ∧ x1 < 30) ∧ (((gI w ((r0 + 1) + 2) x1.toNat) ≤ x2 → inr32 (x1 + 1) ∧ Wp m_Bk_knotPlace 2 [(0, vr r0), (1, vi (x1 + 1))] [] (0, 0) w Q) ∧ (¬ (gI w ((r0 + 1) + 2) x1.toNat) ≤ x2 → inr32 (x1 * 6) ∧ inr32 ((x1 * 6) + x2) ∧ MetI m_Rl_waits [vr (r0 + 1), vi x1, vi ((x1 * 6) + x2)] w (fun z3 w2 => ((z3 = 0 → inr32 (x2 + 1) ∧ Wp m_Bk_knotPlace 15 [(0, vr r0), (1, vi x1), (2, vi (x2 + 1))] [] (0, 0) w2 Q) ∧ (¬ z3 = 0 → MetI m_Bk_leadsBack [vr r0, vi x1, vi ((x1 * 6) + x2)] w2 (fun z5 w4 => ((z5 = 0 → inr32 (x2 + 1) ∧ Wp m_Bk_knotPlace 15 [(0, vr r0), (1, vi x1), (2, vi (x2 + 1))] [] (0, 0) w4 Q) ∧ (¬ z5 = 0 → (0 ≤ x1 ∧ x1 < 30) ∧ (((gI w4 ((r0 + 1) + 4) x1.toNat) ≤ 0 → (0 ≤ ((x1 * 6) + x2) ∧ ((x1 * 6) + x2) < 180) ∧ Q (some (vi (gI w4 ((r0 + 1) + 8) ((x1 * 6) + x2).toNat))) w4) ∧ (¬ (gI w4 ((r0 + 1) + 4) x1.toNat) ≤ 0 → (0 ≤ x1 ∧ x1 < 30) ∧ Q (some (vi (gI w4 ((r0 + 1) + 5) x1.toNat))) w4))))))))))) : Wp m_Bk_knotPlace 15 [(0, vr r0), (1, vi x1), (2, vi x2)] [] (0, 0) w Q := by
  refine wp_ly (fun hly => ?_)
  refine wp_iload_n d_Bk_knotPlace_15 (i := 2) rfl 2 rfl ?_
  refine wp_aload_n d_Bk_knotPlace_16 (i := 0) rfl 0 rfl ?_
  refine wp_getP d_Bk_knotPlace_17 fl_Bk_12 cl_0 rfl (ly_o hly (bk_o hr0)) (bk_r0 hly hr0) ?_
  refine wp_getP d_Bk_knotPlace_20 fl_Bk_78 cl_5 rfl (ly_o hly (rl_o (bk_m0 hr0))) (rl_r2 hly (bk_m0 hr0)) ?_
  refine wp_iload_n d_Bk_knotPlace_23 (i := 1) rfl 1 rfl ?_
  obtain ⟨hi1, h⟩ := h
  refine wp_iaload d_Bk_knotPlace_24 (ly_a (n := 30) (N := 30) hly (rl_a2 (bk_m0 hr0)) hi1) ?_
  refine wp_icmp_ge (tgt := 96) d_Bk_knotPlace_25 (by decide) (fun hc => ?_) (fun hc => ?_)
  · replace h := h.1 hc
    obtain ⟨ho, h⟩ := h
    refine wp_iinc (L' := [(1, vi (x1 + 1)), (0, vr r0), (2, vi x2)]) d_Bk_knotPlace_96 1 rfl rfl (by decide) ho ?_
    refine wp_goto (tgt := 2) d_Bk_knotPlace_99 (by decide) ?_
    exact wp_pick [1, 0] rfl h
  · replace h := h.2 hc
    refine wp_iload_n d_Bk_knotPlace_28 (i := 1) rfl 1 rfl ?_
    refine wp_bipush d_Bk_knotPlace_29 (by decide) (by decide) ?_
    obtain ⟨ho, h⟩ := h
    refine wp_imul d_Bk_knotPlace_31 ho ?_
    refine wp_iload_n d_Bk_knotPlace_32 (i := 2) rfl 2 rfl ?_
    obtain ⟨ho, h⟩ := h
    refine wp_iadd d_Bk_knotPlace_33 ho ?_
    refine wp_istore_n (L' := [(3, vi ((x1 * 6) + x2)), (0, vr r0), (1, vi x1), (2, vi x2)]) d_Bk_knotPlace_34 (i := 3) rfl rfl (by decide) ?_
    refine wp_aload_n d_Bk_knotPlace_35 (i := 0) rfl 1 rfl ?_
    refine wp_getP d_Bk_knotPlace_36 fl_Bk_12 cl_0 rfl (ly_o hly (bk_o hr0)) (bk_r0 hly hr0) ?_
    refine wp_iload_n d_Bk_knotPlace_39 (i := 1) rfl 2 rfl ?_
    refine wp_iload_n d_Bk_knotPlace_40 (i := 3) rfl 0 rfl ?_
    refine wp_callV (A := [vi x1, vi ((x1 * 6) + x2)]) (S := []) d_Bk_knotPlace_41 cv_Bk_knotPlace_85 (ly_o hly (rl_o (bk_m0 hr0))) rfl (Nat.le_of_ble_eq_true rfl) (by decide) (MetS.mono h (fun r w2 hh => ?_))
    obtain ⟨z3, er, h⟩ := hh
    subst er
    refine wp_ly (fun hly => ?_)
    refine wp_if_eq (tgt := 90) d_Bk_knotPlace_44 (by decide) (fun hc => ?_) (fun hc => ?_)
    · replace h := h.1 hc
      obtain ⟨ho, h⟩ := h
      refine wp_iinc (L' := [(2, vi (x2 + 1)), (3, vi ((x1 * 6) + x2)), (0, vr r0), (1, vi x1)]) d_Bk_knotPlace_90 3 rfl rfl (by decide) ho ?_
      refine wp_goto (tgt := 15) d_Bk_knotPlace_93 (by decide) ?_
      exact wp_pick [2, 3, 0] rfl h
    · replace h := h.2 hc
      refine wp_aload_n d_Bk_knotPlace_47 (i := 0) rfl 1 rfl ?_
      refine wp_iload_n d_Bk_knotPlace_48 (i := 1) rfl 2 rfl ?_
      refine wp_iload_n d_Bk_knotPlace_49 (i := 3) rfl 0 rfl ?_
      refine wp_callV (A := [vi x1, vi ((x1 * 6) + x2)]) (S := []) d_Bk_knotPlace_50 cv_Bk_knotPlace_82 (ly_o hly (bk_o hr0)) rfl (Nat.le_of_ble_eq_true rfl) (by decide) (MetS.mono h (fun r w4 hh => ?_))
      obtain ⟨z5, er, h⟩ := hh
      subst er
      refine wp_ly (fun hly => ?_)
      refine wp_if_eq (tgt := 90) d_Bk_knotPlace_53 (by decide) (fun hc => ?_) (fun hc => ?_)
      · replace h := h.1 hc
        obtain ⟨ho, h⟩ := h
        refine wp_iinc (L' := [(2, vi (x2 + 1)), (3, vi ((x1 * 6) + x2)), (0, vr r0), (1, vi x1)]) d_Bk_knotPlace_90 3 rfl rfl (by decide) ho ?_
        refine wp_goto (tgt := 15) d_Bk_knotPlace_93 (by decide) ?_
        exact wp_pick [2, 3, 0] rfl h
      · replace h := h.2 hc
        refine wp_aload_n d_Bk_knotPlace_56 (i := 0) rfl 1 rfl ?_
        refine wp_getP d_Bk_knotPlace_57 fl_Bk_12 cl_0 rfl (ly_o hly (bk_o hr0)) (bk_r0 hly hr0) ?_
        refine wp_getP d_Bk_knotPlace_60 fl_Bk_88 cl_5 rfl (ly_o hly (rl_o (bk_m0 hr0))) (rl_r4 hly (bk_m0 hr0)) ?_
        refine wp_iload_n d_Bk_knotPlace_63 (i := 1) rfl 2 rfl ?_
        obtain ⟨hi6, h⟩ := h
        refine wp_iaload d_Bk_knotPlace_64 (ly_a (n := 30) (N := 30) hly (rl_a4 (bk_m0 hr0)) hi6) ?_
        refine wp_if_le (tgt := 80) d_Bk_knotPlace_65 (by decide) (fun hc => ?_) (fun hc => ?_)
        · replace h := h.1 hc
          refine wp_aload_n d_Bk_knotPlace_80 (i := 0) rfl 1 rfl ?_
          refine wp_getP d_Bk_knotPlace_81 fl_Bk_12 cl_0 rfl (ly_o hly (bk_o hr0)) (bk_r0 hly hr0) ?_
          refine wp_getP d_Bk_knotPlace_84 fl_Bk_94 cl_5 rfl (ly_o hly (rl_o (bk_m0 hr0))) (rl_r8 hly (bk_m0 hr0)) ?_
          refine wp_iload_n d_Bk_knotPlace_87 (i := 3) rfl 0 rfl ?_
          obtain ⟨hi7, h⟩ := h
          refine wp_iaload d_Bk_knotPlace_88 (ly_a (n := 180) (N := 180) hly (rl_a8 (bk_m0 hr0)) hi7) ?_
          exact wp_iret d_Bk_knotPlace_89 rfl (by decide) h
        · replace h := h.2 hc
          refine wp_aload_n d_Bk_knotPlace_68 (i := 0) rfl 1 rfl ?_
          refine wp_getP d_Bk_knotPlace_69 fl_Bk_12 cl_0 rfl (ly_o hly (bk_o hr0)) (bk_r0 hly hr0) ?_
          refine wp_getP d_Bk_knotPlace_72 fl_Bk_91 cl_5 rfl (ly_o hly (rl_o (bk_m0 hr0))) (rl_r5 hly (bk_m0 hr0)) ?_
          refine wp_iload_n d_Bk_knotPlace_75 (i := 1) rfl 2 rfl ?_
          obtain ⟨hi8, h⟩ := h
          refine wp_iaload d_Bk_knotPlace_76 (ly_a (n := 30) (N := 30) hly (rl_a5 (bk_m0 hr0)) hi8) ?_
          refine wp_goto (tgt := 89) d_Bk_knotPlace_77 (by decide) ?_
          exact wp_iret d_Bk_knotPlace_89 rfl (by decide) h
set_option maxRecDepth 20000 in
set_option maxHeartbeats 2000000 in
theorem t_Bk_layStrata_0 {r0 : Nat} (hr0 : isBk r0) {w : Wo} {Q : Option AV → Wo → Prop} (h : Wp m_Bk_layStrata 2 [(0, vr r0), (1, vi 0)] [] (0, 0) w Q) : Wp m_Bk_layStrata 0 [(0, vr r0)] [] (0, 0) w Q := by
  refine wp_ly (fun hly => ?_)
  refine wp_iconst d_Bk_layStrata_0 (by decide) ?_
  refine wp_istore_n (L' := [(1, vi 0), (0, vr r0)]) d_Bk_layStrata_1 (i := 1) rfl rfl (by decide) ?_
  exact wp_pick [1, 0] rfl h
set_option maxRecDepth 20000 in
set_option maxHeartbeats 2000000 in
theorem t_Bk_layStrata_2 {r0 : Nat} {x1 : Int} (hr0 : isBk r0) {w : Wo} {Q : Option AV → Wo → Prop} (h : (((gI w r0 1) ≤ x1 → Q none w) ∧ (¬ (gI w r0 1) ≤ x1 → Wp m_Bk_layStrata 12 [(0, vr r0), (1, vi x1), (2, vi 0)] [] (0, 0) w Q))) : Wp m_Bk_layStrata 2 [(0, vr r0), (1, vi x1)] [] (0, 0) w Q := by
  refine wp_ly (fun hly => ?_)
  refine wp_iload_n d_Bk_layStrata_2 (i := 1) rfl 1 rfl ?_
  refine wp_aload_n d_Bk_layStrata_3 (i := 0) rfl 0 rfl ?_
  refine wp_getI d_Bk_layStrata_4 fl_Bk_38 cl_0 rfl (ly_o hly (bk_o hr0)) ?_
  refine wp_icmp_ge (tgt := 40) d_Bk_layStrata_7 (by decide) (fun hc => ?_) (fun hc => ?_)
  · replace h := h.1 hc
    exact wp_vret d_Bk_layStrata_40 rfl (by decide) h
  · replace h := h.2 hc
    refine wp_iconst d_Bk_layStrata_10 (by decide) ?_
    refine wp_istore_n (L' := [(2, vi 0), (0, vr r0), (1, vi x1)]) d_Bk_layStrata_11 (i := 2) rfl rfl (by decide) ?_
    exact wp_pick [1, 2, 0] rfl h
set_option maxRecDepth 20000 in
set_option maxHeartbeats 2000000 in
theorem t_Bk_layStrata_12 {r0 : Nat} {x1 : Int} {x2 : Int} (hr0 : isBk r0) {w : Wo} {Q : Option AV → Wo → Prop} (h : (((gI w (r0 + 1) 0) ≤ x2 → inr32 (x1 + 1) ∧ Wp m_Bk_layStrata 2 [(0, vr r0), (1, vi (x1 + 1))] [] (0, 0) w Q) ∧ (¬ (gI w (r0 + 1) 0) ≤ x2 → MetV m_Bk_liftHead [vr r0, vi x2] w (fun w1 => inr32 (x2 + 1) ∧ Wp m_Bk_layStrata 12 [(0, vr r0), (1, vi x1), (2, vi (x2 + 1))] [] (0, 0) w1 Q)))) : Wp m_Bk_layStrata 12 [(0, vr r0), (1, vi x1), (2, vi x2)] [] (0, 0) w Q := by
  refine wp_ly (fun hly => ?_)
  refine wp_iload_n d_Bk_layStrata_12 (i := 2) rfl 2 rfl ?_
  refine wp_aload_n d_Bk_layStrata_13 (i := 0) rfl 0 rfl ?_
  refine wp_getP d_Bk_layStrata_14 fl_Bk_12 cl_0 rfl (ly_o hly (bk_o hr0)) (bk_r0 hly hr0) ?_
  refine wp_getI d_Bk_layStrata_17 fl_Bk_42 cl_5 rfl (ly_o hly (rl_o (bk_m0 hr0))) ?_
  refine wp_icmp_ge (tgt := 34) d_Bk_layStrata_20 (by decide) (fun hc => ?_) (fun hc => ?_)
  · replace h := h.1 hc
    obtain ⟨ho, h⟩ := h
    refine wp_iinc (L' := [(1, vi (x1 + 1)), (0, vr r0), (2, vi x2)]) d_Bk_layStrata_34 1 rfl rfl (by decide) ho ?_
    refine wp_goto (tgt := 2) d_Bk_layStrata_37 (by decide) ?_
    exact wp_pick [1, 0] rfl h
  · replace h := h.2 hc
    refine wp_aload_n d_Bk_layStrata_23 (i := 0) rfl 0 rfl ?_
    refine wp_iload_n d_Bk_layStrata_24 (i := 2) rfl 2 rfl ?_
    refine wp_callV (A := [vi x2]) (S := []) d_Bk_layStrata_25 cv_Bk_layStrata_97 (ly_o hly (bk_o hr0)) rfl (Nat.le_of_ble_eq_true rfl) (by decide) (MetS.mono h (fun r w1 hh => ?_))
    obtain ⟨er, h⟩ := hh
    subst er
    refine wp_ly (fun hly => ?_)
    obtain ⟨ho, h⟩ := h
    refine wp_iinc (L' := [(2, vi (x2 + 1)), (0, vr r0), (1, vi x1)]) d_Bk_layStrata_28 2 rfl rfl (by decide) ho ?_
    refine wp_goto (tgt := 12) d_Bk_layStrata_31 (by decide) ?_
    exact wp_pick [1, 2, 0] rfl h
set_option maxRecDepth 20000 in
set_option maxHeartbeats 2000000 in
theorem t_Bk_liftHead_0 {r0 : Nat} {x1 : Int} (hr0 : isBk r0) {w : Wo} {Q : Option AV → Wo → Prop} (h : (0 ≤ x1 ∧ x1 < 30) ∧ Wp m_Bk_liftHead 12 [(0, vr r0), (1, vi x1), (2, vi (gI w ((r0 + 1) + 1) x1.toNat)), (3, vi 0)] [] (0, 0) w Q) : Wp m_Bk_liftHead 0 [(0, vr r0), (1, vi x1)] [] (0, 0) w Q := by
  refine wp_ly (fun hly => ?_)
  refine wp_aload_n d_Bk_liftHead_0 (i := 0) rfl 0 rfl ?_
  refine wp_getP d_Bk_liftHead_1 fl_Bk_12 cl_0 rfl (ly_o hly (bk_o hr0)) (bk_r0 hly hr0) ?_
  refine wp_getP d_Bk_liftHead_4 fl_Bk_75 cl_5 rfl (ly_o hly (rl_o (bk_m0 hr0))) (rl_r1 hly (bk_m0 hr0)) ?_
  refine wp_iload_n d_Bk_liftHead_7 (i := 1) rfl 1 rfl ?_
  obtain ⟨hi1, h⟩ := h
  refine wp_iaload d_Bk_liftHead_8 (ly_a (n := 30) (N := 30) hly (rl_a1 (bk_m0 hr0)) hi1) ?_
  refine wp_istore_n (L' := [(2, vi (gI w ((r0 + 1) + 1) x1.toNat)), (0, vr r0), (1, vi x1)]) d_Bk_liftHead_9 (i := 2) rfl rfl (by decide) ?_
  refine wp_iconst d_Bk_liftHead_10 (by decide) ?_
  refine wp_istore_n (L' := [(3, vi 0), (2, vi (gI w ((r0 + 1) + 1) x1.toNat)), (0, vr r0), (1, vi x1)]) d_Bk_liftHead_11 (i := 3) rfl rfl (by decide) ?_
  exact wp_pick [2, 3, 1, 0] rfl h
set_option maxRecDepth 20000 in
set_option maxHeartbeats 2000000 in
theorem t_Bk_liftHead_12 {r0 : Nat} {x1 : Int} {x2 : Int} {x3 : Int} (hr0 : isBk r0) {w : Wo} {Q : Option AV → Wo → Prop} (h : (0 ≤ x1 ∧ x1 < 30) ∧ (((gI w ((r0 + 1) + 2) x1.toNat) ≤ x3 → Q none w) ∧ (¬ (gI w ((r0 + 1) + 2) x1.toNat) ≤ x3 → inr32 (x1 * 6) ∧ inr32 ((x1 * 6) + x3) ∧ (0 ≤ ((x1 * 6) + x3) ∧ ((x1 * 6) + x3) < 180) ∧ (((gI w ((r0 + 1) + 7) ((x1 * 6) + x3).toNat) < 0 → inr32 (x3 + 1) ∧ Wp m_Bk_liftHead 12 [(0, vr r0), (1, vi x1), (2, vi x2), (3, vi (x3 + 1))] [] (0, 0) w Q) ∧ (¬ (gI w ((r0 + 1) + 7) ((x1 * 6) + x3).toNat) < 0 → (((gI w r0 1) ≤ (gI w ((r0 + 1) + 7) ((x1 * 6) + x3).toNat) → inr32 (x3 + 1) ∧ Wp m_Bk_liftHead 12 [(0, vr r0), (1, vi x1), (2, vi x2), (3, vi (x3 + 1))] [] (0, 0) w Q) ∧ (¬ (gI w r0 1) ≤ (gI w ((r0 + 1) + 7) ((x1 * 6) + x3).toNat) → (0 ≤ (gI w ((r0 + 1) + 7) ((x1 * 6) + x3).toNat) ∧ (gI w ((r0 + 1) + 7) ((x1 * 6) + x3).toNat) < 16) ∧ MetI m_Rl_waits [vr (r0 + 1), vi x1, vi ((x1 * 6) + x3)] w (fun z5 w4 => ((z5 = 0 → inr32 ((gI w (r0 + 17) (gI w ((r0 + 1) + 7) ((x1 * 6) + x3).toNat).toNat) + 0) ∧ (0 ≤ x2 ∧ x2 < 16) ∧ (0 ≤ x2 ∧ x2 < 16) ∧ (∀ w8 : Wo, w8 = uI w4 (r0 + 17) x2.toNat (if (gI w4 (r0 + 17) x2.toNat) < ((gI w (r0 + 17) (gI w ((r0 + 1) + 7) ((x1 * 6) + x3).toNat).toNat) + 0) then ((gI w (r0 + 17) (gI w ((r0 + 1) + 7) ((x1 * 6) + x3).toNat).toNat) + 0) else (gI w4 (r0 + 17) x2.toNat)) → inr32 (x3 + 1) ∧ Wp m_Bk_liftHead 12 [(0, vr r0), (1, vi x1), (2, vi x2), (3, vi (x3 + 1))] [] (0, 0) w8 Q)) ∧ (¬ z5 = 0 → inr32 ((gI w (r0 + 17) (gI w ((r0 + 1) + 7) ((x1 * 6) + x3).toNat).toNat) + 1) ∧ (0 ≤ x2 ∧ x2 < 16) ∧ (0 ≤ x2 ∧ x2 < 16) ∧ (∀ w12 : Wo, w12 = uI w4 (r0 + 17) x2.toNat (if (gI w4 (r0 + 17) x2.toNat) < ((gI w (r0 + 17) (gI w ((r0 + 1) + 7) ((x1 * 6) + x3).toNat).toNat) + 1) then ((gI w (r0 + 17) (gI w ((r0 + 1) + 7) ((x1 * 6) + x3).toNat).toNat) + 1) else (gI w4 (r0 + 17) x2.toNat)) → inr32 (x3 + 1) ∧ Wp m_Bk_liftHead 12 [(0, vr r0), (1, vi x1), (2, vi x2), (3, vi (x3 + 1))] [] (0, 0) w12 Q))))))))))) : Wp m_Bk_liftHead 12 [(0, vr r0), (1, vi x1), (2, vi x2), (3, vi x3)] [] (0, 0) w Q := by
  refine wp_ly (fun hly => ?_)
  refine wp_iload_n d_Bk_liftHead_12 (i := 3) rfl 3 rfl ?_
  refine wp_aload_n d_Bk_liftHead_13 (i := 0) rfl 0 rfl ?_
  refine wp_getP d_Bk_liftHead_14 fl_Bk_12 cl_0 rfl (ly_o hly (bk_o hr0)) (bk_r0 hly hr0) ?_
  refine wp_getP d_Bk_liftHead_17 fl_Bk_78 cl_5 rfl (ly_o hly (rl_o (bk_m0 hr0))) (rl_r2 hly (bk_m0 hr0)) ?_
  refine wp_iload_n d_Bk_liftHead_20 (i := 1) rfl 1 rfl ?_
  obtain ⟨hi1, h⟩ := h
  refine wp_iaload d_Bk_liftHead_21 (ly_a (n := 30) (N := 30) hly (rl_a2 (bk_m0 hr0)) hi1) ?_
  refine wp_icmp_ge (tgt := 110) d_Bk_liftHead_22 (by decide) (fun hc => ?_) (fun hc => ?_)
  · replace h := h.1 hc
    exact wp_vret d_Bk_liftHead_110 rfl (by decide) h
  · replace h := h.2 hc
    refine wp_iload_n d_Bk_liftHead_25 (i := 1) rfl 1 rfl ?_
    refine wp_bipush d_Bk_liftHead_26 (by decide) (by decide) ?_
    obtain ⟨ho, h⟩ := h
    refine wp_imul d_Bk_liftHead_28 ho ?_
    refine wp_iload_n d_Bk_liftHead_29 (i := 3) rfl 3 rfl ?_
    obtain ⟨ho, h⟩ := h
    refine wp_iadd d_Bk_liftHead_30 ho ?_
    refine wp_istore (L' := [(4, vi ((x1 * 6) + x3)), (0, vr r0), (1, vi x1), (2, vi x2), (3, vi x3)]) d_Bk_liftHead_31 rfl (by decide) ?_
    refine wp_aload_n d_Bk_liftHead_33 (i := 0) rfl 1 rfl ?_
    refine wp_getP d_Bk_liftHead_34 fl_Bk_12 cl_0 rfl (ly_o hly (bk_o hr0)) (bk_r0 hly hr0) ?_
    refine wp_getP d_Bk_liftHead_37 fl_Bk_73 cl_5 rfl (ly_o hly (rl_o (bk_m0 hr0))) (rl_r7 hly (bk_m0 hr0)) ?_
    refine wp_iload d_Bk_liftHead_40 0 rfl ?_
    obtain ⟨hi2, h⟩ := h
    refine wp_iaload d_Bk_liftHead_42 (ly_a (n := 180) (N := 180) hly (rl_a7 (bk_m0 hr0)) hi2) ?_
    refine wp_istore (L' := [(5, vi (gI w ((r0 + 1) + 7) ((x1 * 6) + x3).toNat)), (4, vi ((x1 * 6) + x3)), (0, vr r0), (1, vi x1), (2, vi x2), (3, vi x3)]) d_Bk_liftHead_43 rfl (by decide) ?_
    refine wp_iload d_Bk_liftHead_45 0 rfl ?_
    refine wp_if_lt (tgt := 104) d_Bk_liftHead_47 (by decide) (fun hc => ?_) (fun hc => ?_)
    · replace h := h.1 hc
      obtain ⟨ho, h⟩ := h
      refine wp_iinc (L' := [(3, vi (x3 + 1)), (5, vi (gI w ((r0 + 1) + 7) ((x1 * 6) + x3).toNat)), (4, vi ((x1 * 6) + x3)), (0, vr r0), (1, vi x1), (2, vi x2)]) d_Bk_liftHead_104 5 rfl rfl (by decide) ho ?_
      refine wp_goto (tgt := 12) d_Bk_liftHead_107 (by decide) ?_
      exact wp_pick [3, 4, 5, 0] rfl h
    · replace h := h.2 hc
      refine wp_iload d_Bk_liftHead_50 0 rfl ?_
      refine wp_aload_n d_Bk_liftHead_52 (i := 0) rfl 2 rfl ?_
      refine wp_getI d_Bk_liftHead_53 fl_Bk_38 cl_0 rfl (ly_o hly (bk_o hr0)) ?_
      refine wp_icmp_ge (tgt := 104) d_Bk_liftHead_56 (by decide) (fun hc => ?_) (fun hc => ?_)
      · replace h := h.1 hc
        obtain ⟨ho, h⟩ := h
        refine wp_iinc (L' := [(3, vi (x3 + 1)), (5, vi (gI w ((r0 + 1) + 7) ((x1 * 6) + x3).toNat)), (4, vi ((x1 * 6) + x3)), (0, vr r0), (1, vi x1), (2, vi x2)]) d_Bk_liftHead_104 5 rfl rfl (by decide) ho ?_
        refine wp_goto (tgt := 12) d_Bk_liftHead_107 (by decide) ?_
        exact wp_pick [3, 4, 5, 0] rfl h
      · replace h := h.2 hc
        refine wp_aload_n d_Bk_liftHead_59 (i := 0) rfl 2 rfl ?_
        refine wp_getP d_Bk_liftHead_60 fl_Bk_32 cl_0 rfl (ly_o hly (bk_o hr0)) (bk_r6 hly hr0) ?_
        refine wp_iload d_Bk_liftHead_63 0 rfl ?_
        obtain ⟨hi3, h⟩ := h
        refine wp_iaload d_Bk_liftHead_65 (ly_a (n := 16) (N := 16) hly (bk_a6 hr0) hi3) ?_
        refine wp_aload_n d_Bk_liftHead_66 (i := 0) rfl 2 rfl ?_
        refine wp_getP d_Bk_liftHead_67 fl_Bk_12 cl_0 rfl (ly_o hly (bk_o hr0)) (bk_r0 hly hr0) ?_
        refine wp_iload_n d_Bk_liftHead_70 (i := 1) rfl 3 rfl ?_
        refine wp_iload d_Bk_liftHead_71 1 rfl ?_
        refine wp_callV (A := [vi x1, vi ((x1 * 6) + x3)]) (S := [vi (gI w (r0 + 17) (gI w ((r0 + 1) + 7) ((x1 * 6) + x3).toNat).toNat)]) d_Bk_liftHead_73 cv_Bk_liftHead_85 (ly_o hly (rl_o (bk_m0 hr0))) rfl (Nat.le_of_ble_eq_true rfl) (by decide) (MetS.mono h (fun r w4 hh => ?_))
        obtain ⟨z5, er, h⟩ := hh
        subst er
        refine wp_ly (fun hly => ?_)
        refine wp_if_eq (tgt := 83) d_Bk_liftHead_76 (by decide) (fun hc => ?_) (fun hc => ?_)
        · replace h := h.1 hc
          refine wp_iconst d_Bk_liftHead_83 (by decide) ?_
          obtain ⟨ho, h⟩ := h
          refine wp_iadd d_Bk_liftHead_84 ho ?_
          refine wp_istore (L' := [(6, vi ((gI w (r0 + 17) (gI w ((r0 + 1) + 7) ((x1 * 6) + x3).toNat).toNat) + 0)), (5, vi (gI w ((r0 + 1) + 7) ((x1 * 6) + x3).toNat)), (4, vi ((x1 * 6) + x3)), (0, vr r0), (1, vi x1), (2, vi x2), (3, vi x3)]) d_Bk_liftHead_85 rfl (by decide) ?_
          refine wp_aload_n d_Bk_liftHead_87 (i := 0) rfl 3 rfl ?_
          refine wp_getP d_Bk_liftHead_88 fl_Bk_32 cl_0 rfl (ly_o hly (bk_o hr0)) (bk_r6 hly hr0) ?_
          refine wp_iload_n d_Bk_liftHead_91 (i := 2) rfl 5 rfl ?_
          refine wp_aload_n d_Bk_liftHead_92 (i := 0) rfl 3 rfl ?_
          refine wp_getP d_Bk_liftHead_93 fl_Bk_32 cl_0 rfl (ly_o hly (bk_o hr0)) (bk_r6 hly hr0) ?_
          refine wp_iload_n d_Bk_liftHead_96 (i := 2) rfl 5 rfl ?_
          obtain ⟨hi6, h⟩ := h
          refine wp_iaload d_Bk_liftHead_97 (ly_a (n := 16) (N := 16) hly (bk_a6 hr0) hi6) ?_
          refine wp_iload d_Bk_liftHead_98 0 rfl ?_
          refine wp_mmax d_Bk_liftHead_100 (aw3 (i := 217) rfl rfl) (aw3 (i := 218) rfl rfl) (aw1 (i := 16) rfl rfl) (aw3 (i := 219) rfl rfl) (by decide) (Nat.le_of_ble_eq_true rfl) (by decide) ?_
          obtain ⟨hi7, h⟩ := h
          refine wp_iastore d_Bk_liftHead_103 (ly_a (n := 16) (N := 16) hly (bk_a6 hr0) hi7) (fun w8 e9 => ?_)
          replace h := h w8 e9
          refine wp_ly (fun hly => ?_)
          obtain ⟨ho, h⟩ := h
          refine wp_iinc (L' := [(3, vi (x3 + 1)), (6, vi ((gI w (r0 + 17) (gI w ((r0 + 1) + 7) ((x1 * 6) + x3).toNat).toNat) + 0)), (5, vi (gI w ((r0 + 1) + 7) ((x1 * 6) + x3).toNat)), (4, vi ((x1 * 6) + x3)), (0, vr r0), (1, vi x1), (2, vi x2)]) d_Bk_liftHead_104 6 rfl rfl (by decide) ho ?_
          refine wp_goto (tgt := 12) d_Bk_liftHead_107 (by decide) ?_
          exact wp_pick [4, 5, 6, 0] rfl h
        · replace h := h.2 hc
          refine wp_iconst d_Bk_liftHead_79 (by decide) ?_
          refine wp_goto (tgt := 84) d_Bk_liftHead_80 (by decide) ?_
          obtain ⟨ho, h⟩ := h
          refine wp_iadd d_Bk_liftHead_84 ho ?_
          refine wp_istore (L' := [(6, vi ((gI w (r0 + 17) (gI w ((r0 + 1) + 7) ((x1 * 6) + x3).toNat).toNat) + 1)), (5, vi (gI w ((r0 + 1) + 7) ((x1 * 6) + x3).toNat)), (4, vi ((x1 * 6) + x3)), (0, vr r0), (1, vi x1), (2, vi x2), (3, vi x3)]) d_Bk_liftHead_85 rfl (by decide) ?_
          refine wp_aload_n d_Bk_liftHead_87 (i := 0) rfl 3 rfl ?_
          refine wp_getP d_Bk_liftHead_88 fl_Bk_32 cl_0 rfl (ly_o hly (bk_o hr0)) (bk_r6 hly hr0) ?_
          refine wp_iload_n d_Bk_liftHead_91 (i := 2) rfl 5 rfl ?_
          refine wp_aload_n d_Bk_liftHead_92 (i := 0) rfl 3 rfl ?_
          refine wp_getP d_Bk_liftHead_93 fl_Bk_32 cl_0 rfl (ly_o hly (bk_o hr0)) (bk_r6 hly hr0) ?_
          refine wp_iload_n d_Bk_liftHead_96 (i := 2) rfl 5 rfl ?_
          obtain ⟨hi10, h⟩ := h
          refine wp_iaload d_Bk_liftHead_97 (ly_a (n := 16) (N := 16) hly (bk_a6 hr0) hi10) ?_
          refine wp_iload d_Bk_liftHead_98 0 rfl ?_
          refine wp_mmax d_Bk_liftHead_100 (aw3 (i := 217) rfl rfl) (aw3 (i := 218) rfl rfl) (aw1 (i := 16) rfl rfl) (aw3 (i := 219) rfl rfl) (by decide) (Nat.le_of_ble_eq_true rfl) (by decide) ?_
          obtain ⟨hi11, h⟩ := h
          refine wp_iastore d_Bk_liftHead_103 (ly_a (n := 16) (N := 16) hly (bk_a6 hr0) hi11) (fun w12 e13 => ?_)
          replace h := h w12 e13
          refine wp_ly (fun hly => ?_)
          obtain ⟨ho, h⟩ := h
          refine wp_iinc (L' := [(3, vi (x3 + 1)), (6, vi ((gI w (r0 + 17) (gI w ((r0 + 1) + 7) ((x1 * 6) + x3).toNat).toNat) + 1)), (5, vi (gI w ((r0 + 1) + 7) ((x1 * 6) + x3).toNat)), (4, vi ((x1 * 6) + x3)), (0, vr r0), (1, vi x1), (2, vi x2)]) d_Bk_liftHead_104 6 rfl rfl (by decide) ho ?_
          refine wp_goto (tgt := 12) d_Bk_liftHead_107 (by decide) ?_
          exact wp_pick [4, 5, 6, 0] rfl h

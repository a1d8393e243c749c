set_option maxRecDepth 20000 in
set_option maxHeartbeats 2000000 in
theorem t_M_thrown_0   {w : Wo} {Q : Option AV → Wo → Prop} (h : Q (some (vi (gI w 78 0))) w) : Wp m_M_thrown 0 [(0, vr 78)] [] (0, 0) w Q := by
  refine wp_ly (fun hly => ?_)
  refine wp_aload_n d_M_thrown_0 (i := 0) rfl 0 rfl ?_
  refine wp_getI d_M_thrown_1 fl_M_126 cl_9 rfl (ly_o hly (by decide)) ?_
  exact wp_iret d_M_thrown_4 rfl (by decide) h
set_option maxRecDepth 20000 in
set_option maxHeartbeats 2000000 in
theorem t_M_raise_0 {x1 : Int}  {w : Wo} {Q : Option AV → Wo → Prop} (h : (∀ w1 : Wo, w1 = uI w 78 0 x1 → Q (some (vi 0)) w1)) : Wp m_M_raise 0 [(0, vr 78), (1, vi x1)] [] (0, 0) w Q := by
  refine wp_ly (fun hly => ?_)
  refine wp_aload_n d_M_raise_0 (i := 0) rfl 0 rfl ?_
  refine wp_iload_n d_M_raise_1 (i := 1) rfl 1 rfl ?_
  refine wp_putI d_M_raise_2 fl_M_126 cl_9 ⟨rfl, rfl⟩ (ly_o hly (by decide)) (fun w1 e2 => ?_)
  replace h := h w1 e2
  refine wp_ly (fun hly => ?_)
  refine wp_iconst d_M_raise_5 (by decide) ?_
  exact wp_iret d_M_raise_6 rfl (by decide) h
set_option maxRecDepth 20000 in
set_option maxHeartbeats 2000000 in
theorem t_M_type_0 {y1 : Int} {x3 : Int}  {w : Wo} {Q : Option AV → Wo → Prop} (h : (∀ w1 : Wo, w1 = uI w 78 0 0 → ((x3 < 1 → Q (some (vi 0)) w1) ∧ (¬ x3 < 1 → ((8 < x3 → Q (some (vi 0)) w1) ∧ (¬ 8 < x3 → inr32 ((gI w1 78 2) + x3) ∧ ((((gI w1 78 2) + x3) ≤ 600 → Wp m_M_type 33 [(0, vr 78), (1, vl y1), (3, vi x3), (4, vi 0)] [] (0, 0) w1 Q) ∧ (¬ ((gI w1 78 2) + x3) ≤ 600 → Q (some (vi 0)) w1)))))))) : Wp m_M_type 0 [(0, vr 78), (1, vl y1), (3, vi x3)] [] (0, 0) w Q := by
  refine wp_ly (fun hly => ?_)
  refine wp_aload_n d_M_type_0 (i := 0) rfl 0 rfl ?_
  refine wp_iconst d_M_type_1 (by decide) ?_
  refine wp_putI d_M_type_2 fl_M_126 cl_9 ⟨rfl, rfl⟩ (ly_o hly (by decide)) (fun w1 e2 => ?_)
  replace h := h w1 e2
  refine wp_ly (fun hly => ?_)
  refine wp_iload_n d_M_type_5 (i := 3) rfl 2 rfl ?_
  refine wp_iconst d_M_type_6 (by decide) ?_
  refine wp_icmp_lt (tgt := 28) d_M_type_7 (by decide) (fun hc => ?_) (fun hc => ?_)
  · replace h := h.1 hc
    refine wp_iconst d_M_type_28 (by decide) ?_
    exact wp_zret d_M_type_29 rfl (by decide) (by decide) h
  · replace h := h.2 hc
    refine wp_iload_n d_M_type_10 (i := 3) rfl 2 rfl ?_
    refine wp_bipush d_M_type_11 (by decide) (by decide) ?_
    refine wp_icmp_gt (tgt := 28) d_M_type_13 (by decide) (fun hc => ?_) (fun hc => ?_)
    · replace h := h.1 hc
      refine wp_iconst d_M_type_28 (by decide) ?_
      exact wp_zret d_M_type_29 rfl (by decide) (by decide) h
    · replace h := h.2 hc
      refine wp_aload_n d_M_type_16 (i := 0) rfl 0 rfl ?_
      refine wp_getI d_M_type_17 fl_M_130 cl_9 rfl (ly_o hly (by decide)) ?_
      refine wp_iload_n d_M_type_20 (i := 3) rfl 2 rfl ?_
      obtain ⟨ho, h⟩ := h
      refine wp_iadd d_M_type_21 ho ?_
      refine wp_sipush d_M_type_22 (by decide) (by decide) ?_
      refine wp_icmp_le (tgt := 30) d_M_type_25 (by decide) (fun hc => ?_) (fun hc => ?_)
      · replace h := h.1 hc
        refine wp_iconst d_M_type_30 (by decide) ?_
        refine wp_istore (L' := [(4, vi 0), (0, vr 78), (1, vl y1), (3, vi x3)]) d_M_type_31 rfl (by decide) ?_
        exact wp_pick [1, 2, 3, 0] rfl h
      · replace h := h.2 hc
        refine wp_iconst d_M_type_28 (by decide) ?_
        exact wp_zret d_M_type_29 rfl (by decide) (by decide) h
set_option maxRecDepth 20000 in
set_option maxHeartbeats 2000000 in
theorem t_M_type_33 {y1 : Int} {x3 : Int} {x4 : Int}  {w : Wo} {Q : Option AV → Wo → Prop} (h : ((x3 ≤ x4 → inr32 (x3 - 1) ∧ Wp m_M_type 80 [(0, vr 78), (1, vl y1), (4, vi (x3 - 1))] [] (0, 0) w Q) ∧ (¬ x3 ≤ x4 → inr32 (8 * x4) ∧ (((b_l2i (b_land (b_lshr y1 (8 * x4)) 255)) < 32 → Q (some (vi 0)) w) ∧ (¬ (b_l2i (b_land (b_lshr y1 (8 * x4)) 255)) < 32 → (((b_l2i (b_land (b_lshr y1 (8 * x4)) 255)) ≤ 126 → inr32 (x4 + 1) ∧ Wp m_M_type 33 [(0, vr 78), (1, vl y1), (3, vi x3), (4, vi (x4 + 1))] [] (0, 0) w Q) ∧ (¬ (b_l2i (b_land (b_lshr y1 (8 * x4)) 255)) ≤ 126 → Q (some (vi 0)) w))))))) : Wp m_M_type 33 [(0, vr 78), (1, vl y1), (3, vi x3), (4, vi x4)] [] (0, 0) w Q := by
  refine wp_ly (fun hly => ?_)
  refine wp_iload d_M_type_33 3 rfl ?_
  refine wp_iload_n d_M_type_35 (i := 3) rfl 2 rfl ?_
  refine wp_icmp_ge (tgt := 75) d_M_type_36 (by decide) (fun hc => ?_) (fun hc => ?_)
  · replace h := h.1 hc
    refine wp_iload_n d_M_type_75 (i := 3) rfl 2 rfl ?_
    refine wp_iconst d_M_type_76 (by decide) ?_
    obtain ⟨ho, h⟩ := h
    refine wp_isub d_M_type_77 ho ?_
    refine wp_istore (L' := [(4, vi (x3 - 1)), (0, vr 78), (1, vl y1), (3, vi x3)]) d_M_type_78 rfl (by decide) ?_
    exact wp_pick [1, 2, 0] rfl h
  · replace h := h.2 hc
    refine wp_lload_n d_M_type_39 (i := 1) rfl 1 rfl ?_
    refine wp_bipush d_M_type_40 (by decide) (by decide) ?_
    refine wp_iload d_M_type_42 3 rfl ?_
    obtain ⟨ho, h⟩ := h
    refine wp_imul d_M_type_44 ho ?_
    refine wp_lshr d_M_type_45 ?_
    refine wp_ldc2 d_M_type_46 (x := 255) lc_M_133 (by decide) ?_
    refine wp_land d_M_type_49 ?_
    refine wp_l2i d_M_type_50 ?_
    refine wp_istore (L' := [(5, vi (b_l2i (b_land (b_lshr y1 (8 * x4)) 255))), (0, vr 78), (1, vl y1), (3, vi x3), (4, vi x4)]) d_M_type_51 rfl (by decide) ?_
    refine wp_iload d_M_type_53 0 rfl ?_
    refine wp_bipush d_M_type_55 (by decide) (by decide) ?_
    refine wp_icmp_lt (tgt := 67) d_M_type_57 (by decide) (fun hc => ?_) (fun hc => ?_)
    · replace h := h.1 hc
      refine wp_iconst d_M_type_67 (by decide) ?_
      exact wp_zret d_M_type_68 rfl (by decide) (by decide) h
    · replace h := h.2 hc
      refine wp_iload d_M_type_60 0 rfl ?_
      refine wp_bipush d_M_type_62 (by decide) (by decide) ?_
      refine wp_icmp_le (tgt := 69) d_M_type_64 (by decide) (fun hc => ?_) (fun hc => ?_)
      · replace h := h.1 hc
        obtain ⟨ho, h⟩ := h
        refine wp_iinc (L' := [(4, vi (x4 + 1)), (5, vi (b_l2i (b_land (b_lshr y1 (8 * x4)) 255))), (0, vr 78), (1, vl y1), (3, vi x3)]) d_M_type_69 4 rfl rfl (by decide) ho ?_
        refine wp_goto (tgt := 33) d_M_type_72 (by decide) ?_
        exact wp_pick [2, 3, 4, 0] rfl h
      · replace h := h.2 hc
        refine wp_iconst d_M_type_67 (by decide) ?_
        exact wp_zret d_M_type_68 rfl (by decide) (by decide) h
set_option maxRecDepth 20000 in
set_option maxHeartbeats 2000000 in
theorem t_M_type_80 {y1 : Int} {x4 : Int}  {w : Wo} {Q : Option AV → Wo → Prop} (h : ((x4 < 0 → Q (some (vi 1)) w) ∧ (¬ x4 < 0 → inr32 (8 * x4) ∧ (0 ≤ (gI w 78 2) ∧ (gI w 78 2) < 600) ∧ (∀ w2 : Wo, w2 = uI w 79 (gI w 78 2).toNat (b_l2i (b_land (b_lshr y1 (8 * x4)) 255)) → inr32 ((gI w2 78 2) + 1) ∧ (∀ w4 : Wo, w4 = uI w2 78 2 ((gI w2 78 2) + 1) → inr32 (x4 + (-1)) ∧ Wp m_M_type 80 [(0, vr 78), (1, vl y1), (4, vi (x4 + (-1)))] [] (0, 0) w4 Q))))) : Wp m_M_type 80 [(0, vr 78), (1, vl y1), (4, vi x4)] [] (0, 0) w Q := by
  refine wp_ly (fun hly => ?_)
  refine wp_iload d_M_type_80 2 rfl ?_
  refine wp_if_lt (tgt := 122) d_M_type_82 (by decide) (fun hc => ?_) (fun hc => ?_)
  · replace h := h.1 hc
    refine wp_iconst d_M_type_122 (by decide) ?_
    exact wp_zret d_M_type_123 rfl (by decide) (by decide) h
  · replace h := h.2 hc
    refine wp_aload_n d_M_type_85 (i := 0) rfl 0 rfl ?_
    refine wp_getP d_M_type_86 fl_M_7 cl_9 rfl (ly_o hly (by decide)) (ly_r (v := 79) hly (by decide +kernel)) ?_
    refine wp_aload_n d_M_type_89 (i := 0) rfl 0 rfl ?_
    refine wp_getI d_M_type_90 fl_M_130 cl_9 rfl (ly_o hly (by decide)) ?_
    refine wp_lload_n d_M_type_93 (i := 1) rfl 1 rfl ?_
    refine wp_bipush d_M_type_94 (by decide) (by decide) ?_
    refine wp_iload d_M_type_96 2 rfl ?_
    obtain ⟨ho, h⟩ := h
    refine wp_imul d_M_type_98 ho ?_
    refine wp_lshr d_M_type_99 ?_
    refine wp_ldc2 d_M_type_100 (x := 255) lc_M_133 (by decide) ?_
    refine wp_land d_M_type_103 ?_
    refine wp_l2i d_M_type_104 ?_
    obtain ⟨hi1, h⟩ := h
    refine wp_iastore d_M_type_105 (ly_a (n := 600) (N := 600) hly (by decide) hi1) (fun w2 e3 => ?_)
    replace h := h w2 e3
    refine wp_ly (fun hly => ?_)
    refine wp_aload_n d_M_type_106 (i := 0) rfl 0 rfl ?_
    refine wp_dup d_M_type_107 rfl ?_
    refine wp_getI d_M_type_108 fl_M_130 cl_9 rfl (ly_o hly (by decide)) ?_
    refine wp_iconst d_M_type_111 (by decide) ?_
    obtain ⟨ho, h⟩ := h
    refine wp_iadd d_M_type_112 ho ?_
    refine wp_putI d_M_type_113 fl_M_130 cl_9 ⟨rfl, rfl⟩ (ly_o hly (by decide)) (fun w4 e5 => ?_)
    replace h := h w4 e5
    refine wp_ly (fun hly => ?_)
    obtain ⟨ho, h⟩ := h
    refine wp_iinc (L' := [(4, vi (x4 + (-1))), (0, vr 78), (1, vl y1)]) d_M_type_116 2 rfl rfl (by decide) ho ?_
    refine wp_goto (tgt := 80) d_M_type_119 (by decide) ?_
    exact wp_pick [1, 2, 0] rfl h
set_option maxRecDepth 20000 in
set_option maxHeartbeats 2000000 in
theorem t_M_see_0 {x1 : Int}  {w : Wo} {Q : Option AV → Wo → Prop} (h : (((gI w 78 2) ≤ x1 → Q (some (vi 0)) w) ∧ (¬ (gI w 78 2) ≤ x1 → (0 ≤ x1 ∧ x1 < 600) ∧ Q (some (vi (gI w 79 x1.toNat))) w))) : Wp m_M_see 0 [(0, vr 78), (1, vi x1)] [] (0, 0) w Q := by
  refine wp_ly (fun hly => ?_)
  refine wp_iload_n d_M_see_0 (i := 1) rfl 1 rfl ?_
  refine wp_aload_n d_M_see_1 (i := 0) rfl 0 rfl ?_
  refine wp_getI d_M_see_2 fl_M_130 cl_9 rfl (ly_o hly (by decide)) ?_
  refine wp_icmp_ge (tgt := 17) d_M_see_5 (by decide) (fun hc => ?_) (fun hc => ?_)
  · replace h := h.1 hc
    refine wp_iconst d_M_see_17 (by decide) ?_
    exact wp_iret d_M_see_18 rfl (by decide) h
  · replace h := h.2 hc
    refine wp_aload_n d_M_see_8 (i := 0) rfl 0 rfl ?_
    refine wp_getP d_M_see_9 fl_M_7 cl_9 rfl (ly_o hly (by decide)) (ly_r (v := 79) hly (by decide +kernel)) ?_
    refine wp_iload_n d_M_see_12 (i := 1) rfl 1 rfl ?_
    obtain ⟨hi1, h⟩ := h
    refine wp_iaload d_M_see_13 (ly_a (n := 600) (N := 600) hly (by decide) hi1) ?_
    refine wp_goto (tgt := 18) d_M_see_14 (by decide) ?_
    exact wp_iret d_M_see_18 rfl (by decide) h
set_option maxRecDepth 20000 in
set_option maxHeartbeats 2000000 in
theorem t_M_isDigit_0 {x0 : Int}  {w : Wo} {Q : Option AV → Wo → Prop} (h : ((x0 < 48 → Q (some (vi 0)) w) ∧ (¬ x0 < 48 → ((57 < x0 → Q (some (vi 0)) w) ∧ (¬ 57 < x0 → Q (some (vi 1)) w))))) : Wp m_M_isDigit 0 [(0, vi x0)] [] (0, 0) w Q := by
  refine wp_ly (fun hly => ?_)
  refine wp_iload_n d_M_isDigit_0 (i := 0) rfl 0 rfl ?_
  refine wp_bipush d_M_isDigit_1 (by decide) (by decide) ?_
  refine wp_icmp_lt (tgt := 16) d_M_isDigit_3 (by decide) (fun hc => ?_) (fun hc => ?_)
  · replace h := h.1 hc
    refine wp_iconst d_M_isDigit_16 (by decide) ?_
    exact wp_zret d_M_isDigit_17 rfl (by decide) (by decide) h
  · replace h := h.2 hc
    refine wp_iload_n d_M_isDigit_6 (i := 0) rfl 0 rfl ?_
    refine wp_bipush d_M_isDigit_7 (by decide) (by decide) ?_
    refine wp_icmp_gt (tgt := 16) d_M_isDigit_9 (by decide) (fun hc => ?_) (fun hc => ?_)
    · replace h := h.1 hc
      refine wp_iconst d_M_isDigit_16 (by decide) ?_
      exact wp_zret d_M_isDigit_17 rfl (by decide) (by decide) h
    · replace h := h.2 hc
      refine wp_iconst d_M_isDigit_12 (by decide) ?_
      refine wp_goto (tgt := 17) d_M_isDigit_13 (by decide) ?_
      exact wp_zret d_M_isDigit_17 rfl (by decide) (by decide) h
set_option maxRecDepth 20000 in
set_option maxHeartbeats 2000000 in
theorem t_M_isSmall_0 {x0 : Int}  {w : Wo} {Q : Option AV → Wo → Prop} (h : ((x0 < 97 → Q (some (vi 0)) w) ∧ (¬ x0 < 97 → ((122 < x0 → Q (some (vi 0)) w) ∧ (¬ 122 < x0 → Q (some (vi 1)) w))))) : Wp m_M_isSmall 0 [(0, vi x0)] [] (0, 0) w Q := by
  refine wp_ly (fun hly => ?_)
  refine wp_iload_n d_M_isSmall_0 (i := 0) rfl 0 rfl ?_
  refine wp_bipush d_M_isSmall_1 (by decide) (by decide) ?_
  refine wp_icmp_lt (tgt := 16) d_M_isSmall_3 (by decide) (fun hc => ?_) (fun hc => ?_)
  · replace h := h.1 hc
    refine wp_iconst d_M_isSmall_16 (by decide) ?_
    exact wp_zret d_M_isSmall_17 rfl (by decide) (by decide) h
  · replace h := h.2 hc
    refine wp_iload_n d_M_isSmall_6 (i := 0) rfl 0 rfl ?_
    refine wp_bipush d_M_isSmall_7 (by decide) (by decide) ?_
    refine wp_icmp_gt (tgt := 16) d_M_isSmall_9 (by decide) (fun hc => ?_) (fun hc => ?_)
    · replace h := h.1 hc
      refine wp_iconst d_M_isSmall_16 (by decide) ?_
      exact wp_zret d_M_isSmall_17 rfl (by decide) (by decide) h
    · replace h := h.2 hc
      refine wp_iconst d_M_isSmall_12 (by decide) ?_
      refine wp_goto (tgt := 17) d_M_isSmall_13 (by decide) ?_
      exact wp_zret d_M_isSmall_17 rfl (by decide) (by decide) h
set_option maxRecDepth 20000 in
set_option maxHeartbeats 2000000 in
theorem t_M_isGreat_0 {x0 : Int}  {w : Wo} {Q : Option AV → Wo → Prop} (h : ((x0 < 65 → Q (some (vi 0)) w) ∧ (¬ x0 < 65 → ((90 < x0 → Q (some (vi 0)) w) ∧ (¬ 90 < x0 → Q (some (vi 1)) w))))) : Wp m_M_isGreat 0 [(0, vi x0)] [] (0, 0) w Q := by
  refine wp_ly (fun hly => ?_)
  refine wp_iload_n d_M_isGreat_0 (i := 0) rfl 0 rfl ?_
  refine wp_bipush d_M_isGreat_1 (by decide) (by decide) ?_
  refine wp_icmp_lt (tgt := 16) d_M_isGreat_3 (by decide) (fun hc => ?_) (fun hc => ?_)
  · replace h := h.1 hc
    refine wp_iconst d_M_isGreat_16 (by decide) ?_
    exact wp_zret d_M_isGreat_17 rfl (by decide) (by decide) h
  · replace h := h.2 hc
    refine wp_iload_n d_M_isGreat_6 (i := 0) rfl 0 rfl ?_
    refine wp_bipush d_M_isGreat_7 (by decide) (by decide) ?_
    refine wp_icmp_gt (tgt := 16) d_M_isGreat_9 (by decide) (fun hc => ?_) (fun hc => ?_)
    · replace h := h.1 hc
      refine wp_iconst d_M_isGreat_16 (by decide) ?_
      exact wp_zret d_M_isGreat_17 rfl (by decide) (by decide) h
    · replace h := h.2 hc
      refine wp_iconst d_M_isGreat_12 (by decide) ?_
      refine wp_goto (tgt := 17) d_M_isGreat_13 (by decide) ?_
      exact wp_zret d_M_isGreat_17 rfl (by decide) (by decide) h
set_option maxRecDepth 20000 in
set_option maxHeartbeats 2000000 in
theorem t_M_isPart_0 {x0 : Int}  {w : Wo} {Q : Option AV → Wo → Prop} (h : MetI m_M_isSmall [vi x0] w (fun z2 w1 => ((¬ z2 = 0 → Q (some (vi 1)) w1) ∧ (z2 = 0 → MetI m_M_isGreat [vi x0] w1 (fun z4 w3 => ((¬ z4 = 0 → Q (some (vi 1)) w3) ∧ (z4 = 0 → MetI m_M_isDigit [vi x0] w3 (fun z6 w5 => ((z6 = 0 → Q (some (vi 0)) w5) ∧ (¬ z6 = 0 → Q (some (vi 1)) w5)))))))))) : Wp m_M_isPart 0 [(0, vi x0)] [] (0, 0) w Q := by
  refine wp_ly (fun hly => ?_)
  refine wp_iload_n d_M_isPart_0 (i := 0) rfl 0 rfl ?_
  refine wp_callS (A := [vi x0]) (S := []) d_M_isPart_1 cs_M_isPart_135 rfl (Nat.le_of_ble_eq_true rfl) (by decide) (MetS.mono h (fun r w1 hh => ?_))
  obtain ⟨z2, er, h⟩ := hh
  subst er
  refine wp_ly (fun hly => ?_)
  refine wp_if_ne (tgt := 21) d_M_isPart_4 (by decide) (fun hc => ?_) (fun hc => ?_)
  · replace h := h.1 hc
    refine wp_iconst d_M_isPart_21 (by decide) ?_
    refine wp_goto (tgt := 26) d_M_isPart_22 (by decide) ?_
    exact wp_zret d_M_isPart_26 rfl (by decide) (by decide) h
  · replace h := h.2 hc
    refine wp_iload_n d_M_isPart_7 (i := 0) rfl 0 rfl ?_
    refine wp_callS (A := [vi x0]) (S := []) d_M_isPart_8 cs_M_isPart_139 rfl (Nat.le_of_ble_eq_true rfl) (by decide) (MetS.mono h (fun r w3 hh => ?_))
    obtain ⟨z4, er, h⟩ := hh
    subst er
    refine wp_ly (fun hly => ?_)
    refine wp_if_ne (tgt := 21) d_M_isPart_11 (by decide) (fun hc => ?_) (fun hc => ?_)
    · replace h := h.1 hc
      refine wp_iconst d_M_isPart_21 (by decide) ?_
      refine wp_goto (tgt := 26) d_M_isPart_22 (by decide) ?_
      exact wp_zret d_M_isPart_26 rfl (by decide) (by decide) h
    · replace h := h.2 hc
      refine wp_iload_n d_M_isPart_14 (i := 0) rfl 0 rfl ?_
      refine wp_callS (A := [vi x0]) (S := []) d_M_isPart_15 cs_M_isPart_142 rfl (Nat.le_of_ble_eq_true rfl) (by decide) (MetS.mono h (fun r w5 hh => ?_))
      obtain ⟨z6, er, h⟩ := hh
      subst er
      refine wp_ly (fun hly => ?_)
      refine wp_if_eq (tgt := 25) d_M_isPart_18 (by decide) (fun hc => ?_) (fun hc => ?_)
      · replace h := h.1 hc
        refine wp_iconst d_M_isPart_25 (by decide) ?_
        exact wp_zret d_M_isPart_26 rfl (by decide) (by decide) h
      · replace h := h.2 hc
        refine wp_iconst d_M_isPart_21 (by decide) ?_
        refine wp_goto (tgt := 26) d_M_isPart_22 (by decide) ?_
        exact wp_zret d_M_isPart_26 rfl (by decide) (by decide) h
set_option maxRecDepth 20000 in
set_option maxHeartbeats 2000000 in
theorem t_M_token_0 {x1 : Int} {x2 : Int} {x3 : Int} {y4 : Int}  {w : Wo} {Q : Option AV → Wo → Prop} (h : (0 ≤ (gI w 78 5) ∧ (gI w 78 5) < 602) ∧ (∀ w2 : Wo, w2 = uI w 80 (gI w 78 5).toNat x1 → (0 ≤ (gI w2 78 5) ∧ (gI w2 78 5) < 602) ∧ (∀ w5 : Wo, w5 = uI w2 82 (gI w2 78 5).toNat x2 → (0 ≤ (gI w5 78 5) ∧ (gI w5 78 5) < 602) ∧ (∀ w8 : Wo, w8 = uI w5 81 (gI w5 78 5).toNat x3 → (0 ≤ (gI w8 78 5) ∧ (gI w8 78 5) < 602) ∧ (∀ w11 : Wo, w11 = uJ w8 83 (gI w8 78 5).toNat y4 → inr32 ((gI w11 78 5) + 1) ∧ (∀ w13 : Wo, w13 = uI w11 78 5 ((gI w11 78 5) + 1) → Q none w13)))))) : Wp m_M_token 0 [(0, vr 78), (1, vi x1), (2, vi x2), (3, vi x3), (4, vl y4)] [] (0, 0) w Q := by
  refine wp_ly (fun hly => ?_)
  refine wp_aload_n d_M_token_0 (i := 0) rfl 0 rfl ?_
  refine wp_getP d_M_token_1 fl_M_13 cl_9 rfl (ly_o hly (by decide)) (ly_r (v := 80) hly (by decide +kernel)) ?_
  refine wp_aload_n d_M_token_4 (i := 0) rfl 0 rfl ?_
  refine wp_getI d_M_token_5 fl_M_145 cl_9 rfl (ly_o hly (by decide)) ?_
  refine wp_iload_n d_M_token_8 (i := 1) rfl 1 rfl ?_
  obtain ⟨hi1, h⟩ := h
  refine wp_iastore d_M_token_9 (ly_a (n := 602) (N := 602) hly (by decide) hi1) (fun w2 e3 => ?_)
  replace h := h w2 e3
  refine wp_ly (fun hly => ?_)
  refine wp_aload_n d_M_token_10 (i := 0) rfl 0 rfl ?_
  refine wp_getP d_M_token_11 fl_M_19 cl_9 rfl (ly_o hly (by decide)) (ly_r (v := 82) hly (by decide +kernel)) ?_
  refine wp_aload_n d_M_token_14 (i := 0) rfl 0 rfl ?_
  refine wp_getI d_M_token_15 fl_M_145 cl_9 rfl (ly_o hly (by decide)) ?_
  refine wp_iload_n d_M_token_18 (i := 2) rfl 2 rfl ?_
  obtain ⟨hi4, h⟩ := h
  refine wp_iastore d_M_token_19 (ly_a (n := 602) (N := 602) hly (by decide) hi4) (fun w5 e6 => ?_)
  replace h := h w5 e6
  refine wp_ly (fun hly => ?_)
  refine wp_aload_n d_M_token_20 (i := 0) rfl 0 rfl ?_
  refine wp_getP d_M_token_21 fl_M_16 cl_9 rfl (ly_o hly (by decide)) (ly_r (v := 81) hly (by decide +kernel)) ?_
  refine wp_aload_n d_M_token_24 (i := 0) rfl 0 rfl ?_
  refine wp_getI d_M_token_25 fl_M_145 cl_9 rfl (ly_o hly (by decide)) ?_
  refine wp_iload_n d_M_token_28 (i := 3) rfl 3 rfl ?_
  obtain ⟨hi7, h⟩ := h
  refine wp_iastore d_M_token_29 (ly_a (n := 602) (N := 602) hly (by decide) hi7) (fun w8 e9 => ?_)
  replace h := h w8 e9
  refine wp_ly (fun hly => ?_)
  refine wp_aload_n d_M_token_30 (i := 0) rfl 0 rfl ?_
  refine wp_getP d_M_token_31 fl_M_22 cl_9 rfl (ly_o hly (by decide)) (ly_r (v := 83) hly (by decide +kernel)) ?_
  refine wp_aload_n d_M_token_34 (i := 0) rfl 0 rfl ?_
  refine wp_getI d_M_token_35 fl_M_145 cl_9 rfl (ly_o hly (by decide)) ?_
  refine wp_lload d_M_token_38 4 rfl ?_
  obtain ⟨hi10, h⟩ := h
  refine wp_lastore d_M_token_40 (ly_a (n := 602) (N := 602) hly (by decide) hi10) (fun w11 e12 => ?_)
  replace h := h w11 e12
  refine wp_ly (fun hly => ?_)
  refine wp_aload_n d_M_token_41 (i := 0) rfl 0 rfl ?_
  refine wp_dup d_M_token_42 rfl ?_
  refine wp_getI d_M_token_43 fl_M_145 cl_9 rfl (ly_o hly (by decide)) ?_
  refine wp_iconst d_M_token_46 (by decide) ?_
  obtain ⟨ho, h⟩ := h
  refine wp_iadd d_M_token_47 ho ?_
  refine wp_putI d_M_token_48 fl_M_145 cl_9 ⟨rfl, rfl⟩ (ly_o hly (by decide)) (fun w13 e14 => ?_)
  replace h := h w13 e14
  refine wp_ly (fun hly => ?_)
  exact wp_vret d_M_token_51 rfl (by decide) h
set_option maxRecDepth 20000 in
set_option maxHeartbeats 2000000 in
theorem t_M_packed_0 {x0 : Int} {x1 : Int} {x2 : Int} {x3 : Int} {x4 : Int}  {w : Wo} {Q : Option AV → Wo → Prop} (h : Q (some (vl (b_lor (b_lshl (b_lor (b_lshl (b_lor (b_lshl (b_lor (b_lshl x0 8) x1) 8) x2) 8) x3) 8) x4))) w) : Wp m_M_packed 0 [(0, vi x0), (1, vi x1), (2, vi x2), (3, vi x3), (4, vi x4)] [] (0, 0) w Q := by
  refine wp_ly (fun hly => ?_)
  refine wp_iload_n d_M_packed_0 (i := 0) rfl 0 rfl ?_
  refine wp_i2l d_M_packed_1 ?_
  refine wp_bipush d_M_packed_2 (by decide) (by decide) ?_
  refine wp_lshl d_M_packed_4 ?_
  refine wp_iload_n d_M_packed_5 (i := 1) rfl 1 rfl ?_
  refine wp_i2l d_M_packed_6 ?_
  refine wp_lor d_M_packed_7 ?_
  refine wp_bipush d_M_packed_8 (by decide) (by decide) ?_
  refine wp_lshl d_M_packed_10 ?_
  refine wp_iload_n d_M_packed_11 (i := 2) rfl 2 rfl ?_
  refine wp_i2l d_M_packed_12 ?_
  refine wp_lor d_M_packed_13 ?_
  refine wp_bipush d_M_packed_14 (by decide) (by decide) ?_
  refine wp_lshl d_M_packed_16 ?_
  refine wp_iload_n d_M_packed_17 (i := 3) rfl 3 rfl ?_
  refine wp_i2l d_M_packed_18 ?_
  refine wp_lor d_M_packed_19 ?_
  refine wp_bipush d_M_packed_20 (by decide) (by decide) ?_
  refine wp_lshl d_M_packed_22 ?_
  refine wp_iload d_M_packed_23 4 rfl ?_
  refine wp_i2l d_M_packed_25 ?_
  refine wp_lor d_M_packed_26 ?_
  exact wp_lret d_M_packed_27 rfl (by decide) h
set_option maxRecDepth 20000 in
set_option maxHeartbeats 2000000 in
theorem t_M_wordOf_0 {y0 : Int}  {w : Wo} {Q : Option AV → Wo → Prop} (h : MetJ m_M_packed [vi 0, vi 0, vi 0, vi 105, vi 115] w (fun z2 w1 => ((¬ (b_lcmp y0 z2) = 0 → MetJ m_M_packed [vi 99, vi 111, vi 117, vi 110, vi 116] w1 (fun z4 w3 => ((¬ (b_lcmp y0 z4) = 0 → MetJ m_M_packed [vi 0, vi 0, vi 115, vi 117, vi 109] w3 (fun z6 w5 => ((¬ (b_lcmp y0 z6) = 0 → MetJ m_M_packed [vi 108, vi 101, vi 97, vi 115, vi 116] w5 (fun z8 w7 => ((¬ (b_lcmp y0 z8) = 0 → MetJ m_M_packed [vi 0, vi 109, vi 111, vi 115, vi 116] w7 (fun z10 w9 => ((¬ (b_lcmp y0 z10) = 0 → Q (some (vi 0)) w9) ∧ ((b_lcmp y0 z10) = 0 → Q (some (vi 5)) w9)))) ∧ ((b_lcmp y0 z8) = 0 → Q (some (vi 4)) w7)))) ∧ ((b_lcmp y0 z6) = 0 → Q (some (vi 3)) w5)))) ∧ ((b_lcmp y0 z4) = 0 → Q (some (vi 2)) w3)))) ∧ ((b_lcmp y0 z2) = 0 → Q (some (vi 1)) w1)))) : Wp m_M_wordOf 0 [(0, vl y0)] [] (0, 0) w Q := by
  refine wp_ly (fun hly => ?_)
  refine wp_lload_n d_M_wordOf_0 (i := 0) rfl 0 rfl ?_
  refine wp_iconst d_M_wordOf_1 (by decide) ?_
  refine wp_iconst d_M_wordOf_2 (by decide) ?_
  refine wp_iconst d_M_wordOf_3 (by decide) ?_
  refine wp_bipush d_M_wordOf_4 (by decide) (by decide) ?_
  refine wp_bipush d_M_wordOf_6 (by decide) (by decide) ?_
  refine wp_callS (A := [vi 0, vi 0, vi 0, vi 105, vi 115]) (S := [vl y0]) d_M_wordOf_8 cs_M_wordOf_148 rfl (Nat.le_of_ble_eq_true rfl) (by decide) (MetS.mono h (fun r w1 hh => ?_))
  obtain ⟨z2, er, h⟩ := hh
  subst er
  refine wp_ly (fun hly => ?_)
  refine wp_lcmp d_M_wordOf_11 ?_
  refine wp_if_ne (tgt := 17) d_M_wordOf_12 (by decide) (fun hc => ?_) (fun hc => ?_)
  · replace h := h.1 hc
    refine wp_lload_n d_M_wordOf_17 (i := 0) rfl 0 rfl ?_
    refine wp_bipush d_M_wordOf_18 (by decide) (by decide) ?_
    refine wp_bipush d_M_wordOf_20 (by decide) (by decide) ?_
    refine wp_bipush d_M_wordOf_22 (by decide) (by decide) ?_
    refine wp_bipush d_M_wordOf_24 (by decide) (by decide) ?_
    refine wp_bipush d_M_wordOf_26 (by decide) (by decide) ?_
    refine wp_callS (A := [vi 99, vi 111, vi 117, vi 110, vi 116]) (S := [vl y0]) d_M_wordOf_28 cs_M_wordOf_148 rfl (Nat.le_of_ble_eq_true rfl) (by decide) (MetS.mono h (fun r w3 hh => ?_))
    obtain ⟨z4, er, h⟩ := hh
    subst er
    refine wp_ly (fun hly => ?_)
    refine wp_lcmp d_M_wordOf_31 ?_
    refine wp_if_ne (tgt := 37) d_M_wordOf_32 (by decide) (fun hc => ?_) (fun hc => ?_)
    · replace h := h.1 hc
      refine wp_lload_n d_M_wordOf_37 (i := 0) rfl 0 rfl ?_
      refine wp_iconst d_M_wordOf_38 (by decide) ?_
      refine wp_iconst d_M_wordOf_39 (by decide) ?_
      refine wp_bipush d_M_wordOf_40 (by decide) (by decide) ?_
      refine wp_bipush d_M_wordOf_42 (by decide) (by decide) ?_
      refine wp_bipush d_M_wordOf_44 (by decide) (by decide) ?_
      refine wp_callS (A := [vi 0, vi 0, vi 115, vi 117, vi 109]) (S := [vl y0]) d_M_wordOf_46 cs_M_wordOf_148 rfl (Nat.le_of_ble_eq_true rfl) (by decide) (MetS.mono h (fun r w5 hh => ?_))
      obtain ⟨z6, er, h⟩ := hh
      subst er
      refine wp_ly (fun hly => ?_)
      refine wp_lcmp d_M_wordOf_49 ?_
      refine wp_if_ne (tgt := 55) d_M_wordOf_50 (by decide) (fun hc => ?_) (fun hc => ?_)
      · replace h := h.1 hc
        refine wp_lload_n d_M_wordOf_55 (i := 0) rfl 0 rfl ?_
        refine wp_bipush d_M_wordOf_56 (by decide) (by decide) ?_
        refine wp_bipush d_M_wordOf_58 (by decide) (by decide) ?_
        refine wp_bipush d_M_wordOf_60 (by decide) (by decide) ?_
        refine wp_bipush d_M_wordOf_62 (by decide) (by decide) ?_
        refine wp_bipush d_M_wordOf_64 (by decide) (by decide) ?_
        refine wp_callS (A := [vi 108, vi 101, vi 97, vi 115, vi 116]) (S := [vl y0]) d_M_wordOf_66 cs_M_wordOf_148 rfl (Nat.le_of_ble_eq_true rfl) (by decide) (MetS.mono h (fun r w7 hh => ?_))
        obtain ⟨z8, er, h⟩ := hh
        subst er
        refine wp_ly (fun hly => ?_)
        refine wp_lcmp d_M_wordOf_69 ?_
        refine wp_if_ne (tgt := 75) d_M_wordOf_70 (by decide) (fun hc => ?_) (fun hc => ?_)
        · replace h := h.1 hc
          refine wp_lload_n d_M_wordOf_75 (i := 0) rfl 0 rfl ?_
          refine wp_iconst d_M_wordOf_76 (by decide) ?_
          refine wp_bipush d_M_wordOf_77 (by decide) (by decide) ?_
          refine wp_bipush d_M_wordOf_79 (by decide) (by decide) ?_
          refine wp_bipush d_M_wordOf_81 (by decide) (by decide) ?_
          refine wp_bipush d_M_wordOf_83 (by decide) (by decide) ?_
          refine wp_callS (A := [vi 0, vi 109, vi 111, vi 115, vi 116]) (S := [vl y0]) d_M_wordOf_85 cs_M_wordOf_148 rfl (Nat.le_of_ble_eq_true rfl) (by decide) (MetS.mono h (fun r w9 hh => ?_))
          obtain ⟨z10, er, h⟩ := hh
          subst er
          refine wp_ly (fun hly => ?_)
          refine wp_lcmp d_M_wordOf_88 ?_
          refine wp_if_ne (tgt := 96) d_M_wordOf_89 (by decide) (fun hc => ?_) (fun hc => ?_)
          · replace h := h.1 hc
            refine wp_iconst d_M_wordOf_96 (by decide) ?_
            exact wp_iret d_M_wordOf_97 rfl (by decide) h
          · replace h := h.2 hc
            refine wp_iconst d_M_wordOf_92 (by decide) ?_
            refine wp_goto (tgt := 97) d_M_wordOf_93 (by decide) ?_
            exact wp_iret d_M_wordOf_97 rfl (by decide) h
        · replace h := h.2 hc
          refine wp_iconst d_M_wordOf_73 (by decide) ?_
          exact wp_iret d_M_wordOf_74 rfl (by decide) h
      · replace h := h.2 hc
        refine wp_iconst d_M_wordOf_53 (by decide) ?_
        exact wp_iret d_M_wordOf_54 rfl (by decide) h
    · replace h := h.2 hc
      refine wp_iconst d_M_wordOf_35 (by decide) ?_
      exact wp_iret d_M_wordOf_36 rfl (by decide) h
  · replace h := h.2 hc
    refine wp_iconst d_M_wordOf_15 (by decide) ?_
    exact wp_iret d_M_wordOf_16 rfl (by decide) h
set_option maxRecDepth 20000 in
set_option maxHeartbeats 2000000 in
theorem t_M_tokenize_0   {w : Wo} {Q : Option AV → Wo → Prop} (h : (∀ w1 : Wo, w1 = uI w 78 5 0 → Wp m_M_tokenize 9 [(0, vr 78), (1, vi 0), (2, vi 1)] [] (0, 0) w1 Q)) : Wp m_M_tokenize 0 [(0, vr 78)] [] (0, 0) w Q := by
  refine wp_ly (fun hly => ?_)
  refine wp_aload_n d_M_tokenize_0 (i := 0) rfl 0 rfl ?_
  refine wp_iconst d_M_tokenize_1 (by decide) ?_
  refine wp_putI d_M_tokenize_2 fl_M_145 cl_9 ⟨rfl, rfl⟩ (ly_o hly (by decide)) (fun w1 e2 => ?_)
  replace h := h w1 e2
  refine wp_ly (fun hly => ?_)
  refine wp_iconst d_M_tokenize_5 (by decide) ?_
  refine wp_istore_n (L' := [(1, vi 0), (0, vr 78)]) d_M_tokenize_6 (i := 1) rfl rfl (by decide) ?_
  refine wp_iconst d_M_tokenize_7 (by decide) ?_
  refine wp_istore_n (L' := [(2, vi 1), (1, vi 0), (0, vr 78)]) d_M_tokenize_8 (i := 2) rfl rfl (by decide) ?_
  exact wp_pick [2, 1, 0] rfl h
set_option maxRecDepth 20000 in
set_option maxHeartbeats 2000000 in
theorem t_M_tokenize_9 {x1 : Int} {x2 : Int}  {w : Wo} {Q : Option AV → Wo → Prop} (h : ((x2 = 0 → MetV m_M_token [vr 78, vi 0, vi 0, vi (gI w 78 2), vl 0] w (fun w1 => Q none w1)) ∧ (¬ x2 = 0 → (((gI w 78 2) ≤ x1 → MetV m_M_token [vr 78, vi 0, vi 0, vi (gI w 78 2), vl 0] w (fun w2 => Q none w2)) ∧ (¬ (gI w 78 2) ≤ x1 → (0 ≤ x1 ∧ x1 < 600) ∧ ((¬ (gI w 79 x1.toNat) = 32 → MetI m_M_oneToken [vr 78, vi x1] w (fun z5 w4 => inr32 ((gI w4 78 5) - 1) ∧ (0 ≤ ((gI w4 78 5) - 1) ∧ ((gI w4 78 5) - 1) < 602) ∧ (((gI w4 80 ((gI w4 78 5) - 1).toNat) = 6 → Wp m_M_tokenize 9 [(0, vr 78), (1, vi z5), (2, vi 0)] [] (0, 0) w4 Q) ∧ (¬ (gI w4 80 ((gI w4 78 5) - 1).toNat) = 6 → Wp m_M_tokenize 9 [(0, vr 78), (1, vi z5), (2, vi 1)] [] (0, 0) w4 Q)))) ∧ ((gI w 79 x1.toNat) = 32 → inr32 (x1 + 1) ∧ Wp m_M_tokenize 9 [(0, vr 78), (1, vi (x1 + 1)), (2, vi x2)] [] (0, 0) w Q))))))) : Wp m_M_tokenize 9 [(0, vr 78), (1, vi x1), (2, vi x2)] [] (0, 0) w Q := by
  refine wp_ly (fun hly => ?_)
  refine wp_iload_n d_M_tokenize_9 (i := 2) rfl 2 rfl ?_
  refine wp_if_eq (tgt := 69) d_M_tokenize_10 (by decide) (fun hc => ?_) (fun hc => ?_)
  · replace h := h.1 hc
    refine wp_aload_n d_M_tokenize_69 (i := 0) rfl 0 rfl ?_
    refine wp_iconst d_M_tokenize_70 (by decide) ?_
    refine wp_iconst d_M_tokenize_71 (by decide) ?_
    refine wp_aload_n d_M_tokenize_72 (i := 0) rfl 0 rfl ?_
    refine wp_getI d_M_tokenize_73 fl_M_130 cl_9 rfl (ly_o hly (by decide)) ?_
    refine wp_lconst d_M_tokenize_76 (x := 0) (by decide) (by decide) ?_
    refine wp_callV (A := [vi 0, vi 0, vi (gI w 78 2), vl 0]) (S := []) d_M_tokenize_77 cv_M_tokenize_156 (ly_o hly (by decide)) rfl (Nat.le_of_ble_eq_true rfl) (by decide) (MetS.mono h (fun r w1 hh => ?_))
    obtain ⟨er, h⟩ := hh
    subst er
    refine wp_ly (fun hly => ?_)
    exact wp_vret d_M_tokenize_80 rfl (by decide) h
  · replace h := h.2 hc
    refine wp_iload_n d_M_tokenize_13 (i := 1) rfl 1 rfl ?_
    refine wp_aload_n d_M_tokenize_14 (i := 0) rfl 0 rfl ?_
    refine wp_getI d_M_tokenize_15 fl_M_130 cl_9 rfl (ly_o hly (by decide)) ?_
    refine wp_icmp_ge (tgt := 69) d_M_tokenize_18 (by decide) (fun hc => ?_) (fun hc => ?_)
    · replace h := h.1 hc
      refine wp_aload_n d_M_tokenize_69 (i := 0) rfl 0 rfl ?_
      refine wp_iconst d_M_tokenize_70 (by decide) ?_
      refine wp_iconst d_M_tokenize_71 (by decide) ?_
      refine wp_aload_n d_M_tokenize_72 (i := 0) rfl 0 rfl ?_
      refine wp_getI d_M_tokenize_73 fl_M_130 cl_9 rfl (ly_o hly (by decide)) ?_
      refine wp_lconst d_M_tokenize_76 (x := 0) (by decide) (by decide) ?_
      refine wp_callV (A := [vi 0, vi 0, vi (gI w 78 2), vl 0]) (S := []) d_M_tokenize_77 cv_M_tokenize_156 (ly_o hly (by decide)) rfl (Nat.le_of_ble_eq_true rfl) (by decide) (MetS.mono h (fun r w2 hh => ?_))
      obtain ⟨er, h⟩ := hh
      subst er
      refine wp_ly (fun hly => ?_)
      exact wp_vret d_M_tokenize_80 rfl (by decide) h
    · replace h := h.2 hc
      refine wp_aload_n d_M_tokenize_21 (i := 0) rfl 0 rfl ?_
      refine wp_getP d_M_tokenize_22 fl_M_7 cl_9 rfl (ly_o hly (by decide)) (ly_r (v := 79) hly (by decide +kernel)) ?_
      refine wp_iload_n d_M_tokenize_25 (i := 1) rfl 1 rfl ?_
      obtain ⟨hi3, h⟩ := h
      refine wp_iaload d_M_tokenize_26 (ly_a (n := 600) (N := 600) hly (by decide) hi3) ?_
      refine wp_bipush d_M_tokenize_27 (by decide) (by decide) ?_
      refine wp_icmp_ne (tgt := 38) d_M_tokenize_29 (by decide) (fun hc => ?_) (fun hc => ?_)
      · replace h := h.1 hc
        refine wp_aload_n d_M_tokenize_38 (i := 0) rfl 0 rfl ?_
        refine wp_iload_n d_M_tokenize_39 (i := 1) rfl 1 rfl ?_
        refine wp_callV (A := [vi x1]) (S := []) d_M_tokenize_40 cv_M_tokenize_152 (ly_o hly (by decide)) rfl (Nat.le_of_ble_eq_true rfl) (by decide) (MetS.mono h (fun r w4 hh => ?_))
        obtain ⟨z5, er, h⟩ := hh
        subst er
        refine wp_ly (fun hly => ?_)
        refine wp_istore_n (L' := [(1, vi z5), (0, vr 78), (2, vi x2)]) d_M_tokenize_43 (i := 1) rfl rfl (by decide) ?_
        refine wp_aload_n d_M_tokenize_44 (i := 0) rfl 1 rfl ?_
        refine wp_getP d_M_tokenize_45 fl_M_13 cl_9 rfl (ly_o hly (by decide)) (ly_r (v := 80) hly (by decide +kernel)) ?_
        refine wp_aload_n d_M_tokenize_48 (i := 0) rfl 1 rfl ?_
        refine wp_getI d_M_tokenize_49 fl_M_145 cl_9 rfl (ly_o hly (by decide)) ?_
        refine wp_iconst d_M_tokenize_52 (by decide) ?_
        obtain ⟨ho, h⟩ := h
        refine wp_isub d_M_tokenize_53 ho ?_
        obtain ⟨hi6, h⟩ := h
        refine wp_iaload d_M_tokenize_54 (ly_a (n := 602) (N := 602) hly (by decide) hi6) ?_
        refine wp_bipush d_M_tokenize_55 (by decide) (by decide) ?_
        refine wp_icmp_eq (tgt := 64) d_M_tokenize_57 (by decide) (fun hc => ?_) (fun hc => ?_)
        · replace h := h.1 hc
          refine wp_iconst d_M_tokenize_64 (by decide) ?_
          refine wp_istore_n (L' := [(2, vi 0), (1, vi z5), (0, vr 78)]) d_M_tokenize_65 (i := 2) rfl rfl (by decide) ?_
          refine wp_goto (tgt := 9) d_M_tokenize_66 (by decide) ?_
          exact wp_pick [2, 1, 0] rfl h
        · replace h := h.2 hc
          refine wp_iconst d_M_tokenize_60 (by decide) ?_
          refine wp_goto (tgt := 65) d_M_tokenize_61 (by decide) ?_
          refine wp_istore_n (L' := [(2, vi 1), (1, vi z5), (0, vr 78)]) d_M_tokenize_65 (i := 2) rfl rfl (by decide) ?_
          refine wp_goto (tgt := 9) d_M_tokenize_66 (by decide) ?_
          exact wp_pick [2, 1, 0] rfl h
      · replace h := h.2 hc
        obtain ⟨ho, h⟩ := h
        refine wp_iinc (L' := [(1, vi (x1 + 1)), (0, vr 78), (2, vi x2)]) d_M_tokenize_32 1 rfl rfl (by decide) ho ?_
        refine wp_goto (tgt := 9) d_M_tokenize_35 (by decide) ?_
        exact wp_pick [1, 0, 2] rfl h
set_option maxRecDepth 20000 in
set_option maxHeartbeats 2000000 in
theorem t_M_oneToken_0 {x1 : Int}  {w : Wo} {Q : Option AV → Wo → Prop} (h : (0 ≤ x1 ∧ x1 < 600) ∧ inr32 (x1 + 1) ∧ MetI m_M_isDigit [vi (gI w 79 x1.toNat)] w (fun z3 w2 => ((z3 = 0 → MetI m_M_isSmall [vi (gI w 79 x1.toNat)] w2 (fun z5 w4 => ((z5 = 0 → MetI m_M_isGreat [vi (gI w 79 x1.toNat)] w4 (fun z7 w6 => ((z7 = 0 → MetI m_M_see [vr 78, vi (x1 + 1)] w6 (fun z9 w8 => ((¬ (gI w 79 x1.toNat) = 58 → Wp m_M_oneToken 318 [(0, vr 78), (1, vi x1), (2, vi (gI w 79 x1.toNat)), (3, vi (x1 + 1)), (6, vi z9)] [] (0, 0) w8 Q) ∧ ((gI w 79 x1.toNat) = 58 → ((¬ z9 = 45 → Wp m_M_oneToken 318 [(0, vr 78), (1, vi x1), (2, vi (gI w 79 x1.toNat)), (3, vi (x1 + 1)), (6, vi z9)] [] (0, 0) w8 Q) ∧ (z9 = 45 → Wp m_M_oneToken 376 [(0, vr 78), (1, vi x1), (2, vi (gI w 79 x1.toNat)), (3, vi (x1 + 1))] [vi 300] (0, 0) w8 Q)))))) ∧ (¬ z7 = 0 → Wp m_M_oneToken 225 [(0, vr 78), (1, vi x1), (3, vi (x1 + 1)), (4, vl (gI w 79 x1.toNat))] [] (0, 0) w6 Q)))) ∧ (¬ z5 = 0 → Wp m_M_oneToken 110 [(0, vr 78), (1, vi x1), (3, vi (x1 + 1)), (4, vl (gI w 79 x1.toNat))] [] (0, 0) w4 Q)))) ∧ (¬ z3 = 0 → inr32 ((gI w 79 x1.toNat) - 48) ∧ Wp m_M_oneToken 29 [(0, vr 78), (1, vi x1), (3, vi (x1 + 1)), (4, vl ((gI w 79 x1.toNat) - 48))] [] (0, 0) w2 Q)))) : Wp m_M_oneToken 0 [(0, vr 78), (1, vi x1)] [] (0, 0) w Q := by
  refine wp_ly (fun hly => ?_)
  refine wp_aload_n d_M_oneToken_0 (i := 0) rfl 0 rfl ?_
  refine wp_getP d_M_oneToken_1 fl_M_7 cl_9 rfl (ly_o hly (by decide)) (ly_r (v := 79) hly (by decide +kernel)) ?_
  refine wp_iload_n d_M_oneToken_4 (i := 1) rfl 1 rfl ?_
  obtain ⟨hi1, h⟩ := h
  refine wp_iaload d_M_oneToken_5 (ly_a (n := 600) (N := 600) hly (by decide) hi1) ?_
  refine wp_istore_n (L' := [(2, vi (gI w 79 x1.toNat)), (0, vr 78), (1, vi x1)]) d_M_oneToken_6 (i := 2) rfl rfl (by decide) ?_
  refine wp_iload_n d_M_oneToken_7 (i := 1) rfl 2 rfl ?_
  refine wp_iconst d_M_oneToken_8 (by decide) ?_
  obtain ⟨ho, h⟩ := h
  refine wp_iadd d_M_oneToken_9 ho ?_
  refine wp_istore_n (L' := [(3, vi (x1 + 1)), (2, vi (gI w 79 x1.toNat)), (0, vr 78), (1, vi x1)]) d_M_oneToken_10 (i := 3) rfl rfl (by decide) ?_
  refine wp_iload_n d_M_oneToken_11 (i := 2) rfl 1 rfl ?_
  refine wp_i2l d_M_oneToken_12 ?_
  refine wp_lstore (L' := [(4, vl (gI w 79 x1.toNat)), (3, vi (x1 + 1)), (2, vi (gI w 79 x1.toNat)), (0, vr 78), (1, vi x1)]) d_M_oneToken_13 rfl (by decide) ?_
  refine wp_iload_n d_M_oneToken_15 (i := 2) rfl 2 rfl ?_
  refine wp_callS (A := [vi (gI w 79 x1.toNat)]) (S := []) d_M_oneToken_16 cs_M_oneToken_142 rfl (Nat.le_of_ble_eq_true rfl) (by decide) (MetS.mono h (fun r w2 hh => ?_))
  obtain ⟨z3, er, h⟩ := hh
  subst er
  refine wp_ly (fun hly => ?_)
  refine wp_if_eq (tgt := 103) d_M_oneToken_19 (by decide) (fun hc => ?_) (fun hc => ?_)
  · replace h := h.1 hc
    refine wp_iload_n d_M_oneToken_103 (i := 2) rfl 2 rfl ?_
    refine wp_callS (A := [vi (gI w 79 x1.toNat)]) (S := []) d_M_oneToken_104 cs_M_oneToken_135 rfl (Nat.le_of_ble_eq_true rfl) (by decide) (MetS.mono h (fun r w4 hh => ?_))
    obtain ⟨z5, er, h⟩ := hh
    subst er
    refine wp_ly (fun hly => ?_)
    refine wp_if_eq (tgt := 218) d_M_oneToken_107 (by decide) (fun hc => ?_) (fun hc => ?_)
    · replace h := h.1 hc
      refine wp_iload_n d_M_oneToken_218 (i := 2) rfl 2 rfl ?_
      refine wp_callS (A := [vi (gI w 79 x1.toNat)]) (S := []) d_M_oneToken_219 cs_M_oneToken_139 rfl (Nat.le_of_ble_eq_true rfl) (by decide) (MetS.mono h (fun r w6 hh => ?_))
      obtain ⟨z7, er, h⟩ := hh
      subst er
      refine wp_ly (fun hly => ?_)
      refine wp_if_eq (tgt := 292) d_M_oneToken_222 (by decide) (fun hc => ?_) (fun hc => ?_)
      · replace h := h.1 hc
        refine wp_aload_n d_M_oneToken_292 (i := 0) rfl 3 rfl ?_
        refine wp_iload_n d_M_oneToken_293 (i := 3) rfl 1 rfl ?_
        refine wp_callV (A := [vi (x1 + 1)]) (S := []) d_M_oneToken_294 cv_M_oneToken_160 (ly_o hly (by decide)) rfl (Nat.le_of_ble_eq_true rfl) (by decide) (MetS.mono h (fun r w8 hh => ?_))
        obtain ⟨z9, er, h⟩ := hh
        subst er
        refine wp_ly (fun hly => ?_)
        refine wp_istore (L' := [(6, vi z9), (4, vl (gI w 79 x1.toNat)), (3, vi (x1 + 1)), (2, vi (gI w 79 x1.toNat)), (0, vr 78), (1, vi x1)]) d_M_oneToken_297 rfl (by decide) ?_
        refine wp_iload_n d_M_oneToken_299 (i := 2) rfl 3 rfl ?_
        refine wp_bipush d_M_oneToken_300 (by decide) (by decide) ?_
        refine wp_icmp_ne (tgt := 318) d_M_oneToken_302 (by decide) (fun hc => ?_) (fun hc => ?_)
        · replace h := h.1 hc
          exact wp_pick [4, 5, 3, 2, 0] rfl h
        · replace h := h.2 hc
          refine wp_iload d_M_oneToken_305 0 rfl ?_
          refine wp_bipush d_M_oneToken_307 (by decide) (by decide) ?_
          refine wp_icmp_ne (tgt := 318) d_M_oneToken_309 (by decide) (fun hc => ?_) (fun hc => ?_)
          · replace h := h.1 hc
            exact wp_pick [4, 5, 3, 2, 0] rfl h
          · replace h := h.2 hc
            refine wp_sipush d_M_oneToken_312 (by decide) (by decide) ?_
            refine wp_goto (tgt := 376) d_M_oneToken_315 (by decide) ?_
            exact wp_pick [4, 5, 3, 2] rfl h
      · replace h := h.2 hc
        exact wp_pick [3, 4, 1, 0] rfl h
    · replace h := h.2 hc
      exact wp_pick [3, 4, 1, 0] rfl h
  · replace h := h.2 hc
    refine wp_iload_n d_M_oneToken_22 (i := 2) rfl 2 rfl ?_
    refine wp_bipush d_M_oneToken_23 (by decide) (by decide) ?_
    obtain ⟨ho, h⟩ := h
    refine wp_isub d_M_oneToken_25 ho ?_
    refine wp_i2l d_M_oneToken_26 ?_
    refine wp_lstore (L' := [(4, vl ((gI w 79 x1.toNat) - 48)), (3, vi (x1 + 1)), (2, vi (gI w 79 x1.toNat)), (0, vr 78), (1, vi x1)]) d_M_oneToken_27 rfl (by decide) ?_
    exact wp_pick [3, 4, 1, 0] rfl h
set_option maxRecDepth 20000 in
set_option maxHeartbeats 2000000 in
theorem t_M_oneToken_29 {x1 : Int} {x3 : Int} {y4 : Int}  {w : Wo} {Q : Option AV → Wo → Prop} (h : MetI m_M_see [vr 78, vi x3] w (fun z2 w1 => MetI m_M_isDigit [vi z2] w1 (fun z4 w3 => ((z4 = 0 → inr32 (x3 - x1) ∧ (((x3 - x1) ≤ 9 → MetV m_M_token [vr 78, vi 3, vi 0, vi x1, vl y4] w3 (fun w5 => Q (some (vi x3)) w5)) ∧ (¬ (x3 - x1) ≤ 9 → MetV m_M_token [vr 78, vi 6, vi 0, vi x1, vl y4] w3 (fun w6 => Q (some (vi x3)) w6)))) ∧ (¬ z4 = 0 → inr32 (x3 - x1) ∧ ((9 ≤ (x3 - x1) → inr32 (x3 + 1) ∧ Wp m_M_oneToken 29 [(0, vr 78), (1, vi x1), (3, vi (x3 + 1)), (4, vl y4)] [] (0, 0) w3 Q) ∧ (¬ 9 ≤ (x3 - x1) → inr64 (10 * y4) ∧ MetI m_M_see [vr 78, vi x3] w3 (fun z8 w7 => inr64 ((10 * y4) + z8) ∧ inr64 (((10 * y4) + z8) - 48) ∧ inr32 (x3 + 1) ∧ Wp m_M_oneToken 29 [(0, vr 78), (1, vi x1), (3, vi (x3 + 1)), (4, vl (((10 * y4) + z8) - 48))] [] (0, 0) w7 Q)))))))) : Wp m_M_oneToken 29 [(0, vr 78), (1, vi x1), (3, vi x3), (4, vl y4)] [] (0, 0) w Q := by
  refine wp_ly (fun hly => ?_)
  refine wp_aload_n d_M_oneToken_29 (i := 0) rfl 0 rfl ?_
  refine wp_iload_n d_M_oneToken_30 (i := 3) rfl 2 rfl ?_
  refine wp_callV (A := [vi x3]) (S := []) d_M_oneToken_31 cv_M_oneToken_160 (ly_o hly (by decide)) rfl (Nat.le_of_ble_eq_true rfl) (by decide) (MetS.mono h (fun r w1 hh => ?_))
  obtain ⟨z2, er, h⟩ := hh
  subst er
  refine wp_ly (fun hly => ?_)
  refine wp_callS (A := [vi z2]) (S := []) d_M_oneToken_34 cs_M_oneToken_142 rfl (Nat.le_of_ble_eq_true rfl) (by decide) (MetS.mono h (fun r w3 hh => ?_))
  obtain ⟨z4, er, h⟩ := hh
  subst er
  refine wp_ly (fun hly => ?_)
  refine wp_if_eq (tgt := 78) d_M_oneToken_37 (by decide) (fun hc => ?_) (fun hc => ?_)
  · replace h := h.1 hc
    refine wp_aload_n d_M_oneToken_78 (i := 0) rfl 0 rfl ?_
    refine wp_iload_n d_M_oneToken_79 (i := 3) rfl 2 rfl ?_
    refine wp_iload_n d_M_oneToken_80 (i := 1) rfl 1 rfl ?_
    obtain ⟨ho, h⟩ := h
    refine wp_isub d_M_oneToken_81 ho ?_
    refine wp_bipush d_M_oneToken_82 (by decide) (by decide) ?_
    refine wp_icmp_le (tgt := 92) d_M_oneToken_84 (by decide) (fun hc => ?_) (fun hc => ?_)
    · replace h := h.1 hc
      refine wp_iconst d_M_oneToken_92 (by decide) ?_
      refine wp_iconst d_M_oneToken_93 (by decide) ?_
      refine wp_iload_n d_M_oneToken_94 (i := 1) rfl 1 rfl ?_
      refine wp_lload d_M_oneToken_95 3 rfl ?_
      refine wp_callV (A := [vi 3, vi 0, vi x1, vl y4]) (S := []) d_M_oneToken_97 cv_M_oneToken_156 (ly_o hly (by decide)) rfl (Nat.le_of_ble_eq_true rfl) (by decide) (MetS.mono h (fun r w5 hh => ?_))
      obtain ⟨er, h⟩ := hh
      subst er
      refine wp_ly (fun hly => ?_)
      refine wp_goto (tgt := 521) d_M_oneToken_100 (by decide) ?_
      refine wp_iload_n d_M_oneToken_521 (i := 3) rfl 2 rfl ?_
      exact wp_iret d_M_oneToken_522 rfl (by decide) h
    · replace h := h.2 hc
      refine wp_bipush d_M_oneToken_87 (by decide) (by decide) ?_
      refine wp_goto (tgt := 93) d_M_oneToken_89 (by decide) ?_
      refine wp_iconst d_M_oneToken_93 (by decide) ?_
      refine wp_iload_n d_M_oneToken_94 (i := 1) rfl 1 rfl ?_
      refine wp_lload d_M_oneToken_95 3 rfl ?_
      refine wp_callV (A := [vi 6, vi 0, vi x1, vl y4]) (S := []) d_M_oneToken_97 cv_M_oneToken_156 (ly_o hly (by decide)) rfl (Nat.le_of_ble_eq_true rfl) (by decide) (MetS.mono h (fun r w6 hh => ?_))
      obtain ⟨er, h⟩ := hh
      subst er
      refine wp_ly (fun hly => ?_)
      refine wp_goto (tgt := 521) d_M_oneToken_100 (by decide) ?_
      refine wp_iload_n d_M_oneToken_521 (i := 3) rfl 2 rfl ?_
      exact wp_iret d_M_oneToken_522 rfl (by decide) h
  · replace h := h.2 hc
    refine wp_iload_n d_M_oneToken_40 (i := 3) rfl 2 rfl ?_
    refine wp_iload_n d_M_oneToken_41 (i := 1) rfl 1 rfl ?_
    obtain ⟨ho, h⟩ := h
    refine wp_isub d_M_oneToken_42 ho ?_
    refine wp_bipush d_M_oneToken_43 (by decide) (by decide) ?_
    refine wp_icmp_ge (tgt := 68) d_M_oneToken_45 (by decide) (fun hc => ?_) (fun hc => ?_)
    · replace h := h.1 hc
      refine wp_lload d_M_oneToken_68 3 rfl ?_
      refine wp_lstore (L' := [(4, vl y4), (0, vr 78), (1, vi x1), (3, vi x3)]) d_M_oneToken_70 rfl (by decide) ?_
      obtain ⟨ho, h⟩ := h
      refine wp_iinc (L' := [(3, vi (x3 + 1)), (4, vl y4), (0, vr 78), (1, vi x1)]) d_M_oneToken_72 3 rfl rfl (by decide) ho ?_
      refine wp_goto (tgt := 29) d_M_oneToken_75 (by decide) ?_
      exact wp_pick [2, 3, 0, 1] rfl h
    · replace h := h.2 hc
      refine wp_ldc2 d_M_oneToken_48 (x := 10) lc_M_163 (by decide) ?_
      refine wp_lload d_M_oneToken_51 3 rfl ?_
      obtain ⟨ho, h⟩ := h
      refine wp_lmul d_M_oneToken_53 ho ?_
      refine wp_aload_n d_M_oneToken_54 (i := 0) rfl 0 rfl ?_
      refine wp_iload_n d_M_oneToken_55 (i := 3) rfl 2 rfl ?_
      refine wp_callV (A := [vi x3]) (S := [vl (10 * y4)]) d_M_oneToken_56 cv_M_oneToken_160 (ly_o hly (by decide)) rfl (Nat.le_of_ble_eq_true rfl) (by decide) (MetS.mono h (fun r w7 hh => ?_))
      obtain ⟨z8, er, h⟩ := hh
      subst er
      refine wp_ly (fun hly => ?_)
      refine wp_i2l d_M_oneToken_59 ?_
      obtain ⟨ho, h⟩ := h
      refine wp_ladd d_M_oneToken_60 ho ?_
      refine wp_ldc2 d_M_oneToken_61 (x := 48) lc_M_165 (by decide) ?_
      obtain ⟨ho, h⟩ := h
      refine wp_lsub d_M_oneToken_64 ho ?_
      refine wp_goto (tgt := 70) d_M_oneToken_65 (by decide) ?_
      refine wp_lstore (L' := [(4, vl (((10 * y4) + z8) - 48)), (0, vr 78), (1, vi x1), (3, vi x3)]) d_M_oneToken_70 rfl (by decide) ?_
      obtain ⟨ho, h⟩ := h
      refine wp_iinc (L' := [(3, vi (x3 + 1)), (4, vl (((10 * y4) + z8) - 48)), (0, vr 78), (1, vi x1)]) d_M_oneToken_72 3 rfl rfl (by decide) ho ?_
      refine wp_goto (tgt := 29) d_M_oneToken_75 (by decide) ?_
      exact wp_pick [2, 3, 0, 1] rfl h
set_option maxRecDepth 20000 in
set_option maxHeartbeats 2000000 in
theorem t_M_oneToken_110 {x1 : Int} {x3 : Int} {y4 : Int}  {w : Wo} {Q : Option AV → Wo → Prop} (h : MetI m_M_see [vr 78, vi x3] w (fun z2 w1 => MetI m_M_isSmall [vi z2] w1 (fun z4 w3 => ((¬ z4 = 0 → Wp m_M_oneToken 132 [(0, vr 78), (1, vi x1), (3, vi x3), (4, vl y4)] [] (0, 0) w3 Q) ∧ (z4 = 0 → MetI m_M_see [vr 78, vi x3] w3 (fun z6 w5 => MetI m_M_isDigit [vi z6] w5 (fun z8 w7 => ((z8 = 0 → inr32 (x3 - x1) ∧ (((x3 - x1) ≤ 5 → MetI m_M_wordOf [vl y4] w7 (fun z10 w9 => Wp m_M_oneToken 181 [(0, vr 78), (1, vi x1), (3, vi x3), (4, vl y4)] [vi z10] (0, 0) w9 Q)) ∧ (¬ (x3 - x1) ≤ 5 → Wp m_M_oneToken 181 [(0, vr 78), (1, vi x1), (3, vi x3), (4, vl y4)] [vi 0] (0, 0) w7 Q))) ∧ (¬ z8 = 0 → Wp m_M_oneToken 132 [(0, vr 78), (1, vi x1), (3, vi x3), (4, vl y4)] [] (0, 0) w7 Q))))))))) : Wp m_M_oneToken 110 [(0, vr 78), (1, vi x1), (3, vi x3), (4, vl y4)] [] (0, 0) w Q := by
  refine wp_ly (fun hly => ?_)
  refine wp_aload_n d_M_oneToken_110 (i := 0) rfl 0 rfl ?_
  refine wp_iload_n d_M_oneToken_111 (i := 3) rfl 2 rfl ?_
  refine wp_callV (A := [vi x3]) (S := []) d_M_oneToken_112 cv_M_oneToken_160 (ly_o hly (by decide)) rfl (Nat.le_of_ble_eq_true rfl) (by decide) (MetS.mono h (fun r w1 hh => ?_))
  obtain ⟨z2, er, h⟩ := hh
  subst er
  refine wp_ly (fun hly => ?_)
  refine wp_callS (A := [vi z2]) (S := []) d_M_oneToken_115 cs_M_oneToken_135 rfl (Nat.le_of_ble_eq_true rfl) (by decide) (MetS.mono h (fun r w3 hh => ?_))
  obtain ⟨z4, er, h⟩ := hh
  subst er
  refine wp_ly (fun hly => ?_)
  refine wp_if_ne (tgt := 132) d_M_oneToken_118 (by decide) (fun hc => ?_) (fun hc => ?_)
  · replace h := h.1 hc
    exact h
  · replace h := h.2 hc
    refine wp_aload_n d_M_oneToken_121 (i := 0) rfl 0 rfl ?_
    refine wp_iload_n d_M_oneToken_122 (i := 3) rfl 2 rfl ?_
    refine wp_callV (A := [vi x3]) (S := []) d_M_oneToken_123 cv_M_oneToken_160 (ly_o hly (by decide)) rfl (Nat.le_of_ble_eq_true rfl) (by decide) (MetS.mono h (fun r w5 hh => ?_))
    obtain ⟨z6, er, h⟩ := hh
    subst er
    refine wp_ly (fun hly => ?_)
    refine wp_callS (A := [vi z6]) (S := []) d_M_oneToken_126 cs_M_oneToken_142 rfl (Nat.le_of_ble_eq_true rfl) (by decide) (MetS.mono h (fun r w7 hh => ?_))
    obtain ⟨z8, er, h⟩ := hh
    subst er
    refine wp_ly (fun hly => ?_)
    refine wp_if_eq (tgt := 165) d_M_oneToken_129 (by decide) (fun hc => ?_) (fun hc => ?_)
    · replace h := h.1 hc
      refine wp_iload_n d_M_oneToken_165 (i := 3) rfl 2 rfl ?_
      refine wp_iload_n d_M_oneToken_166 (i := 1) rfl 1 rfl ?_
      obtain ⟨ho, h⟩ := h
      refine wp_isub d_M_oneToken_167 ho ?_
      refine wp_iconst d_M_oneToken_168 (by decide) ?_
      refine wp_icmp_le (tgt := 176) d_M_oneToken_169 (by decide) (fun hc => ?_) (fun hc => ?_)
      · replace h := h.1 hc
        refine wp_lload d_M_oneToken_176 3 rfl ?_
        refine wp_callS (A := [vl y4]) (S := []) d_M_oneToken_178 cs_M_oneToken_167 rfl (Nat.le_of_ble_eq_true rfl) (by decide) (MetS.mono h (fun r w9 hh => ?_))
        obtain ⟨z10, er, h⟩ := hh
        subst er
        refine wp_ly (fun hly => ?_)
        exact h
      · replace h := h.2 hc
        refine wp_iconst d_M_oneToken_172 (by decide) ?_
        refine wp_goto (tgt := 181) d_M_oneToken_173 (by decide) ?_
        exact h
    · replace h := h.2 hc
      exact h
set_option maxRecDepth 20000 in
set_option maxHeartbeats 2000000 in
theorem t_M_oneToken_132 {x1 : Int} {x3 : Int} {y4 : Int}  {w : Wo} {Q : Option AV → Wo → Prop} (h : inr32 (x3 - x1) ∧ ((7 ≤ (x3 - x1) → inr32 (x3 + 1) ∧ Wp m_M_oneToken 110 [(0, vr 78), (1, vi x1), (3, vi (x3 + 1)), (4, vl y4)] [] (0, 0) w Q) ∧ (¬ 7 ≤ (x3 - x1) → MetI m_M_see [vr 78, vi x3] w (fun z2 w1 => inr32 (x3 + 1) ∧ Wp m_M_oneToken 110 [(0, vr 78), (1, vi x1), (3, vi (x3 + 1)), (4, vl (b_lor (b_lshl y4 8) z2))] [] (0, 0) w1 Q)))) : Wp m_M_oneToken 132 [(0, vr 78), (1, vi x1), (3, vi x3), (4, vl y4)] [] (0, 0) w Q := by
  refine wp_ly (fun hly => ?_)
  refine wp_iload_n d_M_oneToken_132 (i := 3) rfl 2 rfl ?_
  refine wp_iload_n d_M_oneToken_133 (i := 1) rfl 1 rfl ?_
  obtain ⟨ho, h⟩ := h
  refine wp_isub d_M_oneToken_134 ho ?_
  refine wp_bipush d_M_oneToken_135 (by decide) (by decide) ?_
  refine wp_icmp_ge (tgt := 155) d_M_oneToken_137 (by decide) (fun hc => ?_) (fun hc => ?_)
  · replace h := h.1 hc
    refine wp_lload d_M_oneToken_155 3 rfl ?_
    refine wp_lstore (L' := [(4, vl y4), (0, vr 78), (1, vi x1), (3, vi x3)]) d_M_oneToken_157 rfl (by decide) ?_
    obtain ⟨ho, h⟩ := h
    refine wp_iinc (L' := [(3, vi (x3 + 1)), (4, vl y4), (0, vr 78), (1, vi x1)]) d_M_oneToken_159 3 rfl rfl (by decide) ho ?_
    refine wp_goto (tgt := 110) d_M_oneToken_162 (by decide) ?_
    exact wp_pick [2, 3, 0, 1] rfl h
  · replace h := h.2 hc
    refine wp_lload d_M_oneToken_140 3 rfl ?_
    refine wp_bipush d_M_oneToken_142 (by decide) (by decide) ?_
    refine wp_lshl d_M_oneToken_144 ?_
    refine wp_aload_n d_M_oneToken_145 (i := 0) rfl 0 rfl ?_
    refine wp_iload_n d_M_oneToken_146 (i := 3) rfl 2 rfl ?_
    refine wp_callV (A := [vi x3]) (S := [vl (b_lshl y4 8)]) d_M_oneToken_147 cv_M_oneToken_160 (ly_o hly (by decide)) rfl (Nat.le_of_ble_eq_true rfl) (by decide) (MetS.mono h (fun r w1 hh => ?_))
    obtain ⟨z2, er, h⟩ := hh
    subst er
    refine wp_ly (fun hly => ?_)
    refine wp_i2l d_M_oneToken_150 ?_
    refine wp_lor d_M_oneToken_151 ?_
    refine wp_goto (tgt := 157) d_M_oneToken_152 (by decide) ?_
    refine wp_lstore (L' := [(4, vl (b_lor (b_lshl y4 8) z2)), (0, vr 78), (1, vi x1), (3, vi x3)]) d_M_oneToken_157 rfl (by decide) ?_
    obtain ⟨ho, h⟩ := h
    refine wp_iinc (L' := [(3, vi (x3 + 1)), (4, vl (b_lor (b_lshl y4 8) z2)), (0, vr 78), (1, vi x1)]) d_M_oneToken_159 3 rfl rfl (by decide) ho ?_
    refine wp_goto (tgt := 110) d_M_oneToken_162 (by decide) ?_
    exact wp_pick [2, 3, 0, 1] rfl h
set_option maxRecDepth 20000 in
set_option maxHeartbeats 2000000 in
theorem t_M_oneToken_181 {x1 : Int} {x3 : Int} {y4 : Int} {s0 : Int}  {w : Wo} {Q : Option AV → Wo → Prop} (h : ((s0 ≤ 0 → inr32 (x3 - x1) ∧ (((x3 - x1) ≤ 6 → MetV m_M_token [vr 78, vi 1, vi s0, vi x1, vl y4] w (fun w1 => Q (some (vi x3)) w1)) ∧ (¬ (x3 - x1) ≤ 6 → MetV m_M_token [vr 78, vi 6, vi s0, vi x1, vl y4] w (fun w2 => Q (some (vi x3)) w2)))) ∧ (¬ s0 ≤ 0 → MetV m_M_token [vr 78, vi 5, vi s0, vi x1, vl y4] w (fun w3 => Q (some (vi x3)) w3)))) : Wp m_M_oneToken 181 [(0, vr 78), (1, vi x1), (3, vi x3), (4, vl y4)] [vi s0] (0, 0) w Q := by
  refine wp_ly (fun hly => ?_)
  refine wp_istore (L' := [(6, vi s0), (0, vr 78), (1, vi x1), (3, vi x3), (4, vl y4)]) d_M_oneToken_181 rfl (by decide) ?_
  refine wp_aload_n d_M_oneToken_183 (i := 0) rfl 1 rfl ?_
  refine wp_iload d_M_oneToken_184 0 rfl ?_
  refine wp_if_le (tgt := 193) d_M_oneToken_186 (by decide) (fun hc => ?_) (fun hc => ?_)
  · replace h := h.1 hc
    refine wp_iload_n d_M_oneToken_193 (i := 3) rfl 3 rfl ?_
    refine wp_iload_n d_M_oneToken_194 (i := 1) rfl 2 rfl ?_
    obtain ⟨ho, h⟩ := h
    refine wp_isub d_M_oneToken_195 ho ?_
    refine wp_bipush d_M_oneToken_196 (by decide) (by decide) ?_
    refine wp_icmp_le (tgt := 206) d_M_oneToken_198 (by decide) (fun hc => ?_) (fun hc => ?_)
    · replace h := h.1 hc
      refine wp_iconst d_M_oneToken_206 (by decide) ?_
      refine wp_iload d_M_oneToken_207 0 rfl ?_
      refine wp_iload_n d_M_oneToken_209 (i := 1) rfl 2 rfl ?_
      refine wp_lload d_M_oneToken_210 4 rfl ?_
      refine wp_callV (A := [vi 1, vi s0, vi x1, vl y4]) (S := []) d_M_oneToken_212 cv_M_oneToken_156 (ly_o hly (by decide)) rfl (Nat.le_of_ble_eq_true rfl) (by decide) (MetS.mono h (fun r w1 hh => ?_))
      obtain ⟨er, h⟩ := hh
      subst er
      refine wp_ly (fun hly => ?_)
      refine wp_goto (tgt := 521) d_M_oneToken_215 (by decide) ?_
      refine wp_iload_n d_M_oneToken_521 (i := 3) rfl 3 rfl ?_
      exact wp_iret d_M_oneToken_522 rfl (by decide) h
    · replace h := h.2 hc
      refine wp_bipush d_M_oneToken_201 (by decide) (by decide) ?_
      refine wp_goto (tgt := 207) d_M_oneToken_203 (by decide) ?_
      refine wp_iload d_M_oneToken_207 0 rfl ?_
      refine wp_iload_n d_M_oneToken_209 (i := 1) rfl 2 rfl ?_
      refine wp_lload d_M_oneToken_210 4 rfl ?_
      refine wp_callV (A := [vi 6, vi s0, vi x1, vl y4]) (S := []) d_M_oneToken_212 cv_M_oneToken_156 (ly_o hly (by decide)) rfl (Nat.le_of_ble_eq_true rfl) (by decide) (MetS.mono h (fun r w2 hh => ?_))
      obtain ⟨er, h⟩ := hh
      subst er
      refine wp_ly (fun hly => ?_)
      refine wp_goto (tgt := 521) d_M_oneToken_215 (by decide) ?_
      refine wp_iload_n d_M_oneToken_521 (i := 3) rfl 3 rfl ?_
      exact wp_iret d_M_oneToken_522 rfl (by decide) h
  · replace h := h.2 hc
    refine wp_iconst d_M_oneToken_189 (by decide) ?_
    refine wp_goto (tgt := 207) d_M_oneToken_190 (by decide) ?_
    refine wp_iload d_M_oneToken_207 0 rfl ?_
    refine wp_iload_n d_M_oneToken_209 (i := 1) rfl 2 rfl ?_
    refine wp_lload d_M_oneToken_210 4 rfl ?_
    refine wp_callV (A := [vi 5, vi s0, vi x1, vl y4]) (S := []) d_M_oneToken_212 cv_M_oneToken_156 (ly_o hly (by decide)) rfl (Nat.le_of_ble_eq_true rfl) (by decide) (MetS.mono h (fun r w3 hh => ?_))
    obtain ⟨er, h⟩ := hh
    subst er
    refine wp_ly (fun hly => ?_)
    refine wp_goto (tgt := 521) d_M_oneToken_215 (by decide) ?_
    refine wp_iload_n d_M_oneToken_521 (i := 3) rfl 3 rfl ?_
    exact wp_iret d_M_oneToken_522 rfl (by decide) h
set_option maxRecDepth 20000 in
set_option maxHeartbeats 2000000 in
theorem t_M_oneToken_225 {x1 : Int} {x3 : Int} {y4 : Int}  {w : Wo} {Q : Option AV → Wo → Prop} (h : MetI m_M_see [vr 78, vi x3] w (fun z2 w1 => MetI m_M_isPart [vi z2] w1 (fun z4 w3 => ((z4 = 0 → inr32 (x3 - x1) ∧ (((x3 - x1) ≤ 4 → MetV m_M_token [vr 78, vi 2, vi 0, vi x1, vl y4] w3 (fun w5 => Q (some (vi x3)) w5)) ∧ (¬ (x3 - x1) ≤ 4 → MetV m_M_token [vr 78, vi 6, vi 0, vi x1, vl y4] w3 (fun w6 => Q (some (vi x3)) w6)))) ∧ (¬ z4 = 0 → inr32 (x3 - x1) ∧ ((5 ≤ (x3 - x1) → inr32 (x3 + 1) ∧ Wp m_M_oneToken 225 [(0, vr 78), (1, vi x1), (3, vi (x3 + 1)), (4, vl y4)] [] (0, 0) w3 Q) ∧ (¬ 5 ≤ (x3 - x1) → MetI m_M_see [vr 78, vi x3] w3 (fun z8 w7 => inr32 (x3 + 1) ∧ Wp m_M_oneToken 225 [(0, vr 78), (1, vi x1), (3, vi (x3 + 1)), (4, vl (b_lor (b_lshl y4 8) z8))] [] (0, 0) w7 Q)))))))) : Wp m_M_oneToken 225 [(0, vr 78), (1, vi x1), (3, vi x3), (4, vl y4)] [] (0, 0) w Q := by
  refine wp_ly (fun hly => ?_)
  refine wp_aload_n d_M_oneToken_225 (i := 0) rfl 0 rfl ?_
  refine wp_iload_n d_M_oneToken_226 (i := 3) rfl 2 rfl ?_
  refine wp_callV (A := [vi x3]) (S := []) d_M_oneToken_227 cv_M_oneToken_160 (ly_o hly (by decide)) rfl (Nat.le_of_ble_eq_true rfl) (by decide) (MetS.mono h (fun r w1 hh => ?_))
  obtain ⟨z2, er, h⟩ := hh
  subst er
  refine wp_ly (fun hly => ?_)
  refine wp_callS (A := [vi z2]) (S := []) d_M_oneToken_230 cs_M_oneToken_171 rfl (Nat.le_of_ble_eq_true rfl) (by decide) (MetS.mono h (fun r w3 hh => ?_))
  obtain ⟨z4, er, h⟩ := hh
  subst er
  refine wp_ly (fun hly => ?_)
  refine wp_if_eq (tgt := 268) d_M_oneToken_233 (by decide) (fun hc => ?_) (fun hc => ?_)
  · replace h := h.1 hc
    refine wp_aload_n d_M_oneToken_268 (i := 0) rfl 0 rfl ?_
    refine wp_iload_n d_M_oneToken_269 (i := 3) rfl 2 rfl ?_
    refine wp_iload_n d_M_oneToken_270 (i := 1) rfl 1 rfl ?_
    obtain ⟨ho, h⟩ := h
    refine wp_isub d_M_oneToken_271 ho ?_
    refine wp_iconst d_M_oneToken_272 (by decide) ?_
    refine wp_icmp_le (tgt := 281) d_M_oneToken_273 (by decide) (fun hc => ?_) (fun hc => ?_)
    · replace h := h.1 hc
      refine wp_iconst d_M_oneToken_281 (by decide) ?_
      refine wp_iconst d_M_oneToken_282 (by decide) ?_
      refine wp_iload_n d_M_oneToken_283 (i := 1) rfl 1 rfl ?_
      refine wp_lload d_M_oneToken_284 3 rfl ?_
      refine wp_callV (A := [vi 2, vi 0, vi x1, vl y4]) (S := []) d_M_oneToken_286 cv_M_oneToken_156 (ly_o hly (by decide)) rfl (Nat.le_of_ble_eq_true rfl) (by decide) (MetS.mono h (fun r w5 hh => ?_))
      obtain ⟨er, h⟩ := hh
      subst er
      refine wp_ly (fun hly => ?_)
      refine wp_goto (tgt := 521) d_M_oneToken_289 (by decide) ?_
      refine wp_iload_n d_M_oneToken_521 (i := 3) rfl 2 rfl ?_
      exact wp_iret d_M_oneToken_522 rfl (by decide) h
    · replace h := h.2 hc
      refine wp_bipush d_M_oneToken_276 (by decide) (by decide) ?_
      refine wp_goto (tgt := 282) d_M_oneToken_278 (by decide) ?_
      refine wp_iconst d_M_oneToken_282 (by decide) ?_
      refine wp_iload_n d_M_oneToken_283 (i := 1) rfl 1 rfl ?_
      refine wp_lload d_M_oneToken_284 3 rfl ?_
      refine wp_callV (A := [vi 6, vi 0, vi x1, vl y4]) (S := []) d_M_oneToken_286 cv_M_oneToken_156 (ly_o hly (by decide)) rfl (Nat.le_of_ble_eq_true rfl) (by decide) (MetS.mono h (fun r w6 hh => ?_))
      obtain ⟨er, h⟩ := hh
      subst er
      refine wp_ly (fun hly => ?_)
      refine wp_goto (tgt := 521) d_M_oneToken_289 (by decide) ?_
      refine wp_iload_n d_M_oneToken_521 (i := 3) rfl 2 rfl ?_
      exact wp_iret d_M_oneToken_522 rfl (by decide) h
  · replace h := h.2 hc
    refine wp_iload_n d_M_oneToken_236 (i := 3) rfl 2 rfl ?_
    refine wp_iload_n d_M_oneToken_237 (i := 1) rfl 1 rfl ?_
    obtain ⟨ho, h⟩ := h
    refine wp_isub d_M_oneToken_238 ho ?_
    refine wp_iconst d_M_oneToken_239 (by decide) ?_
    refine wp_icmp_ge (tgt := 258) d_M_oneToken_240 (by decide) (fun hc => ?_) (fun hc => ?_)
    · replace h := h.1 hc
      refine wp_lload d_M_oneToken_258 3 rfl ?_
      refine wp_lstore (L' := [(4, vl y4), (0, vr 78), (1, vi x1), (3, vi x3)]) d_M_oneToken_260 rfl (by decide) ?_
      obtain ⟨ho, h⟩ := h
      refine wp_iinc (L' := [(3, vi (x3 + 1)), (4, vl y4), (0, vr 78), (1, vi x1)]) d_M_oneToken_262 3 rfl rfl (by decide) ho ?_
      refine wp_goto (tgt := 225) d_M_oneToken_265 (by decide) ?_
      exact wp_pick [2, 3, 0, 1] rfl h
    · replace h := h.2 hc
      refine wp_lload d_M_oneToken_243 3 rfl ?_
      refine wp_bipush d_M_oneToken_245 (by decide) (by decide) ?_
      refine wp_lshl d_M_oneToken_247 ?_
      refine wp_aload_n d_M_oneToken_248 (i := 0) rfl 0 rfl ?_
      refine wp_iload_n d_M_oneToken_249 (i := 3) rfl 2 rfl ?_
      refine wp_callV (A := [vi x3]) (S := [vl (b_lshl y4 8)]) d_M_oneToken_250 cv_M_oneToken_160 (ly_o hly (by decide)) rfl (Nat.le_of_ble_eq_true rfl) (by decide) (MetS.mono h (fun r w7 hh => ?_))
      obtain ⟨z8, er, h⟩ := hh
      subst er
      refine wp_ly (fun hly => ?_)
      refine wp_i2l d_M_oneToken_253 ?_
      refine wp_lor d_M_oneToken_254 ?_
      refine wp_goto (tgt := 260) d_M_oneToken_255 (by decide) ?_
      refine wp_lstore (L' := [(4, vl (b_lor (b_lshl y4 8) z8)), (0, vr 78), (1, vi x1), (3, vi x3)]) d_M_oneToken_260 rfl (by decide) ?_
      obtain ⟨ho, h⟩ := h
      refine wp_iinc (L' := [(3, vi (x3 + 1)), (4, vl (b_lor (b_lshl y4 8) z8)), (0, vr 78), (1, vi x1)]) d_M_oneToken_262 3 rfl rfl (by decide) ho ?_
      refine wp_goto (tgt := 225) d_M_oneToken_265 (by decide) ?_
      exact wp_pick [2, 3, 0, 1] rfl h
set_option maxRecDepth 20000 in
set_option maxHeartbeats 2000000 in
theorem t_M_oneToken_318 {x1 : Int} {x2 : Int} {x3 : Int} {x6 : Int}  {w : Wo} {Q : Option AV → Wo → Prop} (h : ((¬ x2 = 33 → Wp m_M_oneToken 337 [(0, vr 78), (1, vi x1), (2, vi x2), (3, vi x3), (6, vi x6)] [] (0, 0) w Q) ∧ (x2 = 33 → ((¬ x6 = 61 → Wp m_M_oneToken 337 [(0, vr 78), (1, vi x1), (2, vi x2), (3, vi x3), (6, vi x6)] [] (0, 0) w Q) ∧ (x6 = 61 → Wp m_M_oneToken 376 [(0, vr 78), (1, vi x1), (2, vi x2), (3, vi x3)] [vi 301] (0, 0) w Q))))) : Wp m_M_oneToken 318 [(0, vr 78), (1, vi x1), (2, vi x2), (3, vi x3), (6, vi x6)] [] (0, 0) w Q := by
  refine wp_ly (fun hly => ?_)
  refine wp_iload_n d_M_oneToken_318 (i := 2) rfl 2 rfl ?_
  refine wp_bipush d_M_oneToken_319 (by decide) (by decide) ?_
  refine wp_icmp_ne (tgt := 337) d_M_oneToken_321 (by decide) (fun hc => ?_) (fun hc => ?_)
  · replace h := h.1 hc
    exact h
  · replace h := h.2 hc
    refine wp_iload d_M_oneToken_324 4 rfl ?_
    refine wp_bipush d_M_oneToken_326 (by decide) (by decide) ?_
    refine wp_icmp_ne (tgt := 337) d_M_oneToken_328 (by decide) (fun hc => ?_) (fun hc => ?_)
    · replace h := h.1 hc
      exact h
    · replace h := h.2 hc
      refine wp_sipush d_M_oneToken_331 (by decide) (by decide) ?_
      refine wp_goto (tgt := 376) d_M_oneToken_334 (by decide) ?_
      exact wp_pick [0, 1, 2, 3] rfl h
set_option maxRecDepth 20000 in
set_option maxHeartbeats 2000000 in
theorem t_M_oneToken_337 {x1 : Int} {x2 : Int} {x3 : Int} {x6 : Int}  {w : Wo} {Q : Option AV → Wo → Prop} (h : ((¬ x2 = 60 → Wp m_M_oneToken 356 [(0, vr 78), (1, vi x1), (2, vi x2), (3, vi x3), (6, vi x6)] [] (0, 0) w Q) ∧ (x2 = 60 → ((¬ x6 = 61 → Wp m_M_oneToken 356 [(0, vr 78), (1, vi x1), (2, vi x2), (3, vi x3), (6, vi x6)] [] (0, 0) w Q) ∧ (x6 = 61 → Wp m_M_oneToken 376 [(0, vr 78), (1, vi x1), (2, vi x2), (3, vi x3)] [vi 302] (0, 0) w Q))))) : Wp m_M_oneToken 337 [(0, vr 78), (1, vi x1), (2, vi x2), (3, vi x3), (6, vi x6)] [] (0, 0) w Q := by
  refine wp_ly (fun hly => ?_)
  refine wp_iload_n d_M_oneToken_337 (i := 2) rfl 2 rfl ?_
  refine wp_bipush d_M_oneToken_338 (by decide) (by decide) ?_
  refine wp_icmp_ne (tgt := 356) d_M_oneToken_340 (by decide) (fun hc => ?_) (fun hc => ?_)
  · replace h := h.1 hc
    exact h
  · replace h := h.2 hc
    refine wp_iload d_M_oneToken_343 4 rfl ?_
    refine wp_bipush d_M_oneToken_345 (by decide) (by decide) ?_
    refine wp_icmp_ne (tgt := 356) d_M_oneToken_347 (by decide) (fun hc => ?_) (fun hc => ?_)
    · replace h := h.1 hc
      exact h
    · replace h := h.2 hc
      refine wp_sipush d_M_oneToken_350 (by decide) (by decide) ?_
      refine wp_goto (tgt := 376) d_M_oneToken_353 (by decide) ?_
      exact wp_pick [0, 1, 2, 3] rfl h
set_option maxRecDepth 20000 in
set_option maxHeartbeats 2000000 in
theorem t_M_oneToken_356 {x1 : Int} {x2 : Int} {x3 : Int} {x6 : Int}  {w : Wo} {Q : Option AV → Wo → Prop} (h : ((¬ x2 = 62 → Wp m_M_oneToken 375 [(0, vr 78), (1, vi x1), (2, vi x2), (3, vi x3)] [] (0, 0) w Q) ∧ (x2 = 62 → ((¬ x6 = 61 → Wp m_M_oneToken 375 [(0, vr 78), (1, vi x1), (2, vi x2), (3, vi x3)] [] (0, 0) w Q) ∧ (x6 = 61 → Wp m_M_oneToken 376 [(0, vr 78), (1, vi x1), (2, vi x2), (3, vi x3)] [vi 303] (0, 0) w Q))))) : Wp m_M_oneToken 356 [(0, vr 78), (1, vi x1), (2, vi x2), (3, vi x3), (6, vi x6)] [] (0, 0) w Q := by
  refine wp_ly (fun hly => ?_)
  refine wp_iload_n d_M_oneToken_356 (i := 2) rfl 2 rfl ?_
  refine wp_bipush d_M_oneToken_357 (by decide) (by decide) ?_
  refine wp_icmp_ne (tgt := 375) d_M_oneToken_359 (by decide) (fun hc => ?_) (fun hc => ?_)
  · replace h := h.1 hc
    exact wp_pick [0, 1, 2, 3] rfl h
  · replace h := h.2 hc
    refine wp_iload d_M_oneToken_362 4 rfl ?_
    refine wp_bipush d_M_oneToken_364 (by decide) (by decide) ?_
    refine wp_icmp_ne (tgt := 375) d_M_oneToken_366 (by decide) (fun hc => ?_) (fun hc => ?_)
    · replace h := h.1 hc
      exact wp_pick [0, 1, 2, 3] rfl h
    · replace h := h.2 hc
      refine wp_sipush d_M_oneToken_369 (by decide) (by decide) ?_
      refine wp_goto (tgt := 376) d_M_oneToken_372 (by decide) ?_
      exact wp_pick [0, 1, 2, 3] rfl h
set_option maxRecDepth 20000 in
set_option maxHeartbeats 2000000 in
theorem t_M_oneToken_375 {x1 : Int} {x2 : Int} {x3 : Int}  {w : Wo} {Q : Option AV → Wo → Prop} (h : Wp m_M_oneToken 376 [(0, vr 78), (1, vi x1), (2, vi x2), (3, vi x3)] [vi 0] (0, 0) w Q) : Wp m_M_oneToken 375 [(0, vr 78), (1, vi x1), (2, vi x2), (3, vi x3)] [] (0, 0) w Q := by
  refine wp_ly (fun hly => ?_)
  refine wp_iconst d_M_oneToken_375 (by decide) ?_
  exact h
set_option maxRecDepth 20000 in
set_option maxHeartbeats 2000000 in
theorem t_M_oneToken_376 {x1 : Int} {x2 : Int} {x3 : Int} {s0 : Int}  {w : Wo} {Q : Option AV → Wo → Prop} (h : ((x2 = 40 → Wp m_M_oneToken 468 [(0, vr 78), (1, vi x1), (2, vi x2), (3, vi x3), (7, vi s0)] [] (0, 0) w Q) ∧ (¬ x2 = 40 → ((x2 = 41 → Wp m_M_oneToken 468 [(0, vr 78), (1, vi x1), (2, vi x2), (3, vi x3), (7, vi s0)] [] (0, 0) w Q) ∧ (¬ x2 = 41 → ((x2 = 44 → Wp m_M_oneToken 468 [(0, vr 78), (1, vi x1), (2, vi x2), (3, vi x3), (7, vi s0)] [] (0, 0) w Q) ∧ (¬ x2 = 44 → ((x2 = 46 → Wp m_M_oneToken 468 [(0, vr 78), (1, vi x1), (2, vi x2), (3, vi x3), (7, vi s0)] [] (0, 0) w Q) ∧ (¬ x2 = 46 → ((x2 = 63 → Wp m_M_oneToken 468 [(0, vr 78), (1, vi x1), (2, vi x2), (3, vi x3), (7, vi s0)] [] (0, 0) w Q) ∧ (¬ x2 = 63 → ((x2 = 33 → Wp m_M_oneToken 468 [(0, vr 78), (1, vi x1), (2, vi x2), (3, vi x3), (7, vi s0)] [] (0, 0) w Q) ∧ (¬ x2 = 33 → ((x2 = 95 → Wp m_M_oneToken 468 [(0, vr 78), (1, vi x1), (2, vi x2), (3, vi x3), (7, vi s0)] [] (0, 0) w Q) ∧ (¬ x2 = 95 → ((x2 = 61 → Wp m_M_oneToken 468 [(0, vr 78), (1, vi x1), (2, vi x2), (3, vi x3), (7, vi s0)] [] (0, 0) w Q) ∧ (¬ x2 = 61 → ((x2 = 60 → Wp m_M_oneToken 468 [(0, vr 78), (1, vi x1), (2, vi x2), (3, vi x3), (7, vi s0)] [] (0, 0) w Q) ∧ (¬ x2 = 60 → ((x2 = 62 → Wp m_M_oneToken 468 [(0, vr 78), (1, vi x1), (2, vi x2), (3, vi x3), (7, vi s0)] [] (0, 0) w Q) ∧ (¬ x2 = 62 → ((x2 = 43 → Wp m_M_oneToken 468 [(0, vr 78), (1, vi x1), (2, vi x2), (3, vi x3), (7, vi s0)] [] (0, 0) w Q) ∧ (¬ x2 = 43 → ((x2 = 45 → Wp m_M_oneToken 468 [(0, vr 78), (1, vi x1), (2, vi x2), (3, vi x3), (7, vi s0)] [] (0, 0) w Q) ∧ (¬ x2 = 45 → ((x2 = 42 → Wp m_M_oneToken 468 [(0, vr 78), (1, vi x1), (2, vi x2), (3, vi x3), (7, vi s0)] [] (0, 0) w Q) ∧ (¬ x2 = 42 → ((x2 = 47 → Wp m_M_oneToken 468 [(0, vr 78), (1, vi x1), (2, vi x2), (3, vi x3), (7, vi s0)] [] (0, 0) w Q) ∧ (¬ x2 = 47 → ((¬ x2 = 37 → Wp m_M_oneToken 473 [(0, vr 78), (1, vi x1), (2, vi x2), (3, vi x3), (7, vi s0)] [vi 0] (0, 0) w Q) ∧ (x2 = 37 → Wp m_M_oneToken 468 [(0, vr 78), (1, vi x1), (2, vi x2), (3, vi x3), (7, vi s0)] [] (0, 0) w Q))))))))))))))))))))))))))))))) : Wp m_M_oneToken 376 [(0, vr 78), (1, vi x1), (2, vi x2), (3, vi x3)] [vi s0] (0, 0) w Q := by
  refine wp_ly (fun hly => ?_)
  refine wp_istore (L' := [(7, vi s0), (0, vr 78), (1, vi x1), (2, vi x2), (3, vi x3)]) d_M_oneToken_376 rfl (by decide) ?_
  refine wp_iload_n d_M_oneToken_378 (i := 2) rfl 3 rfl ?_
  refine wp_bipush d_M_oneToken_379 (by decide) (by decide) ?_
  refine wp_icmp_eq (tgt := 468) d_M_oneToken_381 (by decide) (fun hc => ?_) (fun hc => ?_)
  · replace h := h.1 hc
    exact wp_pick [1, 2, 3, 4, 0] rfl h
  · replace h := h.2 hc
    refine wp_iload_n d_M_oneToken_384 (i := 2) rfl 3 rfl ?_
    refine wp_bipush d_M_oneToken_385 (by decide) (by decide) ?_
    refine wp_icmp_eq (tgt := 468) d_M_oneToken_387 (by decide) (fun hc => ?_) (fun hc => ?_)
    · replace h := h.1 hc
      exact wp_pick [1, 2, 3, 4, 0] rfl h
    · replace h := h.2 hc
      refine wp_iload_n d_M_oneToken_390 (i := 2) rfl 3 rfl ?_
      refine wp_bipush d_M_oneToken_391 (by decide) (by decide) ?_
      refine wp_icmp_eq (tgt := 468) d_M_oneToken_393 (by decide) (fun hc => ?_) (fun hc => ?_)
      · replace h := h.1 hc
        exact wp_pick [1, 2, 3, 4, 0] rfl h
      · replace h := h.2 hc
        refine wp_iload_n d_M_oneToken_396 (i := 2) rfl 3 rfl ?_
        refine wp_bipush d_M_oneToken_397 (by decide) (by decide) ?_
        refine wp_icmp_eq (tgt := 468) d_M_oneToken_399 (by decide) (fun hc => ?_) (fun hc => ?_)
        · replace h := h.1 hc
          exact wp_pick [1, 2, 3, 4, 0] rfl h
        · replace h := h.2 hc
          refine wp_iload_n d_M_oneToken_402 (i := 2) rfl 3 rfl ?_
          refine wp_bipush d_M_oneToken_403 (by decide) (by decide) ?_
          refine wp_icmp_eq (tgt := 468) d_M_oneToken_405 (by decide) (fun hc => ?_) (fun hc => ?_)
          · replace h := h.1 hc
            exact wp_pick [1, 2, 3, 4, 0] rfl h
          · replace h := h.2 hc
            refine wp_iload_n d_M_oneToken_408 (i := 2) rfl 3 rfl ?_
            refine wp_bipush d_M_oneToken_409 (by decide) (by decide) ?_
            refine wp_icmp_eq (tgt := 468) d_M_oneToken_411 (by decide) (fun hc => ?_) (fun hc => ?_)
            · replace h := h.1 hc
              exact wp_pick [1, 2, 3, 4, 0] rfl h
            · replace h := h.2 hc
              refine wp_iload_n d_M_oneToken_414 (i := 2) rfl 3 rfl ?_
              refine wp_bipush d_M_oneToken_415 (by decide) (by decide) ?_
              refine wp_icmp_eq (tgt := 468) d_M_oneToken_417 (by decide) (fun hc => ?_) (fun hc => ?_)
              · replace h := h.1 hc
                exact wp_pick [1, 2, 3, 4, 0] rfl h
              · replace h := h.2 hc
                refine wp_iload_n d_M_oneToken_420 (i := 2) rfl 3 rfl ?_
                refine wp_bipush d_M_oneToken_421 (by decide) (by decide) ?_
                refine wp_icmp_eq (tgt := 468) d_M_oneToken_423 (by decide) (fun hc => ?_) (fun hc => ?_)
                · replace h := h.1 hc
                  exact wp_pick [1, 2, 3, 4, 0] rfl h
                · replace h := h.2 hc
                  refine wp_iload_n d_M_oneToken_426 (i := 2) rfl 3 rfl ?_
                  refine wp_bipush d_M_oneToken_427 (by decide) (by decide) ?_
                  refine wp_icmp_eq (tgt := 468) d_M_oneToken_429 (by decide) (fun hc => ?_) (fun hc => ?_)
                  · replace h := h.1 hc
                    exact wp_pick [1, 2, 3, 4, 0] rfl h
                  · replace h := h.2 hc
                    refine wp_iload_n d_M_oneToken_432 (i := 2) rfl 3 rfl ?_
                    refine wp_bipush d_M_oneToken_433 (by decide) (by decide) ?_
                    refine wp_icmp_eq (tgt := 468) d_M_oneToken_435 (by decide) (fun hc => ?_) (fun hc => ?_)
                    · replace h := h.1 hc
                      exact wp_pick [1, 2, 3, 4, 0] rfl h
                    · replace h := h.2 hc
                      refine wp_iload_n d_M_oneToken_438 (i := 2) rfl 3 rfl ?_
                      refine wp_bipush d_M_oneToken_439 (by decide) (by decide) ?_
                      refine wp_icmp_eq (tgt := 468) d_M_oneToken_441 (by decide) (fun hc => ?_) (fun hc => ?_)
                      · replace h := h.1 hc
                        exact wp_pick [1, 2, 3, 4, 0] rfl h
                      · replace h := h.2 hc
                        refine wp_iload_n d_M_oneToken_444 (i := 2) rfl 3 rfl ?_
                        refine wp_bipush d_M_oneToken_445 (by decide) (by decide) ?_
                        refine wp_icmp_eq (tgt := 468) d_M_oneToken_447 (by decide) (fun hc => ?_) (fun hc => ?_)
                        · replace h := h.1 hc
                          exact wp_pick [1, 2, 3, 4, 0] rfl h
                        · replace h := h.2 hc
                          refine wp_iload_n d_M_oneToken_450 (i := 2) rfl 3 rfl ?_
                          refine wp_bipush d_M_oneToken_451 (by decide) (by decide) ?_
                          refine wp_icmp_eq (tgt := 468) d_M_oneToken_453 (by decide) (fun hc => ?_) (fun hc => ?_)
                          · replace h := h.1 hc
                            exact wp_pick [1, 2, 3, 4, 0] rfl h
                          · replace h := h.2 hc
                            refine wp_iload_n d_M_oneToken_456 (i := 2) rfl 3 rfl ?_
                            refine wp_bipush d_M_oneToken_457 (by decide) (by decide) ?_
                            refine wp_icmp_eq (tgt := 468) d_M_oneToken_459 (by decide) (fun hc => ?_) (fun hc => ?_)
                            · replace h := h.1 hc
                              exact wp_pick [1, 2, 3, 4, 0] rfl h
                            · replace h := h.2 hc
                              refine wp_iload_n d_M_oneToken_462 (i := 2) rfl 3 rfl ?_
                              refine wp_bipush d_M_oneToken_463 (by decide) (by decide) ?_
                              refine wp_icmp_ne (tgt := 472) d_M_oneToken_465 (by decide) (fun hc => ?_) (fun hc => ?_)
                              · replace h := h.1 hc
                                refine wp_iconst d_M_oneToken_472 (by decide) ?_
                                exact wp_pick [1, 2, 3, 4, 0] rfl h
                              · replace h := h.2 hc
                                exact wp_pick [1, 2, 3, 4, 0] rfl h
set_option maxRecDepth 20000 in
set_option maxHeartbeats 2000000 in
theorem t_M_oneToken_468 {x1 : Int} {x2 : Int} {x3 : Int} {x7 : Int}  {w : Wo} {Q : Option AV → Wo → Prop} (h : Wp m_M_oneToken 473 [(0, vr 78), (1, vi x1), (2, vi x2), (3, vi x3), (7, vi x7)] [vi 1] (0, 0) w Q) : Wp m_M_oneToken 468 [(0, vr 78), (1, vi x1), (2, vi x2), (3, vi x3), (7, vi x7)] [] (0, 0) w Q := by
  refine wp_ly (fun hly => ?_)
  refine wp_iconst d_M_oneToken_468 (by decide) ?_
  refine wp_goto (tgt := 473) d_M_oneToken_469 (by decide) ?_
  exact h
set_option maxRecDepth 20000 in
set_option maxHeartbeats 2000000 in
theorem t_M_oneToken_473 {x1 : Int} {x2 : Int} {x3 : Int} {x7 : Int} {s0 : Int}  {w : Wo} {Q : Option AV → Wo → Prop} (h : ((0 < x7 → ((x7 ≤ 0 → MetV m_M_token [vr 78, vi 4, vi x2, vi x1, vl 0] w (fun w1 => ((x7 ≤ 0 → inr32 (x3 + 0) ∧ Q (some (vi (x3 + 0))) w1) ∧ (¬ x7 ≤ 0 → inr32 (x3 + 1) ∧ Q (some (vi (x3 + 1))) w1)))) ∧ (¬ x7 ≤ 0 → MetV m_M_token [vr 78, vi 4, vi x7, vi x1, vl 0] w (fun w2 => ((x7 ≤ 0 → inr32 (x3 + 0) ∧ Q (some (vi (x3 + 0))) w2) ∧ (¬ x7 ≤ 0 → inr32 (x3 + 1) ∧ Q (some (vi (x3 + 1))) w2)))))) ∧ (¬ 0 < x7 → ((s0 = 0 → ((x7 ≤ 0 → MetV m_M_token [vr 78, vi 6, vi x2, vi x1, vl 0] w (fun w3 => ((x7 ≤ 0 → inr32 (x3 + 0) ∧ Q (some (vi (x3 + 0))) w3) ∧ (¬ x7 ≤ 0 → inr32 (x3 + 1) ∧ Q (some (vi (x3 + 1))) w3)))) ∧ (¬ x7 ≤ 0 → MetV m_M_token [vr 78, vi 6, vi x7, vi x1, vl 0] w (fun w4 => ((x7 ≤ 0 → inr32 (x3 + 0) ∧ Q (some (vi (x3 + 0))) w4) ∧ (¬ x7 ≤ 0 → inr32 (x3 + 1) ∧ Q (some (vi (x3 + 1))) w4)))))) ∧ (¬ s0 = 0 → ((x7 ≤ 0 → MetV m_M_token [vr 78, vi 4, vi x2, vi x1, vl 0] w (fun w5 => ((x7 ≤ 0 → inr32 (x3 + 0) ∧ Q (some (vi (x3 + 0))) w5) ∧ (¬ x7 ≤ 0 → inr32 (x3 + 1) ∧ Q (some (vi (x3 + 1))) w5)))) ∧ (¬ x7 ≤ 0 → MetV m_M_token [vr 78, vi 4, vi x7, vi x1, vl 0] w (fun w6 => ((x7 ≤ 0 → inr32 (x3 + 0) ∧ Q (some (vi (x3 + 0))) w6) ∧ (¬ x7 ≤ 0 → inr32 (x3 + 1) ∧ Q (some (vi (x3 + 1))) w6)))))))))) : Wp m_M_oneToken 473 [(0, vr 78), (1, vi x1), (2, vi x2), (3, vi x3), (7, vi x7)] [vi s0] (0, 0) w Q := by
  refine wp_ly (fun hly => ?_)
  refine wp_istore (L' := [(8, vi s0), (0, vr 78), (1, vi x1), (2, vi x2), (3, vi x3), (7, vi x7)]) d_M_oneToken_473 rfl (by decide) ?_
  refine wp_aload_n d_M_oneToken_475 (i := 0) rfl 1 rfl ?_
  refine wp_iload d_M_oneToken_476 5 rfl ?_
  refine wp_if_gt (tgt := 486) d_M_oneToken_478 (by decide) (fun hc => ?_) (fun hc => ?_)
  · replace h := h.1 hc
    refine wp_iconst d_M_oneToken_486 (by decide) ?_
    refine wp_goto (tgt := 492) d_M_oneToken_487 (by decide) ?_
    refine wp_iload d_M_oneToken_492 5 rfl ?_
    refine wp_if_le (tgt := 502) d_M_oneToken_494 (by decide) (fun hc => ?_) (fun hc => ?_)
    · replace h := h.1 hc
      refine wp_iload_n d_M_oneToken_502 (i := 2) rfl 3 rfl ?_
      refine wp_iload_n d_M_oneToken_503 (i := 1) rfl 2 rfl ?_
      refine wp_lconst d_M_oneToken_504 (x := 0) (by decide) (by decide) ?_
      refine wp_callV (A := [vi 4, vi x2, vi x1, vl 0]) (S := []) d_M_oneToken_505 cv_M_oneToken_156 (ly_o hly (by decide)) rfl (Nat.le_of_ble_eq_true rfl) (by decide) (MetS.mono h (fun r w1 hh => ?_))
      obtain ⟨er, h⟩ := hh
      subst er
      refine wp_ly (fun hly => ?_)
      refine wp_iload_n d_M_oneToken_508 (i := 3) rfl 4 rfl ?_
      refine wp_iload d_M_oneToken_509 5 rfl ?_
      refine wp_if_le (tgt := 518) d_M_oneToken_511 (by decide) (fun hc => ?_) (fun hc => ?_)
      · replace h := h.1 hc
        refine wp_iconst d_M_oneToken_518 (by decide) ?_
        obtain ⟨ho, h⟩ := h
        refine wp_iadd d_M_oneToken_519 ho ?_
        refine wp_istore_n (L' := [(3, vi (x3 + 0)), (8, vi s0), (0, vr 78), (1, vi x1), (2, vi x2), (7, vi x7)]) d_M_oneToken_520 (i := 3) rfl rfl (by decide) ?_
        refine wp_iload_n d_M_oneToken_521 (i := 3) rfl 0 rfl ?_
        exact wp_iret d_M_oneToken_522 rfl (by decide) h
      · replace h := h.2 hc
        refine wp_iconst d_M_oneToken_514 (by decide) ?_
        refine wp_goto (tgt := 519) d_M_oneToken_515 (by decide) ?_
        obtain ⟨ho, h⟩ := h
        refine wp_iadd d_M_oneToken_519 ho ?_
        refine wp_istore_n (L' := [(3, vi (x3 + 1)), (8, vi s0), (0, vr 78), (1, vi x1), (2, vi x2), (7, vi x7)]) d_M_oneToken_520 (i := 3) rfl rfl (by decide) ?_
        refine wp_iload_n d_M_oneToken_521 (i := 3) rfl 0 rfl ?_
        exact wp_iret d_M_oneToken_522 rfl (by decide) h
    · replace h := h.2 hc
      refine wp_iload d_M_oneToken_497 5 rfl ?_
      refine wp_goto (tgt := 503) d_M_oneToken_499 (by decide) ?_
      refine wp_iload_n d_M_oneToken_503 (i := 1) rfl 2 rfl ?_
      refine wp_lconst d_M_oneToken_504 (x := 0) (by decide) (by decide) ?_
      refine wp_callV (A := [vi 4, vi x7, vi x1, vl 0]) (S := []) d_M_oneToken_505 cv_M_oneToken_156 (ly_o hly (by decide)) rfl (Nat.le_of_ble_eq_true rfl) (by decide) (MetS.mono h (fun r w2 hh => ?_))
      obtain ⟨er, h⟩ := hh
      subst er
      refine wp_ly (fun hly => ?_)
      refine wp_iload_n d_M_oneToken_508 (i := 3) rfl 4 rfl ?_
      refine wp_iload d_M_oneToken_509 5 rfl ?_
      refine wp_if_le (tgt := 518) d_M_oneToken_511 (by decide) (fun hc => ?_) (fun hc => ?_)
      · replace h := h.1 hc
        refine wp_iconst d_M_oneToken_518 (by decide) ?_
        obtain ⟨ho, h⟩ := h
        refine wp_iadd d_M_oneToken_519 ho ?_
        refine wp_istore_n (L' := [(3, vi (x3 + 0)), (8, vi s0), (0, vr 78), (1, vi x1), (2, vi x2), (7, vi x7)]) d_M_oneToken_520 (i := 3) rfl rfl (by decide) ?_
        refine wp_iload_n d_M_oneToken_521 (i := 3) rfl 0 rfl ?_
        exact wp_iret d_M_oneToken_522 rfl (by decide) h
      · replace h := h.2 hc
        refine wp_iconst d_M_oneToken_514 (by decide) ?_
        refine wp_goto (tgt := 519) d_M_oneToken_515 (by decide) ?_
        obtain ⟨ho, h⟩ := h
        refine wp_iadd d_M_oneToken_519 ho ?_
        refine wp_istore_n (L' := [(3, vi (x3 + 1)), (8, vi s0), (0, vr 78), (1, vi x1), (2, vi x2), (7, vi x7)]) d_M_oneToken_520 (i := 3) rfl rfl (by decide) ?_
        refine wp_iload_n d_M_oneToken_521 (i := 3) rfl 0 rfl ?_
        exact wp_iret d_M_oneToken_522 rfl (by decide) h
  · replace h := h.2 hc
    refine wp_iload d_M_oneToken_481 0 rfl ?_
    refine wp_if_eq (tgt := 490) d_M_oneToken_483 (by decide) (fun hc => ?_) (fun hc => ?_)
    · replace h := h.1 hc
      refine wp_bipush d_M_oneToken_490 (by decide) (by decide) ?_
      refine wp_iload d_M_oneToken_492 5 rfl ?_
      refine wp_if_le (tgt := 502) d_M_oneToken_494 (by decide) (fun hc => ?_) (fun hc => ?_)
      · replace h := h.1 hc
        refine wp_iload_n d_M_oneToken_502 (i := 2) rfl 3 rfl ?_
        refine wp_iload_n d_M_oneToken_503 (i := 1) rfl 2 rfl ?_
        refine wp_lconst d_M_oneToken_504 (x := 0) (by decide) (by decide) ?_
        refine wp_callV (A := [vi 6, vi x2, vi x1, vl 0]) (S := []) d_M_oneToken_505 cv_M_oneToken_156 (ly_o hly (by decide)) rfl (Nat.le_of_ble_eq_true rfl) (by decide) (MetS.mono h (fun r w3 hh => ?_))
        obtain ⟨er, h⟩ := hh
        subst er
        refine wp_ly (fun hly => ?_)
        refine wp_iload_n d_M_oneToken_508 (i := 3) rfl 4 rfl ?_
        refine wp_iload d_M_oneToken_509 5 rfl ?_
        refine wp_if_le (tgt := 518) d_M_oneToken_511 (by decide) (fun hc => ?_) (fun hc => ?_)
        · replace h := h.1 hc
          refine wp_iconst d_M_oneToken_518 (by decide) ?_
          obtain ⟨ho, h⟩ := h
          refine wp_iadd d_M_oneToken_519 ho ?_
          refine wp_istore_n (L' := [(3, vi (x3 + 0)), (8, vi s0), (0, vr 78), (1, vi x1), (2, vi x2), (7, vi x7)]) d_M_oneToken_520 (i := 3) rfl rfl (by decide) ?_
          refine wp_iload_n d_M_oneToken_521 (i := 3) rfl 0 rfl ?_
          exact wp_iret d_M_oneToken_522 rfl (by decide) h
        · replace h := h.2 hc
          refine wp_iconst d_M_oneToken_514 (by decide) ?_
          refine wp_goto (tgt := 519) d_M_oneToken_515 (by decide) ?_
          obtain ⟨ho, h⟩ := h
          refine wp_iadd d_M_oneToken_519 ho ?_
          refine wp_istore_n (L' := [(3, vi (x3 + 1)), (8, vi s0), (0, vr 78), (1, vi x1), (2, vi x2), (7, vi x7)]) d_M_oneToken_520 (i := 3) rfl rfl (by decide) ?_
          refine wp_iload_n d_M_oneToken_521 (i := 3) rfl 0 rfl ?_
          exact wp_iret d_M_oneToken_522 rfl (by decide) h
      · replace h := h.2 hc
        refine wp_iload d_M_oneToken_497 5 rfl ?_
        refine wp_goto (tgt := 503) d_M_oneToken_499 (by decide) ?_
        refine wp_iload_n d_M_oneToken_503 (i := 1) rfl 2 rfl ?_
        refine wp_lconst d_M_oneToken_504 (x := 0) (by decide) (by decide) ?_
        refine wp_callV (A := [vi 6, vi x7, vi x1, vl 0]) (S := []) d_M_oneToken_505 cv_M_oneToken_156 (ly_o hly (by decide)) rfl (Nat.le_of_ble_eq_true rfl) (by decide) (MetS.mono h (fun r w4 hh => ?_))
        obtain ⟨er, h⟩ := hh
        subst er
        refine wp_ly (fun hly => ?_)
        refine wp_iload_n d_M_oneToken_508 (i := 3) rfl 4 rfl ?_
        refine wp_iload d_M_oneToken_509 5 rfl ?_
        refine wp_if_le (tgt := 518) d_M_oneToken_511 (by decide) (fun hc => ?_) (fun hc => ?_)
        · replace h := h.1 hc
          refine wp_iconst d_M_oneToken_518 (by decide) ?_
          obtain ⟨ho, h⟩ := h
          refine wp_iadd d_M_oneToken_519 ho ?_
          refine wp_istore_n (L' := [(3, vi (x3 + 0)), (8, vi s0), (0, vr 78), (1, vi x1), (2, vi x2), (7, vi x7)]) d_M_oneToken_520 (i := 3) rfl rfl (by decide) ?_
          refine wp_iload_n d_M_oneToken_521 (i := 3) rfl 0 rfl ?_
          exact wp_iret d_M_oneToken_522 rfl (by decide) h
        · replace h := h.2 hc
          refine wp_iconst d_M_oneToken_514 (by decide) ?_
          refine wp_goto (tgt := 519) d_M_oneToken_515 (by decide) ?_
          obtain ⟨ho, h⟩ := h
          refine wp_iadd d_M_oneToken_519 ho ?_
          refine wp_istore_n (L' := [(3, vi (x3 + 1)), (8, vi s0), (0, vr 78), (1, vi x1), (2, vi x2), (7, vi x7)]) d_M_oneToken_520 (i := 3) rfl rfl (by decide) ?_
          refine wp_iload_n d_M_oneToken_521 (i := 3) rfl 0 rfl ?_
          exact wp_iret d_M_oneToken_522 rfl (by decide) h
    · replace h := h.2 hc
      refine wp_iconst d_M_oneToken_486 (by decide) ?_
      refine wp_goto (tgt := 492) d_M_oneToken_487 (by decide) ?_
      refine wp_iload d_M_oneToken_492 5 rfl ?_
      refine wp_if_le (tgt := 502) d_M_oneToken_494 (by decide) (fun hc => ?_) (fun hc => ?_)
      · replace h := h.1 hc
        refine wp_iload_n d_M_oneToken_502 (i := 2) rfl 3 rfl ?_
        refine wp_iload_n d_M_oneToken_503 (i := 1) rfl 2 rfl ?_
        refine wp_lconst d_M_oneToken_504 (x := 0) (by decide) (by decide) ?_
        refine wp_callV (A := [vi 4, vi x2, vi x1, vl 0]) (S := []) d_M_oneToken_505 cv_M_oneToken_156 (ly_o hly (by decide)) rfl (Nat.le_of_ble_eq_true rfl) (by decide) (MetS.mono h (fun r w5 hh => ?_))
        obtain ⟨er, h⟩ := hh
        subst er
        refine wp_ly (fun hly => ?_)
        refine wp_iload_n d_M_oneToken_508 (i := 3) rfl 4 rfl ?_
        refine wp_iload d_M_oneToken_509 5 rfl ?_
        refine wp_if_le (tgt := 518) d_M_oneToken_511 (by decide) (fun hc => ?_) (fun hc => ?_)
        · replace h := h.1 hc
          refine wp_iconst d_M_oneToken_518 (by decide) ?_
          obtain ⟨ho, h⟩ := h
          refine wp_iadd d_M_oneToken_519 ho ?_
          refine wp_istore_n (L' := [(3, vi (x3 + 0)), (8, vi s0), (0, vr 78), (1, vi x1), (2, vi x2), (7, vi x7)]) d_M_oneToken_520 (i := 3) rfl rfl (by decide) ?_
          refine wp_iload_n d_M_oneToken_521 (i := 3) rfl 0 rfl ?_
          exact wp_iret d_M_oneToken_522 rfl (by decide) h
        · replace h := h.2 hc
          refine wp_iconst d_M_oneToken_514 (by decide) ?_
          refine wp_goto (tgt := 519) d_M_oneToken_515 (by decide) ?_
          obtain ⟨ho, h⟩ := h
          refine wp_iadd d_M_oneToken_519 ho ?_
          refine wp_istore_n (L' := [(3, vi (x3 + 1)), (8, vi s0), (0, vr 78), (1, vi x1), (2, vi x2), (7, vi x7)]) d_M_oneToken_520 (i := 3) rfl rfl (by decide) ?_
          refine wp_iload_n d_M_oneToken_521 (i := 3) rfl 0 rfl ?_
          exact wp_iret d_M_oneToken_522 rfl (by decide) h
      · replace h := h.2 hc
        refine wp_iload d_M_oneToken_497 5 rfl ?_
        refine wp_goto (tgt := 503) d_M_oneToken_499 (by decide) ?_
        refine wp_iload_n d_M_oneToken_503 (i := 1) rfl 2 rfl ?_
        refine wp_lconst d_M_oneToken_504 (x := 0) (by decide) (by decide) ?_
        refine wp_callV (A := [vi 4, vi x7, vi x1, vl 0]) (S := []) d_M_oneToken_505 cv_M_oneToken_156 (ly_o hly (by decide)) rfl (Nat.le_of_ble_eq_true rfl) (by decide) (MetS.mono h (fun r w6 hh => ?_))
        obtain ⟨er, h⟩ := hh
        subst er
        refine wp_ly (fun hly => ?_)
        refine wp_iload_n d_M_oneToken_508 (i := 3) rfl 4 rfl ?_
        refine wp_iload d_M_oneToken_509 5 rfl ?_
        refine wp_if_le (tgt := 518) d_M_oneToken_511 (by decide) (fun hc => ?_) (fun hc => ?_)
        · replace h := h.1 hc
          refine wp_iconst d_M_oneToken_518 (by decide) ?_
          obtain ⟨ho, h⟩ := h
          refine wp_iadd d_M_oneToken_519 ho ?_
          refine wp_istore_n (L' := [(3, vi (x3 + 0)), (8, vi s0), (0, vr 78), (1, vi x1), (2, vi x2), (7, vi x7)]) d_M_oneToken_520 (i := 3) rfl rfl (by decide) ?_
          refine wp_iload_n d_M_oneToken_521 (i := 3) rfl 0 rfl ?_
          exact wp_iret d_M_oneToken_522 rfl (by decide) h
        · replace h := h.2 hc
          refine wp_iconst d_M_oneToken_514 (by decide) ?_
          refine wp_goto (tgt := 519) d_M_oneToken_515 (by decide) ?_
          obtain ⟨ho, h⟩ := h
          refine wp_iadd d_M_oneToken_519 ho ?_
          refine wp_istore_n (L' := [(3, vi (x3 + 1)), (8, vi s0), (0, vr 78), (1, vi x1), (2, vi x2), (7, vi x7)]) d_M_oneToken_520 (i := 3) rfl rfl (by decide) ?_
          refine wp_iload_n d_M_oneToken_521 (i := 3) rfl 0 rfl ?_
          exact wp_iret d_M_oneToken_522 rfl (by decide) h
set_option maxRecDepth 20000 in
set_option maxHeartbeats 2000000 in
theorem t_M_wrong_0 {x1 : Int}  {w : Wo} {Q : Option AV → Wo → Prop} (h : (((gI w 78 3) = 1 → Q (some (vi 0)) w) ∧ (¬ (gI w 78 3) = 1 → (∀ w1 : Wo, w1 = uI w 78 3 1 → (∀ w3 : Wo, w3 = uI w1 78 4 x1 → Q (some (vi 0)) w3))))) : Wp m_M_wrong 0 [(0, vr 78), (1, vi x1)] [] (0, 0) w Q := by
  refine wp_ly (fun hly => ?_)
  refine wp_aload_n d_M_wrong_0 (i := 0) rfl 0 rfl ?_
  refine wp_getI d_M_wrong_1 fl_M_174 cl_9 rfl (ly_o hly (by decide)) ?_
  refine wp_iconst d_M_wrong_4 (by decide) ?_
  refine wp_icmp_eq (tgt := 18) d_M_wrong_5 (by decide) (fun hc => ?_) (fun hc => ?_)
  · replace h := h.1 hc
    refine wp_iconst d_M_wrong_18 (by decide) ?_
    exact wp_zret d_M_wrong_19 rfl (by decide) (by decide) h
  · replace h := h.2 hc
    refine wp_aload_n d_M_wrong_8 (i := 0) rfl 0 rfl ?_
    refine wp_iconst d_M_wrong_9 (by decide) ?_
    refine wp_putI d_M_wrong_10 fl_M_174 cl_9 ⟨rfl, rfl⟩ (ly_o hly (by decide)) (fun w1 e2 => ?_)
    replace h := h w1 e2
    refine wp_ly (fun hly => ?_)
    refine wp_aload_n d_M_wrong_13 (i := 0) rfl 0 rfl ?_
    refine wp_iload_n d_M_wrong_14 (i := 1) rfl 1 rfl ?_
    refine wp_putI d_M_wrong_15 fl_M_177 cl_9 ⟨rfl, rfl⟩ (ly_o hly (by decide)) (fun w3 e4 => ?_)
    replace h := h w3 e4
    refine wp_ly (fun hly => ?_)
    refine wp_iconst d_M_wrong_18 (by decide) ?_
    exact wp_zret d_M_wrong_19 rfl (by decide) (by decide) h
set_option maxRecDepth 20000 in
set_option maxHeartbeats 2000000 in
theorem t_M_refuse_0   {w : Wo} {Q : Option AV → Wo → Prop} (h : (0 ≤ (gI w 78 10) ∧ (gI w 78 10) < 602) ∧ MetI m_M_wrong [vr 78, vi (gI w 81 (gI w 78 10).toNat)] w (fun z3 w2 => (z3 = 0 ∨ z3 = 1) ∧ Q (some (vi z3)) w2)) : Wp m_M_refuse 0 [(0, vr 78)] [] (0, 0) w Q := by
  refine wp_ly (fun hly => ?_)
  refine wp_aload_n d_M_refuse_0 (i := 0) rfl 0 rfl ?_
  refine wp_aload_n d_M_refuse_1 (i := 0) rfl 0 rfl ?_
  refine wp_getP d_M_refuse_2 fl_M_16 cl_9 rfl (ly_o hly (by decide)) (ly_r (v := 81) hly (by decide +kernel)) ?_
  refine wp_aload_n d_M_refuse_5 (i := 0) rfl 0 rfl ?_
  refine wp_getI d_M_refuse_6 fl_M_180 cl_9 rfl (ly_o hly (by decide)) ?_
  obtain ⟨hi1, h⟩ := h
  refine wp_iaload d_M_refuse_9 (ly_a (n := 602) (N := 602) hly (by decide) hi1) ?_
  refine wp_callV (A := [vi (gI w 81 (gI w 78 10).toNat)]) (S := []) d_M_refuse_10 cv_M_refuse_183 (ly_o hly (by decide)) rfl (Nat.le_of_ble_eq_true rfl) (by decide) (MetS.mono h (fun r w2 hh => ?_))
  obtain ⟨z3, er, h⟩ := hh
  subst er
  refine wp_ly (fun hly => ?_)
  exact wp_zret d_M_refuse_13 rfl (by decide) h.1 h.2
set_option maxRecDepth 20000 in
set_option maxHeartbeats 2000000 in
theorem t_M_isSign_0 {x1 : Int}  {w : Wo} {Q : Option AV → Wo → Prop} (h : (0 ≤ (gI w 78 10) ∧ (gI w 78 10) < 602) ∧ ((¬ (gI w 80 (gI w 78 10).toNat) = 4 → Q (some (vi 0)) w) ∧ ((gI w 80 (gI w 78 10).toNat) = 4 → (0 ≤ (gI w 78 10) ∧ (gI w 78 10) < 602) ∧ ((¬ (gI w 82 (gI w 78 10).toNat) = x1 → Q (some (vi 0)) w) ∧ ((gI w 82 (gI w 78 10).toNat) = x1 → Q (some (vi 1)) w))))) : Wp m_M_isSign 0 [(0, vr 78), (1, vi x1)] [] (0, 0) w Q := by
  refine wp_ly (fun hly => ?_)
  refine wp_aload_n d_M_isSign_0 (i := 0) rfl 0 rfl ?_
  refine wp_getP d_M_isSign_1 fl_M_13 cl_9 rfl (ly_o hly (by decide)) (ly_r (v := 80) hly (by decide +kernel)) ?_
  refine wp_aload_n d_M_isSign_4 (i := 0) rfl 0 rfl ?_
  refine wp_getI d_M_isSign_5 fl_M_180 cl_9 rfl (ly_o hly (by decide)) ?_
  obtain ⟨hi1, h⟩ := h
  refine wp_iaload d_M_isSign_8 (ly_a (n := 602) (N := 602) hly (by decide) hi1) ?_
  refine wp_iconst d_M_isSign_9 (by decide) ?_
  refine wp_icmp_ne (tgt := 30) d_M_isSign_10 (by decide) (fun hc => ?_) (fun hc => ?_)
  · replace h := h.1 hc
    refine wp_iconst d_M_isSign_30 (by decide) ?_
    exact wp_zret d_M_isSign_31 rfl (by decide) (by decide) h
  · replace h := h.2 hc
    refine wp_aload_n d_M_isSign_13 (i := 0) rfl 0 rfl ?_
    refine wp_getP d_M_isSign_14 fl_M_19 cl_9 rfl (ly_o hly (by decide)) (ly_r (v := 82) hly (by decide +kernel)) ?_
    refine wp_aload_n d_M_isSign_17 (i := 0) rfl 0 rfl ?_
    refine wp_getI d_M_isSign_18 fl_M_180 cl_9 rfl (ly_o hly (by decide)) ?_
    obtain ⟨hi2, h⟩ := h
    refine wp_iaload d_M_isSign_21 (ly_a (n := 602) (N := 602) hly (by decide) hi2) ?_
    refine wp_iload_n d_M_isSign_22 (i := 1) rfl 1 rfl ?_
    refine wp_icmp_ne (tgt := 30) d_M_isSign_23 (by decide) (fun hc => ?_) (fun hc => ?_)
    · replace h := h.1 hc
      refine wp_iconst d_M_isSign_30 (by decide) ?_
      exact wp_zret d_M_isSign_31 rfl (by decide) (by decide) h
    · replace h := h.2 hc
      refine wp_iconst d_M_isSign_26 (by decide) ?_
      refine wp_goto (tgt := 31) d_M_isSign_27 (by decide) ?_
      exact wp_zret d_M_isSign_31 rfl (by decide) (by decide) h
set_option maxRecDepth 20000 in
set_option maxHeartbeats 2000000 in
theorem t_M_takes_0 {x1 : Int}  {w : Wo} {Q : Option AV → Wo → Prop} (h : MetI m_M_isSign [vr 78, vi x1] w (fun z2 w1 => ((¬ z2 = 0 → inr32 ((gI w1 78 10) + 1) ∧ (∀ w3 : Wo, w3 = uI w1 78 10 ((gI w1 78 10) + 1) → Q (some (vi 1)) w3)) ∧ (z2 = 0 → Q (some (vi 0)) w1)))) : Wp m_M_takes 0 [(0, vr 78), (1, vi x1)] [] (0, 0) w Q := by
  refine wp_ly (fun hly => ?_)
  refine wp_aload_n d_M_takes_0 (i := 0) rfl 0 rfl ?_
  refine wp_iload_n d_M_takes_1 (i := 1) rfl 1 rfl ?_
  refine wp_callV (A := [vi x1]) (S := []) d_M_takes_2 cv_M_takes_186 (ly_o hly (by decide)) rfl (Nat.le_of_ble_eq_true rfl) (by decide) (MetS.mono h (fun r w1 hh => ?_))
  obtain ⟨z2, er, h⟩ := hh
  subst er
  refine wp_ly (fun hly => ?_)
  refine wp_if_ne (tgt := 10) d_M_takes_5 (by decide) (fun hc => ?_) (fun hc => ?_)
  · replace h := h.1 hc
    refine wp_aload_n d_M_takes_10 (i := 0) rfl 0 rfl ?_
    refine wp_dup d_M_takes_11 rfl ?_
    refine wp_getI d_M_takes_12 fl_M_180 cl_9 rfl (ly_o hly (by decide)) ?_
    refine wp_iconst d_M_takes_15 (by decide) ?_
    obtain ⟨ho, h⟩ := h
    refine wp_iadd d_M_takes_16 ho ?_
    refine wp_putI d_M_takes_17 fl_M_180 cl_9 ⟨rfl, rfl⟩ (ly_o hly (by decide)) (fun w3 e4 => ?_)
    replace h := h w3 e4
    refine wp_ly (fun hly => ?_)
    refine wp_iconst d_M_takes_20 (by decide) ?_
    exact wp_zret d_M_takes_21 rfl (by decide) (by decide) h
  · replace h := h.2 hc
    refine wp_iconst d_M_takes_8 (by decide) ?_
    exact wp_zret d_M_takes_9 rfl (by decide) (by decide) h
set_option maxRecDepth 20000 in
set_option maxHeartbeats 2000000 in
theorem t_M_want_0 {x1 : Int}  {w : Wo} {Q : Option AV → Wo → Prop} (h : MetI m_M_takes [vr 78, vi x1] w (fun z2 w1 => ((¬ z2 = 0 → Q (some (vi 1)) w1) ∧ (z2 = 0 → MetI m_M_refuse [vr 78] w1 (fun z4 w3 => ((z4 = 0 → Q (some (vi 0)) w3) ∧ (¬ z4 = 0 → Q (some (vi 1)) w3))))))) : Wp m_M_want 0 [(0, vr 78), (1, vi x1)] [] (0, 0) w Q := by
  refine wp_ly (fun hly => ?_)
  refine wp_aload_n d_M_want_0 (i := 0) rfl 0 rfl ?_
  refine wp_iload_n d_M_want_1 (i := 1) rfl 1 rfl ?_
  refine wp_callV (A := [vi x1]) (S := []) d_M_want_2 cv_M_want_189 (ly_o hly (by decide)) rfl (Nat.le_of_ble_eq_true rfl) (by decide) (MetS.mono h (fun r w1 hh => ?_))
  obtain ⟨z2, er, h⟩ := hh
  subst er
  refine wp_ly (fun hly => ?_)
  refine wp_if_ne (tgt := 15) d_M_want_5 (by decide) (fun hc => ?_) (fun hc => ?_)
  · replace h := h.1 hc
    refine wp_iconst d_M_want_15 (by decide) ?_
    refine wp_goto (tgt := 20) d_M_want_16 (by decide) ?_
    exact wp_zret d_M_want_20 rfl (by decide) (by decide) h
  · replace h := h.2 hc
    refine wp_aload_n d_M_want_8 (i := 0) rfl 0 rfl ?_
    refine wp_callV (A := []) (S := []) d_M_want_9 cv_M_want_192 (ly_o hly (by decide)) rfl (Nat.le_of_ble_eq_true rfl) (by decide) (MetS.mono h (fun r w3 hh => ?_))
    obtain ⟨z4, er, h⟩ := hh
    subst er
    refine wp_ly (fun hly => ?_)
    refine wp_if_eq (tgt := 19) d_M_want_12 (by decide) (fun hc => ?_) (fun hc => ?_)
    · replace h := h.1 hc
      refine wp_iconst d_M_want_19 (by decide) ?_
      exact wp_zret d_M_want_20 rfl (by decide) (by decide) h
    · replace h := h.2 hc
      refine wp_iconst d_M_want_15 (by decide) ?_
      refine wp_goto (tgt := 20) d_M_want_16 (by decide) ?_
      exact wp_zret d_M_want_20 rfl (by decide) (by decide) h
set_option maxRecDepth 20000 in
set_option maxHeartbeats 2000000 in
theorem t_M_note_0 {x1 : Int} {x2 : Int}  {w : Wo} {Q : Option AV → Wo → Prop} (h : (((gI w 78 3) = 1 → Q none w) ∧ (¬ (gI w 78 3) = 1 → (((gI w 78 3) = 0 → (∀ w1 : Wo, w1 = uI w 78 3 x1 → (∀ w3 : Wo, w3 = uI w1 78 4 x2 → Q none w3))) ∧ (¬ (gI w 78 3) = 0 → ((x2 < (gI w 78 4) → (∀ w5 : Wo, w5 = uI w 78 3 x1 → (∀ w7 : Wo, w7 = uI w5 78 4 x2 → Q none w7))) ∧ (¬ x2 < (gI w 78 4) → Q none w))))))) : Wp m_M_note 0 [(0, vr 78), (1, vi x1), (2, vi x2)] [] (0, 0) w Q := by
  refine wp_ly (fun hly => ?_)
  refine wp_aload_n d_M_note_0 (i := 0) rfl 0 rfl ?_
  refine wp_getI d_M_note_1 fl_M_174 cl_9 rfl (ly_o hly (by decide)) ?_
  refine wp_iconst d_M_note_4 (by decide) ?_
  refine wp_icmp_eq (tgt := 23) d_M_note_5 (by decide) (fun hc => ?_) (fun hc => ?_)
  · replace h := h.1 hc
    exact wp_vret d_M_note_23 rfl (by decide) h
  · replace h := h.2 hc
    refine wp_aload_n d_M_note_8 (i := 0) rfl 0 rfl ?_
    refine wp_getI d_M_note_9 fl_M_174 cl_9 rfl (ly_o hly (by decide)) ?_
    refine wp_if_eq (tgt := 24) d_M_note_12 (by decide) (fun hc => ?_) (fun hc => ?_)
    · replace h := h.1 hc
      refine wp_aload_n d_M_note_24 (i := 0) rfl 0 rfl ?_
      refine wp_iload_n d_M_note_25 (i := 1) rfl 1 rfl ?_
      refine wp_putI d_M_note_26 fl_M_174 cl_9 ⟨rfl, rfl⟩ (ly_o hly (by decide)) (fun w1 e2 => ?_)
      replace h := h w1 e2
      refine wp_ly (fun hly => ?_)
      refine wp_aload_n d_M_note_29 (i := 0) rfl 0 rfl ?_
      refine wp_iload_n d_M_note_30 (i := 2) rfl 2 rfl ?_
      refine wp_putI d_M_note_31 fl_M_177 cl_9 ⟨rfl, rfl⟩ (ly_o hly (by decide)) (fun w3 e4 => ?_)
      replace h := h w3 e4
      refine wp_ly (fun hly => ?_)
      exact wp_vret d_M_note_34 rfl (by decide) h
    · replace h := h.2 hc
      refine wp_aload_n d_M_note_15 (i := 0) rfl 0 rfl ?_
      refine wp_getI d_M_note_16 fl_M_177 cl_9 rfl (ly_o hly (by decide)) ?_
      refine wp_iload_n d_M_note_19 (i := 2) rfl 2 rfl ?_
      refine wp_icmp_gt (tgt := 24) d_M_note_20 (by decide) (fun hc => ?_) (fun hc => ?_)
      · replace h := h.1 hc
        refine wp_aload_n d_M_note_24 (i := 0) rfl 0 rfl ?_
        refine wp_iload_n d_M_note_25 (i := 1) rfl 1 rfl ?_
        refine wp_putI d_M_note_26 fl_M_174 cl_9 ⟨rfl, rfl⟩ (ly_o hly (by decide)) (fun w5 e6 => ?_)
        replace h := h w5 e6
        refine wp_ly (fun hly => ?_)
        refine wp_aload_n d_M_note_29 (i := 0) rfl 0 rfl ?_
        refine wp_iload_n d_M_note_30 (i := 2) rfl 2 rfl ?_
        refine wp_putI d_M_note_31 fl_M_177 cl_9 ⟨rfl, rfl⟩ (ly_o hly (by decide)) (fun w7 e8 => ?_)
        replace h := h w7 e8
        refine wp_ly (fun hly => ?_)
        exact wp_vret d_M_note_34 rfl (by decide) h
      · replace h := h.2 hc
        exact wp_vret d_M_note_23 rfl (by decide) h
set_option maxRecDepth 20000 in
set_option maxHeartbeats 2000000 in
theorem t_M_readVariable_0   {w : Wo} {Q : Option AV → Wo → Prop} (h : Wp m_M_readVariable 2 [(0, vr 78), (1, vi 0)] [] (0, 0) w Q) : Wp m_M_readVariable 0 [(0, vr 78)] [] (0, 0) w Q := by
  refine wp_ly (fun hly => ?_)
  refine wp_iconst d_M_readVariable_0 (by decide) ?_
  refine wp_istore_n (L' := [(1, vi 0), (0, vr 78)]) d_M_readVariable_1 (i := 1) rfl rfl (by decide) ?_
  exact wp_pick [1, 0] rfl h
set_option maxRecDepth 20000 in
set_option maxHeartbeats 2000000 in
theorem t_M_readVariable_2 {x1 : Int}  {w : Wo} {Q : Option AV → Wo → Prop} (h : (0 ≤ (gI w 78 31) ∧ (gI w 78 31) < 61) ∧ (((gI w 95 (gI w 78 31).toNat) ≤ x1 → Wp m_M_readVariable 40 [(0, vr 78), (1, vi x1)] [] (0, 0) w Q) ∧ (¬ (gI w 95 (gI w 78 31).toNat) ≤ x1 → (0 ≤ x1 ∧ x1 < 9) ∧ (0 ≤ (gI w 78 10) ∧ (gI w 78 10) < 602) ∧ (((b_lcmp (gJ w 103 x1.toNat) (gJ w 83 (gI w 78 10).toNat)) = 0 → Wp m_M_readVariable 40 [(0, vr 78), (1, vi x1)] [] (0, 0) w Q) ∧ (¬ (b_lcmp (gJ w 103 x1.toNat) (gJ w 83 (gI w 78 10).toNat)) = 0 → inr32 (x1 + 1) ∧ Wp m_M_readVariable 2 [(0, vr 78), (1, vi (x1 + 1))] [] (0, 0) w Q))))) : Wp m_M_readVariable 2 [(0, vr 78), (1, vi x1)] [] (0, 0) w Q := by
  refine wp_ly (fun hly => ?_)
  refine wp_iload_n d_M_readVariable_2 (i := 1) rfl 1 rfl ?_
  refine wp_aload_n d_M_readVariable_3 (i := 0) rfl 0 rfl ?_
  refine wp_getP d_M_readVariable_4 fl_M_59 cl_9 rfl (ly_o hly (by decide)) (ly_r (v := 95) hly (by decide +kernel)) ?_
  refine wp_aload_n d_M_readVariable_7 (i := 0) rfl 0 rfl ?_
  refine wp_getI d_M_readVariable_8 fl_M_196 cl_9 rfl (ly_o hly (by decide)) ?_
  obtain ⟨hi1, h⟩ := h
  refine wp_iaload d_M_readVariable_11 (ly_a (n := 61) (N := 61) hly (by decide) hi1) ?_
  refine wp_icmp_ge (tgt := 40) d_M_readVariable_12 (by decide) (fun hc => ?_) (fun hc => ?_)
  · replace h := h.1 hc
    exact h
  · replace h := h.2 hc
    refine wp_aload_n d_M_readVariable_15 (i := 0) rfl 0 rfl ?_
    refine wp_getP d_M_readVariable_16 fl_M_83 cl_9 rfl (ly_o hly (by decide)) (ly_r (v := 103) hly (by decide +kernel)) ?_
    refine wp_iload_n d_M_readVariable_19 (i := 1) rfl 1 rfl ?_
    obtain ⟨hi2, h⟩ := h
    refine wp_laload d_M_readVariable_20 (ly_a (n := 9) (N := 9) hly (by decide) hi2) ?_
    refine wp_aload_n d_M_readVariable_21 (i := 0) rfl 0 rfl ?_
    refine wp_getP d_M_readVariable_22 fl_M_22 cl_9 rfl (ly_o hly (by decide)) (ly_r (v := 83) hly (by decide +kernel)) ?_
    refine wp_aload_n d_M_readVariable_25 (i := 0) rfl 0 rfl ?_
    refine wp_getI d_M_readVariable_26 fl_M_180 cl_9 rfl (ly_o hly (by decide)) ?_
    obtain ⟨hi3, h⟩ := h
    refine wp_laload d_M_readVariable_29 (ly_a (n := 602) (N := 602) hly (by decide) hi3) ?_
    refine wp_lcmp d_M_readVariable_30 ?_
    refine wp_if_eq (tgt := 40) d_M_readVariable_31 (by decide) (fun hc => ?_) (fun hc => ?_)
    · replace h := h.1 hc
      exact h
    · replace h := h.2 hc
      obtain ⟨ho, h⟩ := h
      refine wp_iinc (L' := [(1, vi (x1 + 1)), (0, vr 78)]) d_M_readVariable_34 1 rfl rfl (by decide) ho ?_
      refine wp_goto (tgt := 2) d_M_readVariable_37 (by decide) ?_
      exact wp_pick [1, 0] rfl h
set_option maxRecDepth 20000 in
set_option maxHeartbeats 2000000 in
theorem t_M_readVariable_40 {x1 : Int}  {w : Wo} {Q : Option AV → Wo → Prop} (h : (0 ≤ (gI w 78 31) ∧ (gI w 78 31) < 61) ∧ ((¬ x1 = (gI w 95 (gI w 78 31).toNat) → Wp m_M_readVariable 107 [(0, vr 78), (1, vi x1)] [] (0, 0) w Q) ∧ (x1 = (gI w 95 (gI w 78 31).toNat) → ((¬ x1 = 8 → (0 ≤ (gI w 78 10) ∧ (gI w 78 10) < 602) ∧ (0 ≤ x1 ∧ x1 < 9) ∧ (∀ w4 : Wo, w4 = uJ w 103 x1.toNat (gJ w 83 (gI w 78 10).toNat) → (0 ≤ (gI w4 78 10) ∧ (gI w4 78 10) < 602) ∧ (0 ≤ x1 ∧ x1 < 9) ∧ (∀ w8 : Wo, w8 = uI w4 104 x1.toNat (gI w4 81 (gI w4 78 10).toNat) → (0 ≤ (gI w8 78 31) ∧ (gI w8 78 31) < 61) ∧ inr32 ((gI w8 95 (gI w8 78 31).toNat) + 1) ∧ (0 ≤ (gI w8 78 31) ∧ (gI w8 78 31) < 61) ∧ (∀ w12 : Wo, w12 = uI w8 95 (gI w8 78 31).toNat ((gI w8 95 (gI w8 78 31).toNat) + 1) → Wp m_M_readVariable 107 [(0, vr 78), (1, vi x1)] [] (0, 0) w12 Q)))) ∧ (x1 = 8 → MetI m_M_refuse [vr 78] w (fun z15 w14 => (z15 = 0 ∨ z15 = 1) ∧ Q (some (vi z15)) w14)))))) : Wp m_M_readVariable 40 [(0, vr 78), (1, vi x1)] [] (0, 0) w Q := by
  refine wp_ly (fun hly => ?_)
  refine wp_iload_n d_M_readVariable_40 (i := 1) rfl 1 rfl ?_
  refine wp_aload_n d_M_readVariable_41 (i := 0) rfl 0 rfl ?_
  refine wp_getP d_M_readVariable_42 fl_M_59 cl_9 rfl (ly_o hly (by decide)) (ly_r (v := 95) hly (by decide +kernel)) ?_
  refine wp_aload_n d_M_readVariable_45 (i := 0) rfl 0 rfl ?_
  refine wp_getI d_M_readVariable_46 fl_M_196 cl_9 rfl (ly_o hly (by decide)) ?_
  obtain ⟨hi1, h⟩ := h
  refine wp_iaload d_M_readVariable_49 (ly_a (n := 61) (N := 61) hly (by decide) hi1) ?_
  refine wp_icmp_ne (tgt := 107) d_M_readVariable_50 (by decide) (fun hc => ?_) (fun hc => ?_)
  · replace h := h.1 hc
    exact h
  · replace h := h.2 hc
    refine wp_iload_n d_M_readVariable_53 (i := 1) rfl 1 rfl ?_
    refine wp_bipush d_M_readVariable_54 (by decide) (by decide) ?_
    refine wp_icmp_ne (tgt := 64) d_M_readVariable_56 (by decide) (fun hc => ?_) (fun hc => ?_)
    · replace h := h.1 hc
      refine wp_aload_n d_M_readVariable_64 (i := 0) rfl 0 rfl ?_
      refine wp_getP d_M_readVariable_65 fl_M_83 cl_9 rfl (ly_o hly (by decide)) (ly_r (v := 103) hly (by decide +kernel)) ?_
      refine wp_iload_n d_M_readVariable_68 (i := 1) rfl 1 rfl ?_
      refine wp_aload_n d_M_readVariable_69 (i := 0) rfl 0 rfl ?_
      refine wp_getP d_M_readVariable_70 fl_M_22 cl_9 rfl (ly_o hly (by decide)) (ly_r (v := 83) hly (by decide +kernel)) ?_
      refine wp_aload_n d_M_readVariable_73 (i := 0) rfl 0 rfl ?_
      refine wp_getI d_M_readVariable_74 fl_M_180 cl_9 rfl (ly_o hly (by decide)) ?_
      obtain ⟨hi2, h⟩ := h
      refine wp_laload d_M_readVariable_77 (ly_a (n := 602) (N := 602) hly (by decide) hi2) ?_
      obtain ⟨hi3, h⟩ := h
      refine wp_lastore d_M_readVariable_78 (ly_a (n := 9) (N := 9) hly (by decide) hi3) (fun w4 e5 => ?_)
      replace h := h w4 e5
      refine wp_ly (fun hly => ?_)
      refine wp_aload_n d_M_readVariable_79 (i := 0) rfl 0 rfl ?_
      refine wp_getP d_M_readVariable_80 fl_M_86 cl_9 rfl (ly_o hly (by decide)) (ly_r (v := 104) hly (by decide +kernel)) ?_
      refine wp_iload_n d_M_readVariable_83 (i := 1) rfl 1 rfl ?_
      refine wp_aload_n d_M_readVariable_84 (i := 0) rfl 0 rfl ?_
      refine wp_getP d_M_readVariable_85 fl_M_16 cl_9 rfl (ly_o hly (by decide)) (ly_r (v := 81) hly (by decide +kernel)) ?_
      refine wp_aload_n d_M_readVariable_88 (i := 0) rfl 0 rfl ?_
      refine wp_getI d_M_readVariable_89 fl_M_180 cl_9 rfl (ly_o hly (by decide)) ?_
      obtain ⟨hi6, h⟩ := h
      refine wp_iaload d_M_readVariable_92 (ly_a (n := 602) (N := 602) hly (by decide) hi6) ?_
      obtain ⟨hi7, h⟩ := h
      refine wp_iastore d_M_readVariable_93 (ly_a (n := 9) (N := 9) hly (by decide) hi7) (fun w8 e9 => ?_)
      replace h := h w8 e9
      refine wp_ly (fun hly => ?_)
      refine wp_aload_n d_M_readVariable_94 (i := 0) rfl 0 rfl ?_
      refine wp_getP d_M_readVariable_95 fl_M_59 cl_9 rfl (ly_o hly (by decide)) (ly_r (v := 95) hly (by decide +kernel)) ?_
      refine wp_aload_n d_M_readVariable_98 (i := 0) rfl 0 rfl ?_
      refine wp_getI d_M_readVariable_99 fl_M_196 cl_9 rfl (ly_o hly (by decide)) ?_
      refine wp_dup2 d_M_readVariable_102 rfl rfl ?_
      obtain ⟨hi10, h⟩ := h
      refine wp_iaload d_M_readVariable_103 (ly_a (n := 61) (N := 61) hly (by decide) hi10) ?_
      refine wp_iconst d_M_readVariable_104 (by decide) ?_
      obtain ⟨ho, h⟩ := h
      refine wp_iadd d_M_readVariable_105 ho ?_
      obtain ⟨hi11, h⟩ := h
      refine wp_iastore d_M_readVariable_106 (ly_a (n := 61) (N := 61) hly (by decide) hi11) (fun w12 e13 => ?_)
      replace h := h w12 e13
      refine wp_ly (fun hly => ?_)
      exact h
    · replace h := h.2 hc
      refine wp_aload_n d_M_readVariable_59 (i := 0) rfl 0 rfl ?_
      refine wp_callV (A := []) (S := []) d_M_readVariable_60 cv_M_readVariable_192 (ly_o hly (by decide)) rfl (Nat.le_of_ble_eq_true rfl) (by decide) (MetS.mono h (fun r w14 hh => ?_))
      obtain ⟨z15, er, h⟩ := hh
      subst er
      refine wp_ly (fun hly => ?_)
      exact wp_zret d_M_readVariable_63 rfl (by decide) h.1 h.2

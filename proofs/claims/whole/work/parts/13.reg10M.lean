set_option maxRecDepth 20000 in
set_option maxHeartbeats 2000000 in
theorem t_M_readVariable_107 {x1 : Int}  {w : Wo} {Q : Option AV → Wo → Prop} (h : (∀ w1 : Wo, w1 = uI w 78 35 1 → (∀ w3 : Wo, w3 = uJ w1 78 36 x1 → inr32 ((gI w3 78 10) + 1) ∧ (∀ w5 : Wo, w5 = uI w3 78 10 ((gI w3 78 10) + 1) → Q (some (vi 1)) w5)))) : Wp m_M_readVariable 107 [(0, vr 78), (1, vi x1)] [] (0, 0) w Q := by
  refine wp_ly (fun hly => ?_)
  refine wp_aload_n d_M_readVariable_107 (i := 0) rfl 0 rfl ?_
  refine wp_iconst d_M_readVariable_108 (by decide) ?_
  refine wp_putI d_M_readVariable_109 fl_M_199 cl_9 ⟨rfl, rfl⟩ (ly_o hly (by decide)) (fun w1 e2 => ?_)
  replace h := h w1 e2
  refine wp_ly (fun hly => ?_)
  refine wp_aload_n d_M_readVariable_112 (i := 0) rfl 0 rfl ?_
  refine wp_iload_n d_M_readVariable_113 (i := 1) rfl 1 rfl ?_
  refine wp_i2l d_M_readVariable_114 ?_
  refine wp_putJ d_M_readVariable_115 fl_M_202 cl_9 ⟨rfl, rfl⟩ (ly_o hly (by decide)) (fun w3 e4 => ?_)
  replace h := h w3 e4
  refine wp_ly (fun hly => ?_)
  refine wp_aload_n d_M_readVariable_118 (i := 0) rfl 0 rfl ?_
  refine wp_dup d_M_readVariable_119 rfl ?_
  refine wp_getI d_M_readVariable_120 fl_M_180 cl_9 rfl (ly_o hly (by decide)) ?_
  refine wp_iconst d_M_readVariable_123 (by decide) ?_
  obtain ⟨ho, h⟩ := h
  refine wp_iadd d_M_readVariable_124 ho ?_
  refine wp_putI d_M_readVariable_125 fl_M_180 cl_9 ⟨rfl, rfl⟩ (ly_o hly (by decide)) (fun w5 e6 => ?_)
  replace h := h w5 e6
  refine wp_ly (fun hly => ?_)
  refine wp_iconst d_M_readVariable_128 (by decide) ?_
  exact wp_zret d_M_readVariable_129 rfl (by decide) (by decide) h
set_option maxRecDepth 20000 in
set_option maxHeartbeats 2000000 in
theorem t_M_readTerm_0   {w : Wo} {Q : Option AV → Wo → Prop} (h : (0 ≤ (gI w 78 10) ∧ (gI w 78 10) < 602) ∧ ((¬ (gI w 80 (gI w 78 10).toNat) = 2 → (∀ w2 : Wo, w2 = uI w 78 35 0 → (0 ≤ (gI w2 78 10) ∧ (gI w2 78 10) < 602) ∧ ((¬ (gI w2 80 (gI w2 78 10).toNat) = 1 → MetI m_M_takes [vr 78, vi 45] w2 (fun z6 w5 => (0 ≤ (gI w5 78 10) ∧ (gI w5 78 10) < 602) ∧ (((gI w5 80 (gI w5 78 10).toNat) = 3 → ((z6 = 0 → (0 ≤ (gI w5 78 10) ∧ (gI w5 78 10) < 602) ∧ (∀ w9 : Wo, w9 = uJ w5 78 36 (gJ w5 83 (gI w5 78 10).toNat) → inr32 ((gI w9 78 10) + 1) ∧ (∀ w11 : Wo, w11 = uI w9 78 10 ((gI w9 78 10) + 1) → Q (some (vi 1)) w11))) ∧ (¬ z6 = 0 → (0 ≤ (gI w5 78 10) ∧ (gI w5 78 10) < 602) ∧ inr64 (-(gJ w5 83 (gI w5 78 10).toNat)) ∧ (∀ w14 : Wo, w14 = uJ w5 78 36 (-(gJ w5 83 (gI w5 78 10).toNat)) → inr32 ((gI w14 78 10) + 1) ∧ (∀ w16 : Wo, w16 = uI w14 78 10 ((gI w14 78 10) + 1) → Q (some (vi 1)) w16))))) ∧ (¬ (gI w5 80 (gI w5 78 10).toNat) = 3 → MetI m_M_refuse [vr 78] w5 (fun z19 w18 => (z19 = 0 ∨ z19 = 1) ∧ Q (some (vi z19)) w18))))) ∧ ((gI w2 80 (gI w2 78 10).toNat) = 1 → (0 ≤ (gI w2 78 10) ∧ (gI w2 78 10) < 602) ∧ (∀ w21 : Wo, w21 = uJ w2 78 36 (b_lor (gJ w2 83 (gI w2 78 10).toNat) 72057594037927936) → inr32 ((gI w21 78 10) + 1) ∧ (∀ w23 : Wo, w23 = uI w21 78 10 ((gI w21 78 10) + 1) → Q (some (vi 1)) w23)))))) ∧ ((gI w 80 (gI w 78 10).toNat) = 2 → MetI m_M_readVariable [vr 78] w (fun z26 w25 => (z26 = 0 ∨ z26 = 1) ∧ Q (some (vi z26)) w25)))) : Wp m_M_readTerm 0 [(0, vr 78)] [] (0, 0) w Q := by
  refine wp_ly (fun hly => ?_)
  refine wp_aload_n d_M_readTerm_0 (i := 0) rfl 0 rfl ?_
  refine wp_getP d_M_readTerm_1 fl_M_13 cl_9 rfl (ly_o hly (by decide)) (ly_r (v := 80) hly (by decide +kernel)) ?_
  refine wp_aload_n d_M_readTerm_4 (i := 0) rfl 0 rfl ?_
  refine wp_getI d_M_readTerm_5 fl_M_180 cl_9 rfl (ly_o hly (by decide)) ?_
  obtain ⟨hi1, h⟩ := h
  refine wp_iaload d_M_readTerm_8 (ly_a (n := 602) (N := 602) hly (by decide) hi1) ?_
  refine wp_iconst d_M_readTerm_9 (by decide) ?_
  refine wp_icmp_ne (tgt := 18) d_M_readTerm_10 (by decide) (fun hc => ?_) (fun hc => ?_)
  · replace h := h.1 hc
    refine wp_aload_n d_M_readTerm_18 (i := 0) rfl 0 rfl ?_
    refine wp_iconst d_M_readTerm_19 (by decide) ?_
    refine wp_putI d_M_readTerm_20 fl_M_199 cl_9 ⟨rfl, rfl⟩ (ly_o hly (by decide)) (fun w2 e3 => ?_)
    replace h := h w2 e3
    refine wp_ly (fun hly => ?_)
    refine wp_aload_n d_M_readTerm_23 (i := 0) rfl 0 rfl ?_
    refine wp_getP d_M_readTerm_24 fl_M_13 cl_9 rfl (ly_o hly (by decide)) (ly_r (v := 80) hly (by decide +kernel)) ?_
    refine wp_aload_n d_M_readTerm_27 (i := 0) rfl 0 rfl ?_
    refine wp_getI d_M_readTerm_28 fl_M_180 cl_9 rfl (ly_o hly (by decide)) ?_
    obtain ⟨hi4, h⟩ := h
    refine wp_iaload d_M_readTerm_31 (ly_a (n := 602) (N := 602) hly (by decide) hi4) ?_
    refine wp_iconst d_M_readTerm_32 (by decide) ?_
    refine wp_icmp_ne (tgt := 65) d_M_readTerm_33 (by decide) (fun hc => ?_) (fun hc => ?_)
    · replace h := h.1 hc
      refine wp_aload_n d_M_readTerm_65 (i := 0) rfl 0 rfl ?_
      refine wp_bipush d_M_readTerm_66 (by decide) (by decide) ?_
      refine wp_callV (A := [vi 45]) (S := []) d_M_readTerm_68 cv_M_readTerm_189 (ly_o hly (by decide)) rfl (Nat.le_of_ble_eq_true rfl) (by decide) (MetS.mono h (fun r w5 hh => ?_))
      obtain ⟨z6, er, h⟩ := hh
      subst er
      refine wp_ly (fun hly => ?_)
      refine wp_istore_n (L' := [(1, vi z6), (0, vr 78)]) d_M_readTerm_71 (i := 1) rfl rfl (by decide) ?_
      refine wp_aload_n d_M_readTerm_72 (i := 0) rfl 1 rfl ?_
      refine wp_getP d_M_readTerm_73 fl_M_13 cl_9 rfl (ly_o hly (by decide)) (ly_r (v := 80) hly (by decide +kernel)) ?_
      refine wp_aload_n d_M_readTerm_76 (i := 0) rfl 1 rfl ?_
      refine wp_getI d_M_readTerm_77 fl_M_180 cl_9 rfl (ly_o hly (by decide)) ?_
      obtain ⟨hi7, h⟩ := h
      refine wp_iaload d_M_readTerm_80 (ly_a (n := 602) (N := 602) hly (by decide) hi7) ?_
      refine wp_iconst d_M_readTerm_81 (by decide) ?_
      refine wp_icmp_eq (tgt := 90) d_M_readTerm_82 (by decide) (fun hc => ?_) (fun hc => ?_)
      · replace h := h.1 hc
        refine wp_aload_n d_M_readTerm_90 (i := 0) rfl 1 rfl ?_
        refine wp_iload_n d_M_readTerm_91 (i := 1) rfl 0 rfl ?_
        refine wp_if_eq (tgt := 108) d_M_readTerm_92 (by decide) (fun hc => ?_) (fun hc => ?_)
        · replace h := h.1 hc
          refine wp_aload_n d_M_readTerm_108 (i := 0) rfl 1 rfl ?_
          refine wp_getP d_M_readTerm_109 fl_M_22 cl_9 rfl (ly_o hly (by decide)) (ly_r (v := 83) hly (by decide +kernel)) ?_
          refine wp_aload_n d_M_readTerm_112 (i := 0) rfl 1 rfl ?_
          refine wp_getI d_M_readTerm_113 fl_M_180 cl_9 rfl (ly_o hly (by decide)) ?_
          obtain ⟨hi8, h⟩ := h
          refine wp_laload d_M_readTerm_116 (ly_a (n := 602) (N := 602) hly (by decide) hi8) ?_
          refine wp_putJ d_M_readTerm_117 fl_M_202 cl_9 ⟨rfl, rfl⟩ (ly_o hly (by decide)) (fun w9 e10 => ?_)
          replace h := h w9 e10
          refine wp_ly (fun hly => ?_)
          refine wp_aload_n d_M_readTerm_120 (i := 0) rfl 1 rfl ?_
          refine wp_dup d_M_readTerm_121 rfl ?_
          refine wp_getI d_M_readTerm_122 fl_M_180 cl_9 rfl (ly_o hly (by decide)) ?_
          refine wp_iconst d_M_readTerm_125 (by decide) ?_
          obtain ⟨ho, h⟩ := h
          refine wp_iadd d_M_readTerm_126 ho ?_
          refine wp_putI d_M_readTerm_127 fl_M_180 cl_9 ⟨rfl, rfl⟩ (ly_o hly (by decide)) (fun w11 e12 => ?_)
          replace h := h w11 e12
          refine wp_ly (fun hly => ?_)
          refine wp_iconst d_M_readTerm_130 (by decide) ?_
          exact wp_zret d_M_readTerm_131 rfl (by decide) (by decide) h
        · replace h := h.2 hc
          refine wp_aload_n d_M_readTerm_95 (i := 0) rfl 1 rfl ?_
          refine wp_getP d_M_readTerm_96 fl_M_22 cl_9 rfl (ly_o hly (by decide)) (ly_r (v := 83) hly (by decide +kernel)) ?_
          refine wp_aload_n d_M_readTerm_99 (i := 0) rfl 1 rfl ?_
          refine wp_getI d_M_readTerm_100 fl_M_180 cl_9 rfl (ly_o hly (by decide)) ?_
          obtain ⟨hi13, h⟩ := h
          refine wp_laload d_M_readTerm_103 (ly_a (n := 602) (N := 602) hly (by decide) hi13) ?_
          obtain ⟨ho, h⟩ := h
          refine wp_lneg d_M_readTerm_104 ho ?_
          refine wp_goto (tgt := 117) d_M_readTerm_105 (by decide) ?_
          refine wp_putJ d_M_readTerm_117 fl_M_202 cl_9 ⟨rfl, rfl⟩ (ly_o hly (by decide)) (fun w14 e15 => ?_)
          replace h := h w14 e15
          refine wp_ly (fun hly => ?_)
          refine wp_aload_n d_M_readTerm_120 (i := 0) rfl 1 rfl ?_
          refine wp_dup d_M_readTerm_121 rfl ?_
          refine wp_getI d_M_readTerm_122 fl_M_180 cl_9 rfl (ly_o hly (by decide)) ?_
          refine wp_iconst d_M_readTerm_125 (by decide) ?_
          obtain ⟨ho, h⟩ := h
          refine wp_iadd d_M_readTerm_126 ho ?_
          refine wp_putI d_M_readTerm_127 fl_M_180 cl_9 ⟨rfl, rfl⟩ (ly_o hly (by decide)) (fun w16 e17 => ?_)
          replace h := h w16 e17
          refine wp_ly (fun hly => ?_)
          refine wp_iconst d_M_readTerm_130 (by decide) ?_
          exact wp_zret d_M_readTerm_131 rfl (by decide) (by decide) h
      · replace h := h.2 hc
        refine wp_aload_n d_M_readTerm_85 (i := 0) rfl 1 rfl ?_
        refine wp_callV (A := []) (S := []) d_M_readTerm_86 cv_M_readTerm_192 (ly_o hly (by decide)) rfl (Nat.le_of_ble_eq_true rfl) (by decide) (MetS.mono h (fun r w18 hh => ?_))
        obtain ⟨z19, er, h⟩ := hh
        subst er
        refine wp_ly (fun hly => ?_)
        exact wp_zret d_M_readTerm_89 rfl (by decide) h.1 h.2
    · replace h := h.2 hc
      refine wp_aload_n d_M_readTerm_36 (i := 0) rfl 0 rfl ?_
      refine wp_aload_n d_M_readTerm_37 (i := 0) rfl 0 rfl ?_
      refine wp_getP d_M_readTerm_38 fl_M_22 cl_9 rfl (ly_o hly (by decide)) (ly_r (v := 83) hly (by decide +kernel)) ?_
      refine wp_aload_n d_M_readTerm_41 (i := 0) rfl 0 rfl ?_
      refine wp_getI d_M_readTerm_42 fl_M_180 cl_9 rfl (ly_o hly (by decide)) ?_
      obtain ⟨hi20, h⟩ := h
      refine wp_laload d_M_readTerm_45 (ly_a (n := 602) (N := 602) hly (by decide) hi20) ?_
      refine wp_ldc2 d_M_readTerm_46 (x := 72057594037927936) lc_M_209 (by decide) ?_
      refine wp_lor d_M_readTerm_49 ?_
      refine wp_putJ d_M_readTerm_50 fl_M_202 cl_9 ⟨rfl, rfl⟩ (ly_o hly (by decide)) (fun w21 e22 => ?_)
      replace h := h w21 e22
      refine wp_ly (fun hly => ?_)
      refine wp_aload_n d_M_readTerm_53 (i := 0) rfl 0 rfl ?_
      refine wp_dup d_M_readTerm_54 rfl ?_
      refine wp_getI d_M_readTerm_55 fl_M_180 cl_9 rfl (ly_o hly (by decide)) ?_
      refine wp_iconst d_M_readTerm_58 (by decide) ?_
      obtain ⟨ho, h⟩ := h
      refine wp_iadd d_M_readTerm_59 ho ?_
      refine wp_putI d_M_readTerm_60 fl_M_180 cl_9 ⟨rfl, rfl⟩ (ly_o hly (by decide)) (fun w23 e24 => ?_)
      replace h := h w23 e24
      refine wp_ly (fun hly => ?_)
      refine wp_iconst d_M_readTerm_63 (by decide) ?_
      exact wp_zret d_M_readTerm_64 rfl (by decide) (by decide) h
  · replace h := h.2 hc
    refine wp_aload_n d_M_readTerm_13 (i := 0) rfl 0 rfl ?_
    refine wp_callV (A := []) (S := []) d_M_readTerm_14 cv_M_readTerm_206 (ly_o hly (by decide)) rfl (Nat.le_of_ble_eq_true rfl) (by decide) (MetS.mono h (fun r w25 hh => ?_))
    obtain ⟨z26, er, h⟩ := hh
    subst er
    refine wp_ly (fun hly => ?_)
    exact wp_zret d_M_readTerm_17 rfl (by decide) h.1 h.2
set_option maxRecDepth 20000 in
set_option maxHeartbeats 2000000 in
theorem t_M_predicateOf_0 {y1 : Int} {x3 : Int} {x4 : Int}  {w : Wo} {Q : Option AV → Wo → Prop} (h : inr32 (16 * (gI w 78 37)) ∧ Wp m_M_predicateOf 13 [(0, vr 78), (1, vl y1), (3, vi x3), (4, vi x4), (5, vi (16 * (gI w 78 37))), (6, vi (16 * (gI w 78 37)))] [] (0, 0) w Q) : Wp m_M_predicateOf 0 [(0, vr 78), (1, vl y1), (3, vi x3), (4, vi x4)] [] (0, 0) w Q := by
  refine wp_ly (fun hly => ?_)
  refine wp_bipush d_M_predicateOf_0 (by decide) (by decide) ?_
  refine wp_aload_n d_M_predicateOf_2 (i := 0) rfl 0 rfl ?_
  refine wp_getI d_M_predicateOf_3 fl_M_211 cl_9 rfl (ly_o hly (by decide)) ?_
  obtain ⟨ho, h⟩ := h
  refine wp_imul d_M_predicateOf_6 ho ?_
  refine wp_istore (L' := [(5, vi (16 * (gI w 78 37))), (0, vr 78), (1, vl y1), (3, vi x3), (4, vi x4)]) d_M_predicateOf_7 rfl (by decide) ?_
  refine wp_iload d_M_predicateOf_9 0 rfl ?_
  refine wp_istore (L' := [(6, vi (16 * (gI w 78 37))), (5, vi (16 * (gI w 78 37))), (0, vr 78), (1, vl y1), (3, vi x3), (4, vi x4)]) d_M_predicateOf_11 rfl (by decide) ?_
  exact wp_pick [2, 3, 4, 5, 1, 0] rfl h
set_option maxRecDepth 20000 in
set_option maxHeartbeats 2000000 in
theorem t_M_predicateOf_13 {y1 : Int} {x3 : Int} {x4 : Int} {x5 : Int} {x6 : Int}  {w : Wo} {Q : Option AV → Wo → Prop} (h : (0 ≤ (gI w 78 37) ∧ (gI w 78 37) < 2) ∧ inr32 (x5 + (gI w 84 (gI w 78 37).toNat)) ∧ (((x5 + (gI w 84 (gI w 78 37).toNat)) ≤ x6 → (0 ≤ (gI w 78 37) ∧ (gI w 78 37) < 2) ∧ inr32 (x5 + (gI w 84 (gI w 78 37).toNat)) ∧ (0 ≤ (x5 + (gI w 84 (gI w 78 37).toNat)) ∧ (x5 + (gI w 84 (gI w 78 37).toNat)) < 32) ∧ (∀ w4 : Wo, w4 = uJ w 85 (x5 + (gI w 84 (gI w 78 37).toNat)).toNat y1 → (0 ≤ (x5 + (gI w 84 (gI w 78 37).toNat)) ∧ (x5 + (gI w 84 (gI w 78 37).toNat)) < 32) ∧ (∀ w7 : Wo, w7 = uI w4 86 (x5 + (gI w 84 (gI w 78 37).toNat)).toNat x3 → (0 ≤ (gI w7 78 37) ∧ (gI w7 78 37) < 2) ∧ inr32 ((gI w7 84 (gI w7 78 37).toNat) + 1) ∧ (0 ≤ (gI w7 78 37) ∧ (gI w7 78 37) < 2) ∧ (∀ w11 : Wo, w11 = uI w7 84 (gI w7 78 37).toNat ((gI w7 84 (gI w7 78 37).toNat) + 1) → inr32 ((x5 + (gI w 84 (gI w 78 37).toNat)) - x5) ∧ Q (some (vi ((x5 + (gI w 84 (gI w 78 37).toNat)) - x5))) w11)))) ∧ (¬ (x5 + (gI w 84 (gI w 78 37).toNat)) ≤ x6 → (0 ≤ x6 ∧ x6 < 32) ∧ (((b_lcmp (gJ w 85 x6.toNat) y1) = 0 → (0 ≤ x6 ∧ x6 < 32) ∧ (((gI w 86 x6.toNat) = x3 → inr32 (x6 - x5) ∧ Q (some (vi (x6 - x5))) w) ∧ (¬ (gI w 86 x6.toNat) = x3 → MetV m_M_note [vr 78, vi 2, vi x4] w (fun w15 => inr32 (x6 - x5) ∧ Q (some (vi (x6 - x5))) w15)))) ∧ (¬ (b_lcmp (gJ w 85 x6.toNat) y1) = 0 → inr32 (x6 + 1) ∧ Wp m_M_predicateOf 13 [(0, vr 78), (1, vl y1), (3, vi x3), (4, vi x4), (5, vi x5), (6, vi (x6 + 1))] [] (0, 0) w Q))))) : Wp m_M_predicateOf 13 [(0, vr 78), (1, vl y1), (3, vi x3), (4, vi x4), (5, vi x5), (6, vi x6)] [] (0, 0) w Q := by
  refine wp_ly (fun hly => ?_)
  refine wp_iload d_M_predicateOf_13 5 rfl ?_
  refine wp_iload d_M_predicateOf_15 4 rfl ?_
  refine wp_aload_n d_M_predicateOf_17 (i := 0) rfl 0 rfl ?_
  refine wp_getP d_M_predicateOf_18 fl_M_26 cl_9 rfl (ly_o hly (by decide)) (ly_r (v := 84) hly (by decide +kernel)) ?_
  refine wp_aload_n d_M_predicateOf_21 (i := 0) rfl 0 rfl ?_
  refine wp_getI d_M_predicateOf_22 fl_M_211 cl_9 rfl (ly_o hly (by decide)) ?_
  obtain ⟨hi1, h⟩ := h
  refine wp_iaload d_M_predicateOf_25 (ly_a (n := 2) (N := 2) hly (by decide) hi1) ?_
  obtain ⟨ho, h⟩ := h
  refine wp_iadd d_M_predicateOf_26 ho ?_
  refine wp_icmp_ge (tgt := 75) d_M_predicateOf_27 (by decide) (fun hc => ?_) (fun hc => ?_)
  · replace h := h.1 hc
    refine wp_iload d_M_predicateOf_75 4 rfl ?_
    refine wp_aload_n d_M_predicateOf_77 (i := 0) rfl 0 rfl ?_
    refine wp_getP d_M_predicateOf_78 fl_M_26 cl_9 rfl (ly_o hly (by decide)) (ly_r (v := 84) hly (by decide +kernel)) ?_
    refine wp_aload_n d_M_predicateOf_81 (i := 0) rfl 0 rfl ?_
    refine wp_getI d_M_predicateOf_82 fl_M_211 cl_9 rfl (ly_o hly (by decide)) ?_
    obtain ⟨hi2, h⟩ := h
    refine wp_iaload d_M_predicateOf_85 (ly_a (n := 2) (N := 2) hly (by decide) hi2) ?_
    obtain ⟨ho, h⟩ := h
    refine wp_iadd d_M_predicateOf_86 ho ?_
    refine wp_istore (L' := [(6, vi (x5 + (gI w 84 (gI w 78 37).toNat))), (0, vr 78), (1, vl y1), (3, vi x3), (4, vi x4), (5, vi x5)]) d_M_predicateOf_87 rfl (by decide) ?_
    refine wp_aload_n d_M_predicateOf_89 (i := 0) rfl 1 rfl ?_
    refine wp_getP d_M_predicateOf_90 fl_M_29 cl_9 rfl (ly_o hly (by decide)) (ly_r (v := 85) hly (by decide +kernel)) ?_
    refine wp_iload d_M_predicateOf_93 0 rfl ?_
    refine wp_lload_n d_M_predicateOf_95 (i := 1) rfl 2 rfl ?_
    obtain ⟨hi3, h⟩ := h
    refine wp_lastore d_M_predicateOf_96 (ly_a (n := 32) (N := 32) hly (by decide) hi3) (fun w4 e5 => ?_)
    replace h := h w4 e5
    refine wp_ly (fun hly => ?_)
    refine wp_aload_n d_M_predicateOf_97 (i := 0) rfl 1 rfl ?_
    refine wp_getP d_M_predicateOf_98 fl_M_32 cl_9 rfl (ly_o hly (by decide)) (ly_r (v := 86) hly (by decide +kernel)) ?_
    refine wp_iload d_M_predicateOf_101 0 rfl ?_
    refine wp_iload_n d_M_predicateOf_103 (i := 3) rfl 3 rfl ?_
    obtain ⟨hi6, h⟩ := h
    refine wp_iastore d_M_predicateOf_104 (ly_a (n := 32) (N := 32) hly (by decide) hi6) (fun w7 e8 => ?_)
    replace h := h w7 e8
    refine wp_ly (fun hly => ?_)
    refine wp_aload_n d_M_predicateOf_105 (i := 0) rfl 1 rfl ?_
    refine wp_getP d_M_predicateOf_106 fl_M_26 cl_9 rfl (ly_o hly (by decide)) (ly_r (v := 84) hly (by decide +kernel)) ?_
    refine wp_aload_n d_M_predicateOf_109 (i := 0) rfl 1 rfl ?_
    refine wp_getI d_M_predicateOf_110 fl_M_211 cl_9 rfl (ly_o hly (by decide)) ?_
    refine wp_dup2 d_M_predicateOf_113 rfl rfl ?_
    obtain ⟨hi9, h⟩ := h
    refine wp_iaload d_M_predicateOf_114 (ly_a (n := 2) (N := 2) hly (by decide) hi9) ?_
    refine wp_iconst d_M_predicateOf_115 (by decide) ?_
    obtain ⟨ho, h⟩ := h
    refine wp_iadd d_M_predicateOf_116 ho ?_
    obtain ⟨hi10, h⟩ := h
    refine wp_iastore d_M_predicateOf_117 (ly_a (n := 2) (N := 2) hly (by decide) hi10) (fun w11 e12 => ?_)
    replace h := h w11 e12
    refine wp_ly (fun hly => ?_)
    refine wp_iload d_M_predicateOf_118 0 rfl ?_
    refine wp_iload d_M_predicateOf_120 5 rfl ?_
    obtain ⟨ho, h⟩ := h
    refine wp_isub d_M_predicateOf_122 ho ?_
    exact wp_iret d_M_predicateOf_123 rfl (by decide) h
  · replace h := h.2 hc
    refine wp_aload_n d_M_predicateOf_30 (i := 0) rfl 0 rfl ?_
    refine wp_getP d_M_predicateOf_31 fl_M_29 cl_9 rfl (ly_o hly (by decide)) (ly_r (v := 85) hly (by decide +kernel)) ?_
    refine wp_iload d_M_predicateOf_34 5 rfl ?_
    obtain ⟨hi13, h⟩ := h
    refine wp_laload d_M_predicateOf_36 (ly_a (n := 32) (N := 32) hly (by decide) hi13) ?_
    refine wp_lload_n d_M_predicateOf_37 (i := 1) rfl 1 rfl ?_
    refine wp_lcmp d_M_predicateOf_38 ?_
    refine wp_if_eq (tgt := 45) d_M_predicateOf_39 (by decide) (fun hc => ?_) (fun hc => ?_)
    · replace h := h.1 hc
      refine wp_aload_n d_M_predicateOf_45 (i := 0) rfl 0 rfl ?_
      refine wp_getP d_M_predicateOf_46 fl_M_32 cl_9 rfl (ly_o hly (by decide)) (ly_r (v := 86) hly (by decide +kernel)) ?_
      refine wp_iload d_M_predicateOf_49 5 rfl ?_
      obtain ⟨hi14, h⟩ := h
      refine wp_iaload d_M_predicateOf_51 (ly_a (n := 32) (N := 32) hly (by decide) hi14) ?_
      refine wp_iload_n d_M_predicateOf_52 (i := 3) rfl 2 rfl ?_
      refine wp_icmp_eq (tgt := 63) d_M_predicateOf_53 (by decide) (fun hc => ?_) (fun hc => ?_)
      · replace h := h.1 hc
        refine wp_iload d_M_predicateOf_63 5 rfl ?_
        refine wp_iload d_M_predicateOf_65 4 rfl ?_
        obtain ⟨ho, h⟩ := h
        refine wp_isub d_M_predicateOf_67 ho ?_
        exact wp_iret d_M_predicateOf_68 rfl (by decide) h
      · replace h := h.2 hc
        refine wp_aload_n d_M_predicateOf_56 (i := 0) rfl 0 rfl ?_
        refine wp_iconst d_M_predicateOf_57 (by decide) ?_
        refine wp_iload d_M_predicateOf_58 3 rfl ?_
        refine wp_callV (A := [vi 2, vi x4]) (S := []) d_M_predicateOf_60 cv_M_predicateOf_214 (ly_o hly (by decide)) rfl (Nat.le_of_ble_eq_true rfl) (by decide) (MetS.mono h (fun r w15 hh => ?_))
        obtain ⟨er, h⟩ := hh
        subst er
        refine wp_ly (fun hly => ?_)
        refine wp_iload d_M_predicateOf_63 5 rfl ?_
        refine wp_iload d_M_predicateOf_65 4 rfl ?_
        obtain ⟨ho, h⟩ := h
        refine wp_isub d_M_predicateOf_67 ho ?_
        exact wp_iret d_M_predicateOf_68 rfl (by decide) h
    · replace h := h.2 hc
      refine wp_goto (tgt := 69) d_M_predicateOf_42 (by decide) ?_
      obtain ⟨ho, h⟩ := h
      refine wp_iinc (L' := [(6, vi (x6 + 1)), (0, vr 78), (1, vl y1), (3, vi x3), (4, vi x4), (5, vi x5)]) d_M_predicateOf_69 5 rfl rfl (by decide) ho ?_
      refine wp_goto (tgt := 13) d_M_predicateOf_72 (by decide) ?_
      exact wp_pick [1, 2, 3, 4, 5, 0] rfl h
set_option maxRecDepth 20000 in
set_option maxHeartbeats 2000000 in
theorem t_M_isKnown_0 {y1 : Int}  {w : Wo} {Q : Option AV → Wo → Prop} (h : inr32 (16 * (gI w 78 37)) ∧ Wp m_M_isKnown 8 [(0, vr 78), (1, vl y1), (3, vi (16 * (gI w 78 37)))] [] (0, 0) w Q) : Wp m_M_isKnown 0 [(0, vr 78), (1, vl y1)] [] (0, 0) w Q := by
  refine wp_ly (fun hly => ?_)
  refine wp_bipush d_M_isKnown_0 (by decide) (by decide) ?_
  refine wp_aload_n d_M_isKnown_2 (i := 0) rfl 0 rfl ?_
  refine wp_getI d_M_isKnown_3 fl_M_211 cl_9 rfl (ly_o hly (by decide)) ?_
  obtain ⟨ho, h⟩ := h
  refine wp_imul d_M_isKnown_6 ho ?_
  refine wp_istore_n (L' := [(3, vi (16 * (gI w 78 37))), (0, vr 78), (1, vl y1)]) d_M_isKnown_7 (i := 3) rfl rfl (by decide) ?_
  exact wp_pick [1, 2, 0] rfl h
set_option maxRecDepth 20000 in
set_option maxHeartbeats 2000000 in
theorem t_M_isKnown_8 {y1 : Int} {x3 : Int}  {w : Wo} {Q : Option AV → Wo → Prop} (h : inr32 (16 * (gI w 78 37)) ∧ (0 ≤ (gI w 78 37) ∧ (gI w 78 37) < 2) ∧ inr32 ((16 * (gI w 78 37)) + (gI w 84 (gI w 78 37).toNat)) ∧ ((((16 * (gI w 78 37)) + (gI w 84 (gI w 78 37).toNat)) ≤ x3 → Q (some (vi 0)) w) ∧ (¬ ((16 * (gI w 78 37)) + (gI w 84 (gI w 78 37).toNat)) ≤ x3 → (0 ≤ x3 ∧ x3 < 32) ∧ ((¬ (b_lcmp (gJ w 85 x3.toNat) y1) = 0 → inr32 (x3 + 1) ∧ Wp m_M_isKnown 8 [(0, vr 78), (1, vl y1), (3, vi (x3 + 1))] [] (0, 0) w Q) ∧ ((b_lcmp (gJ w 85 x3.toNat) y1) = 0 → Q (some (vi 1)) w))))) : Wp m_M_isKnown 8 [(0, vr 78), (1, vl y1), (3, vi x3)] [] (0, 0) w Q := by
  refine wp_ly (fun hly => ?_)
  refine wp_iload_n d_M_isKnown_8 (i := 3) rfl 2 rfl ?_
  refine wp_bipush d_M_isKnown_9 (by decide) (by decide) ?_
  refine wp_aload_n d_M_isKnown_11 (i := 0) rfl 0 rfl ?_
  refine wp_getI d_M_isKnown_12 fl_M_211 cl_9 rfl (ly_o hly (by decide)) ?_
  obtain ⟨ho, h⟩ := h
  refine wp_imul d_M_isKnown_15 ho ?_
  refine wp_aload_n d_M_isKnown_16 (i := 0) rfl 0 rfl ?_
  refine wp_getP d_M_isKnown_17 fl_M_26 cl_9 rfl (ly_o hly (by decide)) (ly_r (v := 84) hly (by decide +kernel)) ?_
  refine wp_aload_n d_M_isKnown_20 (i := 0) rfl 0 rfl ?_
  refine wp_getI d_M_isKnown_21 fl_M_211 cl_9 rfl (ly_o hly (by decide)) ?_
  obtain ⟨hi1, h⟩ := h
  refine wp_iaload d_M_isKnown_24 (ly_a (n := 2) (N := 2) hly (by decide) hi1) ?_
  obtain ⟨ho, h⟩ := h
  refine wp_iadd d_M_isKnown_25 ho ?_
  refine wp_icmp_ge (tgt := 48) d_M_isKnown_26 (by decide) (fun hc => ?_) (fun hc => ?_)
  · replace h := h.1 hc
    refine wp_iconst d_M_isKnown_48 (by decide) ?_
    exact wp_zret d_M_isKnown_49 rfl (by decide) (by decide) h
  · replace h := h.2 hc
    refine wp_aload_n d_M_isKnown_29 (i := 0) rfl 0 rfl ?_
    refine wp_getP d_M_isKnown_30 fl_M_29 cl_9 rfl (ly_o hly (by decide)) (ly_r (v := 85) hly (by decide +kernel)) ?_
    refine wp_iload_n d_M_isKnown_33 (i := 3) rfl 2 rfl ?_
    obtain ⟨hi2, h⟩ := h
    refine wp_laload d_M_isKnown_34 (ly_a (n := 32) (N := 32) hly (by decide) hi2) ?_
    refine wp_lload_n d_M_isKnown_35 (i := 1) rfl 1 rfl ?_
    refine wp_lcmp d_M_isKnown_36 ?_
    refine wp_if_ne (tgt := 42) d_M_isKnown_37 (by decide) (fun hc => ?_) (fun hc => ?_)
    · replace h := h.1 hc
      obtain ⟨ho, h⟩ := h
      refine wp_iinc (L' := [(3, vi (x3 + 1)), (0, vr 78), (1, vl y1)]) d_M_isKnown_42 2 rfl rfl (by decide) ho ?_
      refine wp_goto (tgt := 8) d_M_isKnown_45 (by decide) ?_
      exact wp_pick [1, 2, 0] rfl h
    · replace h := h.2 hc
      refine wp_iconst d_M_isKnown_40 (by decide) ?_
      exact wp_zret d_M_isKnown_41 rfl (by decide) (by decide) h
set_option maxRecDepth 20000 in
set_option maxHeartbeats 2000000 in
theorem t_M_readArguments_0 {x1 : Int} {x2 : Int}  {w : Wo} {Q : Option AV → Wo → Prop} (h : (0 ≤ (gI w 78 10) ∧ (gI w 78 10) < 602) ∧ ((¬ (gI w 80 (gI w 78 10).toNat) = 1 → MetI m_M_refuse [vr 78] w (fun z3 w2 => (z3 = 0 ∨ z3 = 1) ∧ Q (some (vi z3)) w2)) ∧ ((gI w 80 (gI w 78 10).toNat) = 1 → (0 ≤ (gI w 78 10) ∧ (gI w 78 10) < 602) ∧ MetI m_M_isKnown [vr 78, vl (gJ w 83 (gI w 78 10).toNat)] w (fun z6 w5 => ((¬ z6 = 0 → Wp m_M_readArguments 53 [(0, vr 78), (1, vi x1), (2, vi x2), (3, vi (gI w 78 10))] [] (0, 0) w5 Q) ∧ (z6 = 0 → (0 ≤ (gI w5 78 37) ∧ (gI w5 78 37) < 2) ∧ ((¬ (gI w5 84 (gI w5 78 37).toNat) = 16 → Wp m_M_readArguments 53 [(0, vr 78), (1, vi x1), (2, vi x2), (3, vi (gI w 78 10))] [] (0, 0) w5 Q) ∧ ((gI w5 84 (gI w5 78 37).toNat) = 16 → MetI m_M_refuse [vr 78] w5 (fun z9 w8 => (z9 = 0 ∨ z9 = 1) ∧ Q (some (vi z9)) w8))))))))) : Wp m_M_readArguments 0 [(0, vr 78), (1, vi x1), (2, vi x2)] [] (0, 0) w Q := by
  refine wp_ly (fun hly => ?_)
  refine wp_aload_n d_M_readArguments_0 (i := 0) rfl 0 rfl ?_
  refine wp_getI d_M_readArguments_1 fl_M_180 cl_9 rfl (ly_o hly (by decide)) ?_
  refine wp_istore_n (L' := [(3, vi (gI w 78 10)), (0, vr 78), (1, vi x1), (2, vi x2)]) d_M_readArguments_4 (i := 3) rfl rfl (by decide) ?_
  refine wp_aload_n d_M_readArguments_5 (i := 0) rfl 1 rfl ?_
  refine wp_getP d_M_readArguments_6 fl_M_13 cl_9 rfl (ly_o hly (by decide)) (ly_r (v := 80) hly (by decide +kernel)) ?_
  refine wp_aload_n d_M_readArguments_9 (i := 0) rfl 1 rfl ?_
  refine wp_getI d_M_readArguments_10 fl_M_180 cl_9 rfl (ly_o hly (by decide)) ?_
  obtain ⟨hi1, h⟩ := h
  refine wp_iaload d_M_readArguments_13 (ly_a (n := 602) (N := 602) hly (by decide) hi1) ?_
  refine wp_iconst d_M_readArguments_14 (by decide) ?_
  refine wp_icmp_ne (tgt := 48) d_M_readArguments_15 (by decide) (fun hc => ?_) (fun hc => ?_)
  · replace h := h.1 hc
    refine wp_aload_n d_M_readArguments_48 (i := 0) rfl 1 rfl ?_
    refine wp_callV (A := []) (S := []) d_M_readArguments_49 cv_M_readArguments_192 (ly_o hly (by decide)) rfl (Nat.le_of_ble_eq_true rfl) (by decide) (MetS.mono h (fun r w2 hh => ?_))
    obtain ⟨z3, er, h⟩ := hh
    subst er
    refine wp_ly (fun hly => ?_)
    exact wp_zret d_M_readArguments_52 rfl (by decide) h.1 h.2
  · replace h := h.2 hc
    refine wp_aload_n d_M_readArguments_18 (i := 0) rfl 1 rfl ?_
    refine wp_aload_n d_M_readArguments_19 (i := 0) rfl 1 rfl ?_
    refine wp_getP d_M_readArguments_20 fl_M_22 cl_9 rfl (ly_o hly (by decide)) (ly_r (v := 83) hly (by decide +kernel)) ?_
    refine wp_aload_n d_M_readArguments_23 (i := 0) rfl 1 rfl ?_
    refine wp_getI d_M_readArguments_24 fl_M_180 cl_9 rfl (ly_o hly (by decide)) ?_
    obtain ⟨hi4, h⟩ := h
    refine wp_laload d_M_readArguments_27 (ly_a (n := 602) (N := 602) hly (by decide) hi4) ?_
    refine wp_callV (A := [vl (gJ w 83 (gI w 78 10).toNat)]) (S := []) d_M_readArguments_28 cv_M_readArguments_218 (ly_o hly (by decide)) rfl (Nat.le_of_ble_eq_true rfl) (by decide) (MetS.mono h (fun r w5 hh => ?_))
    obtain ⟨z6, er, h⟩ := hh
    subst er
    refine wp_ly (fun hly => ?_)
    refine wp_if_ne (tgt := 53) d_M_readArguments_31 (by decide) (fun hc => ?_) (fun hc => ?_)
    · replace h := h.1 hc
      exact wp_pick [1, 2, 3, 0] rfl h
    · replace h := h.2 hc
      refine wp_aload_n d_M_readArguments_34 (i := 0) rfl 1 rfl ?_
      refine wp_getP d_M_readArguments_35 fl_M_26 cl_9 rfl (ly_o hly (by decide)) (ly_r (v := 84) hly (by decide +kernel)) ?_
      refine wp_aload_n d_M_readArguments_38 (i := 0) rfl 1 rfl ?_
      refine wp_getI d_M_readArguments_39 fl_M_211 cl_9 rfl (ly_o hly (by decide)) ?_
      obtain ⟨hi7, h⟩ := h
      refine wp_iaload d_M_readArguments_42 (ly_a (n := 2) (N := 2) hly (by decide) hi7) ?_
      refine wp_bipush d_M_readArguments_43 (by decide) (by decide) ?_
      refine wp_icmp_ne (tgt := 53) d_M_readArguments_45 (by decide) (fun hc => ?_) (fun hc => ?_)
      · replace h := h.1 hc
        exact wp_pick [1, 2, 3, 0] rfl h
      · replace h := h.2 hc
        refine wp_aload_n d_M_readArguments_48 (i := 0) rfl 1 rfl ?_
        refine wp_callV (A := []) (S := []) d_M_readArguments_49 cv_M_readArguments_192 (ly_o hly (by decide)) rfl (Nat.le_of_ble_eq_true rfl) (by decide) (MetS.mono h (fun r w8 hh => ?_))
        obtain ⟨z9, er, h⟩ := hh
        subst er
        refine wp_ly (fun hly => ?_)
        exact wp_zret d_M_readArguments_52 rfl (by decide) h.1 h.2
set_option maxRecDepth 20000 in
set_option maxHeartbeats 2000000 in
theorem t_M_readArguments_53 {x1 : Int} {x2 : Int} {x3 : Int}  {w : Wo} {Q : Option AV → Wo → Prop} (h : inr32 ((gI w 78 10) + 1) ∧ (∀ w1 : Wo, w1 = uI w 78 10 ((gI w 78 10) + 1) → (∀ w3 : Wo, w3 = uI w1 78 38 0 → MetI m_M_want [vr 78, vi 40] w3 (fun z6 w5 => ((¬ z6 = 0 → Wp m_M_readArguments 79 [(0, vr 78), (1, vi x1), (2, vi x2), (3, vi x3)] [] (0, 0) w5 Q) ∧ (z6 = 0 → Q (some (vi 0)) w5)))))) : Wp m_M_readArguments 53 [(0, vr 78), (1, vi x1), (2, vi x2), (3, vi x3)] [] (0, 0) w Q := by
  refine wp_ly (fun hly => ?_)
  refine wp_aload_n d_M_readArguments_53 (i := 0) rfl 0 rfl ?_
  refine wp_dup d_M_readArguments_54 rfl ?_
  refine wp_getI d_M_readArguments_55 fl_M_180 cl_9 rfl (ly_o hly (by decide)) ?_
  refine wp_iconst d_M_readArguments_58 (by decide) ?_
  obtain ⟨ho, h⟩ := h
  refine wp_iadd d_M_readArguments_59 ho ?_
  refine wp_putI d_M_readArguments_60 fl_M_180 cl_9 ⟨rfl, rfl⟩ (ly_o hly (by decide)) (fun w1 e2 => ?_)
  replace h := h w1 e2
  refine wp_ly (fun hly => ?_)
  refine wp_aload_n d_M_readArguments_63 (i := 0) rfl 0 rfl ?_
  refine wp_iconst d_M_readArguments_64 (by decide) ?_
  refine wp_putI d_M_readArguments_65 fl_M_222 cl_9 ⟨rfl, rfl⟩ (ly_o hly (by decide)) (fun w3 e4 => ?_)
  replace h := h w3 e4
  refine wp_ly (fun hly => ?_)
  refine wp_aload_n d_M_readArguments_68 (i := 0) rfl 0 rfl ?_
  refine wp_bipush d_M_readArguments_69 (by decide) (by decide) ?_
  refine wp_callV (A := [vi 40]) (S := []) d_M_readArguments_71 cv_M_readArguments_225 (ly_o hly (by decide)) rfl (Nat.le_of_ble_eq_true rfl) (by decide) (MetS.mono h (fun r w5 hh => ?_))
  obtain ⟨z6, er, h⟩ := hh
  subst er
  refine wp_ly (fun hly => ?_)
  refine wp_if_ne (tgt := 79) d_M_readArguments_74 (by decide) (fun hc => ?_) (fun hc => ?_)
  · replace h := h.1 hc
    exact h
  · replace h := h.2 hc
    refine wp_iconst d_M_readArguments_77 (by decide) ?_
    exact wp_zret d_M_readArguments_78 rfl (by decide) (by decide) h
set_option maxRecDepth 20000 in
set_option maxHeartbeats 2000000 in
theorem t_M_readArguments_79 {x1 : Int} {x2 : Int} {x3 : Int}  {w : Wo} {Q : Option AV → Wo → Prop} (h : ((¬ (gI w 78 38) = 4 → (0 ≤ (gI w 78 10) ∧ (gI w 78 10) < 602) ∧ ((x1 = 0 → Wp m_M_readArguments 248 [(0, vr 78), (1, vi x1), (2, vi x2), (3, vi x3), (4, vi (gI w 81 (gI w 78 10).toNat))] [] (0, 0) w Q) ∧ (¬ x1 = 0 → (0 ≤ (gI w 78 10) ∧ (gI w 78 10) < 602) ∧ ((¬ (gI w 80 (gI w 78 10).toNat) = 5 → Wp m_M_readArguments 248 [(0, vr 78), (1, vi x1), (2, vi x2), (3, vi x3), (4, vi (gI w 81 (gI w 78 10).toNat))] [] (0, 0) w Q) ∧ ((gI w 80 (gI w 78 10).toNat) = 5 → (0 ≤ (gI w 78 10) ∧ (gI w 78 10) < 602) ∧ (((gI w 82 (gI w 78 10).toNat) ≤ 1 → Wp m_M_readArguments 248 [(0, vr 78), (1, vi x1), (2, vi x2), (3, vi x3), (4, vi (gI w 81 (gI w 78 10).toNat))] [] (0, 0) w Q) ∧ (¬ (gI w 82 (gI w 78 10).toNat) ≤ 1 → ((¬ (gI w 78 42) = 0 → Wp m_M_readArguments 248 [(0, vr 78), (1, vi x1), (2, vi x2), (3, vi x3), (4, vi (gI w 81 (gI w 78 10).toNat))] [] (0, 0) w Q) ∧ ((gI w 78 42) = 0 → (0 ≤ (gI w 78 10) ∧ (gI w 78 10) < 602) ∧ (∀ w5 : Wo, w5 = uI w 78 42 (gI w 82 (gI w 78 10).toNat) → (∀ w7 : Wo, w7 = uI w5 78 43 (gI w5 78 38) → (∀ w9 : Wo, w9 = uI w7 78 44 (gI w 81 (gI w 78 10).toNat) → inr32 ((gI w9 78 10) + 1) ∧ (∀ w11 : Wo, w11 = uI w9 78 10 ((gI w9 78 10) + 1) → MetI m_M_want [vr 78, vi 40] w11 (fun z14 w13 => ((¬ z14 = 0 → (0 ≤ (gI w13 78 10) ∧ (gI w13 78 10) < 602) ∧ (((gI w13 80 (gI w13 78 10).toNat) = 2 → MetI m_M_readVariable [vr 78] w13 (fun z17 w16 => ((z17 = 0 → Q (some (vi 0)) w16) ∧ (¬ z17 = 0 → MetI m_M_want [vr 78, vi 41] w16 (fun z19 w18 => ((¬ z19 = 0 → ((¬ (gI w18 78 41) = (-1) → (∀ w20 : Wo, w20 = uI w18 78 41 (gI w18 78 41) → Wp m_M_readArguments 310 [(0, vr 78), (1, vi x1), (2, vi x2), (3, vi x3)] [] (0, 0) w20 Q)) ∧ ((gI w18 78 41) = (-1) → (∀ w22 : Wo, w22 = uI w18 78 41 (gI w 81 (gI w 78 10).toNat) → Wp m_M_readArguments 310 [(0, vr 78), (1, vi x1), (2, vi x2), (3, vi x3)] [] (0, 0) w22 Q)))) ∧ (z19 = 0 → Q (some (vi 0)) w18))))))) ∧ (¬ (gI w13 80 (gI w13 78 10).toNat) = 2 → MetI m_M_refuse [vr 78] w13 (fun z25 w24 => (z25 = 0 ∨ z25 = 1) ∧ Q (some (vi z25)) w24)))) ∧ (z14 = 0 → Q (some (vi 0)) w13)))))))))))))))) ∧ ((gI w 78 38) = 4 → MetI m_M_refuse [vr 78] w (fun z27 w26 => (z27 = 0 ∨ z27 = 1) ∧ Q (some (vi z27)) w26)))) : Wp m_M_readArguments 79 [(0, vr 78), (1, vi x1), (2, vi x2), (3, vi x3)] [] (0, 0) w Q := by
  refine wp_ly (fun hly => ?_)
  refine wp_aload_n d_M_readArguments_79 (i := 0) rfl 0 rfl ?_
  refine wp_getI d_M_readArguments_80 fl_M_222 cl_9 rfl (ly_o hly (by decide)) ?_
  refine wp_iconst d_M_readArguments_83 (by decide) ?_
  refine wp_icmp_ne (tgt := 92) d_M_readArguments_84 (by decide) (fun hc => ?_) (fun hc => ?_)
  · replace h := h.1 hc
    refine wp_aload_n d_M_readArguments_92 (i := 0) rfl 0 rfl ?_
    refine wp_getP d_M_readArguments_93 fl_M_16 cl_9 rfl (ly_o hly (by decide)) (ly_r (v := 81) hly (by decide +kernel)) ?_
    refine wp_aload_n d_M_readArguments_96 (i := 0) rfl 0 rfl ?_
    refine wp_getI d_M_readArguments_97 fl_M_180 cl_9 rfl (ly_o hly (by decide)) ?_
    obtain ⟨hi1, h⟩ := h
    refine wp_iaload d_M_readArguments_100 (ly_a (n := 602) (N := 602) hly (by decide) hi1) ?_
    refine wp_istore (L' := [(4, vi (gI w 81 (gI w 78 10).toNat)), (0, vr 78), (1, vi x1), (2, vi x2), (3, vi x3)]) d_M_readArguments_101 rfl (by decide) ?_
    refine wp_iload_n d_M_readArguments_103 (i := 1) rfl 2 rfl ?_
    refine wp_if_eq (tgt := 248) d_M_readArguments_104 (by decide) (fun hc => ?_) (fun hc => ?_)
    · replace h := h.1 hc
      exact wp_pick [1, 2, 3, 4, 0] rfl h
    · replace h := h.2 hc
      refine wp_aload_n d_M_readArguments_107 (i := 0) rfl 1 rfl ?_
      refine wp_getP d_M_readArguments_108 fl_M_13 cl_9 rfl (ly_o hly (by decide)) (ly_r (v := 80) hly (by decide +kernel)) ?_
      refine wp_aload_n d_M_readArguments_111 (i := 0) rfl 1 rfl ?_
      refine wp_getI d_M_readArguments_112 fl_M_180 cl_9 rfl (ly_o hly (by decide)) ?_
      obtain ⟨hi2, h⟩ := h
      refine wp_iaload d_M_readArguments_115 (ly_a (n := 602) (N := 602) hly (by decide) hi2) ?_
      refine wp_iconst d_M_readArguments_116 (by decide) ?_
      refine wp_icmp_ne (tgt := 248) d_M_readArguments_117 (by decide) (fun hc => ?_) (fun hc => ?_)
      · replace h := h.1 hc
        exact wp_pick [1, 2, 3, 4, 0] rfl h
      · replace h := h.2 hc
        refine wp_aload_n d_M_readArguments_120 (i := 0) rfl 1 rfl ?_
        refine wp_getP d_M_readArguments_121 fl_M_19 cl_9 rfl (ly_o hly (by decide)) (ly_r (v := 82) hly (by decide +kernel)) ?_
        refine wp_aload_n d_M_readArguments_124 (i := 0) rfl 1 rfl ?_
        refine wp_getI d_M_readArguments_125 fl_M_180 cl_9 rfl (ly_o hly (by decide)) ?_
        obtain ⟨hi3, h⟩ := h
        refine wp_iaload d_M_readArguments_128 (ly_a (n := 602) (N := 602) hly (by decide) hi3) ?_
        refine wp_iconst d_M_readArguments_129 (by decide) ?_
        refine wp_icmp_le (tgt := 248) d_M_readArguments_130 (by decide) (fun hc => ?_) (fun hc => ?_)
        · replace h := h.1 hc
          exact wp_pick [1, 2, 3, 4, 0] rfl h
        · replace h := h.2 hc
          refine wp_aload_n d_M_readArguments_133 (i := 0) rfl 1 rfl ?_
          refine wp_getI d_M_readArguments_134 fl_M_228 cl_9 rfl (ly_o hly (by decide)) ?_
          refine wp_if_ne (tgt := 248) d_M_readArguments_137 (by decide) (fun hc => ?_) (fun hc => ?_)
          · replace h := h.1 hc
            exact wp_pick [1, 2, 3, 4, 0] rfl h
          · replace h := h.2 hc
            refine wp_aload_n d_M_readArguments_140 (i := 0) rfl 1 rfl ?_
            refine wp_aload_n d_M_readArguments_141 (i := 0) rfl 1 rfl ?_
            refine wp_getP d_M_readArguments_142 fl_M_19 cl_9 rfl (ly_o hly (by decide)) (ly_r (v := 82) hly (by decide +kernel)) ?_
            refine wp_aload_n d_M_readArguments_145 (i := 0) rfl 1 rfl ?_
            refine wp_getI d_M_readArguments_146 fl_M_180 cl_9 rfl (ly_o hly (by decide)) ?_
            obtain ⟨hi4, h⟩ := h
            refine wp_iaload d_M_readArguments_149 (ly_a (n := 602) (N := 602) hly (by decide) hi4) ?_
            refine wp_putI d_M_readArguments_150 fl_M_228 cl_9 ⟨rfl, rfl⟩ (ly_o hly (by decide)) (fun w5 e6 => ?_)
            replace h := h w5 e6
            refine wp_ly (fun hly => ?_)
            refine wp_aload_n d_M_readArguments_153 (i := 0) rfl 1 rfl ?_
            refine wp_aload_n d_M_readArguments_154 (i := 0) rfl 1 rfl ?_
            refine wp_getI d_M_readArguments_155 fl_M_222 cl_9 rfl (ly_o hly (by decide)) ?_
            refine wp_putI d_M_readArguments_158 fl_M_231 cl_9 ⟨rfl, rfl⟩ (ly_o hly (by decide)) (fun w7 e8 => ?_)
            replace h := h w7 e8
            refine wp_ly (fun hly => ?_)
            refine wp_aload_n d_M_readArguments_161 (i := 0) rfl 1 rfl ?_
            refine wp_iload d_M_readArguments_162 0 rfl ?_
            refine wp_putI d_M_readArguments_164 fl_M_234 cl_9 ⟨rfl, rfl⟩ (ly_o hly (by decide)) (fun w9 e10 => ?_)
            replace h := h w9 e10
            refine wp_ly (fun hly => ?_)
            refine wp_aload_n d_M_readArguments_167 (i := 0) rfl 1 rfl ?_
            refine wp_dup d_M_readArguments_168 rfl ?_
            refine wp_getI d_M_readArguments_169 fl_M_180 cl_9 rfl (ly_o hly (by decide)) ?_
            refine wp_iconst d_M_readArguments_172 (by decide) ?_
            obtain ⟨ho, h⟩ := h
            refine wp_iadd d_M_readArguments_173 ho ?_
            refine wp_putI d_M_readArguments_174 fl_M_180 cl_9 ⟨rfl, rfl⟩ (ly_o hly (by decide)) (fun w11 e12 => ?_)
            replace h := h w11 e12
            refine wp_ly (fun hly => ?_)
            refine wp_aload_n d_M_readArguments_177 (i := 0) rfl 1 rfl ?_
            refine wp_bipush d_M_readArguments_178 (by decide) (by decide) ?_
            refine wp_callV (A := [vi 40]) (S := []) d_M_readArguments_180 cv_M_readArguments_225 (ly_o hly (by decide)) rfl (Nat.le_of_ble_eq_true rfl) (by decide) (MetS.mono h (fun r w13 hh => ?_))
            obtain ⟨z14, er, h⟩ := hh
            subst er
            refine wp_ly (fun hly => ?_)
            refine wp_if_ne (tgt := 188) d_M_readArguments_183 (by decide) (fun hc => ?_) (fun hc => ?_)
            · replace h := h.1 hc
              refine wp_aload_n d_M_readArguments_188 (i := 0) rfl 1 rfl ?_
              refine wp_getP d_M_readArguments_189 fl_M_13 cl_9 rfl (ly_o hly (by decide)) (ly_r (v := 80) hly (by decide +kernel)) ?_
              refine wp_aload_n d_M_readArguments_192 (i := 0) rfl 1 rfl ?_
              refine wp_getI d_M_readArguments_193 fl_M_180 cl_9 rfl (ly_o hly (by decide)) ?_
              obtain ⟨hi15, h⟩ := h
              refine wp_iaload d_M_readArguments_196 (ly_a (n := 602) (N := 602) hly (by decide) hi15) ?_
              refine wp_iconst d_M_readArguments_197 (by decide) ?_
              refine wp_icmp_eq (tgt := 206) d_M_readArguments_198 (by decide) (fun hc => ?_) (fun hc => ?_)
              · replace h := h.1 hc
                refine wp_aload_n d_M_readArguments_206 (i := 0) rfl 1 rfl ?_
                refine wp_callV (A := []) (S := []) d_M_readArguments_207 cv_M_readArguments_206 (ly_o hly (by decide)) rfl (Nat.le_of_ble_eq_true rfl) (by decide) (MetS.mono h (fun r w16 hh => ?_))
                obtain ⟨z17, er, h⟩ := hh
                subst er
                refine wp_ly (fun hly => ?_)
                refine wp_if_eq (tgt := 222) d_M_readArguments_210 (by decide) (fun hc => ?_) (fun hc => ?_)
                · replace h := h.1 hc
                  refine wp_iconst d_M_readArguments_222 (by decide) ?_
                  exact wp_zret d_M_readArguments_223 rfl (by decide) (by decide) h
                · replace h := h.2 hc
                  refine wp_aload_n d_M_readArguments_213 (i := 0) rfl 1 rfl ?_
                  refine wp_bipush d_M_readArguments_214 (by decide) (by decide) ?_
                  refine wp_callV (A := [vi 41]) (S := []) d_M_readArguments_216 cv_M_readArguments_225 (ly_o hly (by decide)) rfl (Nat.le_of_ble_eq_true rfl) (by decide) (MetS.mono h (fun r w18 hh => ?_))
                  obtain ⟨z19, er, h⟩ := hh
                  subst er
                  refine wp_ly (fun hly => ?_)
                  refine wp_if_ne (tgt := 224) d_M_readArguments_219 (by decide) (fun hc => ?_) (fun hc => ?_)
                  · replace h := h.1 hc
                    refine wp_aload_n d_M_readArguments_224 (i := 0) rfl 1 rfl ?_
                    refine wp_aload_n d_M_readArguments_225 (i := 0) rfl 1 rfl ?_
                    refine wp_getI d_M_readArguments_226 fl_M_237 cl_9 rfl (ly_o hly (by decide)) ?_
                    refine wp_iconst d_M_readArguments_229 (by decide) ?_
                    refine wp_icmp_ne (tgt := 238) d_M_readArguments_230 (by decide) (fun hc => ?_) (fun hc => ?_)
                    · replace h := h.1 hc
                      refine wp_aload_n d_M_readArguments_238 (i := 0) rfl 1 rfl ?_
                      refine wp_getI d_M_readArguments_239 fl_M_237 cl_9 rfl (ly_o hly (by decide)) ?_
                      refine wp_putI d_M_readArguments_242 fl_M_237 cl_9 ⟨rfl, rfl⟩ (ly_o hly (by decide)) (fun w20 e21 => ?_)
                      replace h := h w20 e21
                      refine wp_ly (fun hly => ?_)
                      refine wp_goto (tgt := 310) d_M_readArguments_245 (by decide) ?_
                      exact wp_pick [1, 2, 3, 4] rfl h
                    · replace h := h.2 hc
                      refine wp_iload d_M_readArguments_233 0 rfl ?_
                      refine wp_goto (tgt := 242) d_M_readArguments_235 (by decide) ?_
                      refine wp_putI d_M_readArguments_242 fl_M_237 cl_9 ⟨rfl, rfl⟩ (ly_o hly (by decide)) (fun w22 e23 => ?_)
                      replace h := h w22 e23
                      refine wp_ly (fun hly => ?_)
                      refine wp_goto (tgt := 310) d_M_readArguments_245 (by decide) ?_
                      exact wp_pick [1, 2, 3, 4] rfl h
                  · replace h := h.2 hc
                    refine wp_iconst d_M_readArguments_222 (by decide) ?_
                    exact wp_zret d_M_readArguments_223 rfl (by decide) (by decide) h
              · replace h := h.2 hc
                refine wp_aload_n d_M_readArguments_201 (i := 0) rfl 1 rfl ?_
                refine wp_callV (A := []) (S := []) d_M_readArguments_202 cv_M_readArguments_192 (ly_o hly (by decide)) rfl (Nat.le_of_ble_eq_true rfl) (by decide) (MetS.mono h (fun r w24 hh => ?_))
                obtain ⟨z25, er, h⟩ := hh
                subst er
                refine wp_ly (fun hly => ?_)
                exact wp_zret d_M_readArguments_205 rfl (by decide) h.1 h.2
            · replace h := h.2 hc
              refine wp_iconst d_M_readArguments_186 (by decide) ?_
              exact wp_zret d_M_readArguments_187 rfl (by decide) (by decide) h
  · replace h := h.2 hc
    refine wp_aload_n d_M_readArguments_87 (i := 0) rfl 0 rfl ?_
    refine wp_callV (A := []) (S := []) d_M_readArguments_88 cv_M_readArguments_192 (ly_o hly (by decide)) rfl (Nat.le_of_ble_eq_true rfl) (by decide) (MetS.mono h (fun r w26 hh => ?_))
    obtain ⟨z27, er, h⟩ := hh
    subst er
    refine wp_ly (fun hly => ?_)
    exact wp_zret d_M_readArguments_91 rfl (by decide) h.1 h.2
set_option maxRecDepth 20000 in
set_option maxHeartbeats 2000000 in
theorem t_M_readArguments_248 {x1 : Int} {x2 : Int} {x3 : Int} {x4 : Int}  {w : Wo} {Q : Option AV → Wo → Prop} (h : ((x2 = 0 → Wp m_M_readArguments 279 [(0, vr 78), (1, vi x1), (2, vi x2), (3, vi x3), (4, vi x4)] [] (0, 0) w Q) ∧ (¬ x2 = 0 → MetI m_M_isSign [vr 78, vi 95] w (fun z2 w1 => ((z2 = 0 → Wp m_M_readArguments 279 [(0, vr 78), (1, vi x1), (2, vi x2), (3, vi x3), (4, vi x4)] [] (0, 0) w1 Q) ∧ (¬ z2 = 0 → inr32 ((gI w1 78 10) + 1) ∧ (∀ w3 : Wo, w3 = uI w1 78 10 ((gI w1 78 10) + 1) → (∀ w5 : Wo, w5 = uI w3 78 35 2 → Wp m_M_readArguments 310 [(0, vr 78), (1, vi x1), (2, vi x2), (3, vi x3)] [] (0, 0) w5 Q)))))))) : Wp m_M_readArguments 248 [(0, vr 78), (1, vi x1), (2, vi x2), (3, vi x3), (4, vi x4)] [] (0, 0) w Q := by
  refine wp_ly (fun hly => ?_)
  refine wp_iload_n d_M_readArguments_248 (i := 2) rfl 2 rfl ?_
  refine wp_if_eq (tgt := 279) d_M_readArguments_249 (by decide) (fun hc => ?_) (fun hc => ?_)
  · replace h := h.1 hc
    exact h
  · replace h := h.2 hc
    refine wp_aload_n d_M_readArguments_252 (i := 0) rfl 0 rfl ?_
    refine wp_bipush d_M_readArguments_253 (by decide) (by decide) ?_
    refine wp_callV (A := [vi 95]) (S := []) d_M_readArguments_255 cv_M_readArguments_186 (ly_o hly (by decide)) rfl (Nat.le_of_ble_eq_true rfl) (by decide) (MetS.mono h (fun r w1 hh => ?_))
    obtain ⟨z2, er, h⟩ := hh
    subst er
    refine wp_ly (fun hly => ?_)
    refine wp_if_eq (tgt := 279) d_M_readArguments_258 (by decide) (fun hc => ?_) (fun hc => ?_)
    · replace h := h.1 hc
      exact h
    · replace h := h.2 hc
      refine wp_aload_n d_M_readArguments_261 (i := 0) rfl 0 rfl ?_
      refine wp_dup d_M_readArguments_262 rfl ?_
      refine wp_getI d_M_readArguments_263 fl_M_180 cl_9 rfl (ly_o hly (by decide)) ?_
      refine wp_iconst d_M_readArguments_266 (by decide) ?_
      obtain ⟨ho, h⟩ := h
      refine wp_iadd d_M_readArguments_267 ho ?_
      refine wp_putI d_M_readArguments_268 fl_M_180 cl_9 ⟨rfl, rfl⟩ (ly_o hly (by decide)) (fun w3 e4 => ?_)
      replace h := h w3 e4
      refine wp_ly (fun hly => ?_)
      refine wp_aload_n d_M_readArguments_271 (i := 0) rfl 0 rfl ?_
      refine wp_iconst d_M_readArguments_272 (by decide) ?_
      refine wp_putI d_M_readArguments_273 fl_M_199 cl_9 ⟨rfl, rfl⟩ (ly_o hly (by decide)) (fun w5 e6 => ?_)
      replace h := h w5 e6
      refine wp_ly (fun hly => ?_)
      refine wp_goto (tgt := 310) d_M_readArguments_276 (by decide) ?_
      exact wp_pick [0, 1, 2, 3] rfl h
set_option maxRecDepth 20000 in
set_option maxHeartbeats 2000000 in
theorem t_M_readArguments_279 {x1 : Int} {x2 : Int} {x3 : Int} {x4 : Int}  {w : Wo} {Q : Option AV → Wo → Prop} (h : MetI m_M_readTerm [vr 78] w (fun z2 w1 => ((¬ z2 = 0 → ((¬ (gI w1 78 35) = 1 → Wp m_M_readArguments 310 [(0, vr 78), (1, vi x1), (2, vi x2), (3, vi x3)] [] (0, 0) w1 Q) ∧ ((gI w1 78 35) = 1 → ((¬ (gI w1 78 41) = (-1) → Wp m_M_readArguments 310 [(0, vr 78), (1, vi x1), (2, vi x2), (3, vi x3)] [] (0, 0) w1 Q) ∧ ((gI w1 78 41) = (-1) → (∀ w3 : Wo, w3 = uI w1 78 41 x4 → Wp m_M_readArguments 310 [(0, vr 78), (1, vi x1), (2, vi x2), (3, vi x3)] [] (0, 0) w3 Q)))))) ∧ (z2 = 0 → Q (some (vi 0)) w1)))) : Wp m_M_readArguments 279 [(0, vr 78), (1, vi x1), (2, vi x2), (3, vi x3), (4, vi x4)] [] (0, 0) w Q := by
  refine wp_ly (fun hly => ?_)
  refine wp_aload_n d_M_readArguments_279 (i := 0) rfl 0 rfl ?_
  refine wp_callV (A := []) (S := []) d_M_readArguments_280 cv_M_readArguments_240 (ly_o hly (by decide)) rfl (Nat.le_of_ble_eq_true rfl) (by decide) (MetS.mono h (fun r w1 hh => ?_))
  obtain ⟨z2, er, h⟩ := hh
  subst er
  refine wp_ly (fun hly => ?_)
  refine wp_if_ne (tgt := 288) d_M_readArguments_283 (by decide) (fun hc => ?_) (fun hc => ?_)
  · replace h := h.1 hc
    refine wp_aload_n d_M_readArguments_288 (i := 0) rfl 0 rfl ?_
    refine wp_getI d_M_readArguments_289 fl_M_199 cl_9 rfl (ly_o hly (by decide)) ?_
    refine wp_iconst d_M_readArguments_292 (by decide) ?_
    refine wp_icmp_ne (tgt := 310) d_M_readArguments_293 (by decide) (fun hc => ?_) (fun hc => ?_)
    · replace h := h.1 hc
      exact wp_pick [0, 1, 2, 3] rfl h
    · replace h := h.2 hc
      refine wp_aload_n d_M_readArguments_296 (i := 0) rfl 0 rfl ?_
      refine wp_getI d_M_readArguments_297 fl_M_237 cl_9 rfl (ly_o hly (by decide)) ?_
      refine wp_iconst d_M_readArguments_300 (by decide) ?_
      refine wp_icmp_ne (tgt := 310) d_M_readArguments_301 (by decide) (fun hc => ?_) (fun hc => ?_)
      · replace h := h.1 hc
        exact wp_pick [0, 1, 2, 3] rfl h
      · replace h := h.2 hc
        refine wp_aload_n d_M_readArguments_304 (i := 0) rfl 0 rfl ?_
        refine wp_iload d_M_readArguments_305 4 rfl ?_
        refine wp_putI d_M_readArguments_307 fl_M_237 cl_9 ⟨rfl, rfl⟩ (ly_o hly (by decide)) (fun w3 e4 => ?_)
        replace h := h w3 e4
        refine wp_ly (fun hly => ?_)
        exact wp_pick [0, 1, 2, 3] rfl h
  · replace h := h.2 hc
    refine wp_iconst d_M_readArguments_286 (by decide) ?_
    exact wp_zret d_M_readArguments_287 rfl (by decide) (by decide) h
set_option maxRecDepth 20000 in
set_option maxHeartbeats 2000000 in
theorem t_M_readArguments_310 {x1 : Int} {x2 : Int} {x3 : Int}  {w : Wo} {Q : Option AV → Wo → Prop} (h : (0 ≤ (gI w 78 38) ∧ (gI w 78 38) < 4) ∧ (∀ w2 : Wo, w2 = uI w 106 (gI w 78 38).toNat (gI w 78 35) → (0 ≤ (gI w2 78 38) ∧ (gI w2 78 38) < 4) ∧ (∀ w5 : Wo, w5 = uJ w2 107 (gI w2 78 38).toNat (gJ w2 78 36) → inr32 ((gI w5 78 38) + 1) ∧ (∀ w7 : Wo, w7 = uI w5 78 38 ((gI w5 78 38) + 1) → MetI m_M_takes [vr 78, vi 44] w7 (fun z10 w9 => ((¬ z10 = 0 → Wp m_M_readArguments 79 [(0, vr 78), (1, vi x1), (2, vi x2), (3, vi x3)] [] (0, 0) w9 Q) ∧ (z10 = 0 → MetI m_M_want [vr 78, vi 41] w9 (fun z12 w11 => ((¬ z12 = 0 → (0 ≤ x3 ∧ x3 < 602) ∧ (0 ≤ x3 ∧ x3 < 602) ∧ MetI m_M_predicateOf [vr 78, vl (gJ w11 83 x3.toNat), vi (gI w11 78 38), vi (gI w11 81 x3.toNat)] w11 (fun z16 w15 => (∀ w17 : Wo, w17 = uI w15 78 45 z16 → Q (some (vi 1)) w17))) ∧ (z12 = 0 → Q (some (vi 0)) w11)))))))))) : Wp m_M_readArguments 310 [(0, vr 78), (1, vi x1), (2, vi x2), (3, vi x3)] [] (0, 0) w Q := by
  refine wp_ly (fun hly => ?_)
  refine wp_aload_n d_M_readArguments_310 (i := 0) rfl 0 rfl ?_
  refine wp_getP d_M_readArguments_311 fl_M_93 cl_9 rfl (ly_o hly (by decide)) (ly_r (v := 106) hly (by decide +kernel)) ?_
  refine wp_aload_n d_M_readArguments_314 (i := 0) rfl 0 rfl ?_
  refine wp_getI d_M_readArguments_315 fl_M_222 cl_9 rfl (ly_o hly (by decide)) ?_
  refine wp_aload_n d_M_readArguments_318 (i := 0) rfl 0 rfl ?_
  refine wp_getI d_M_readArguments_319 fl_M_199 cl_9 rfl (ly_o hly (by decide)) ?_
  obtain ⟨hi1, h⟩ := h
  refine wp_iastore d_M_readArguments_322 (ly_a (n := 4) (N := 4) hly (by decide) hi1) (fun w2 e3 => ?_)
  replace h := h w2 e3
  refine wp_ly (fun hly => ?_)
  refine wp_aload_n d_M_readArguments_323 (i := 0) rfl 0 rfl ?_
  refine wp_getP d_M_readArguments_324 fl_M_96 cl_9 rfl (ly_o hly (by decide)) (ly_r (v := 107) hly (by decide +kernel)) ?_
  refine wp_aload_n d_M_readArguments_327 (i := 0) rfl 0 rfl ?_
  refine wp_getI d_M_readArguments_328 fl_M_222 cl_9 rfl (ly_o hly (by decide)) ?_
  refine wp_aload_n d_M_readArguments_331 (i := 0) rfl 0 rfl ?_
  refine wp_getJ d_M_readArguments_332 fl_M_202 cl_9 rfl (ly_o hly (by decide)) ?_
  obtain ⟨hi4, h⟩ := h
  refine wp_lastore d_M_readArguments_335 (ly_a (n := 4) (N := 4) hly (by decide) hi4) (fun w5 e6 => ?_)
  replace h := h w5 e6
  refine wp_ly (fun hly => ?_)
  refine wp_aload_n d_M_readArguments_336 (i := 0) rfl 0 rfl ?_
  refine wp_dup d_M_readArguments_337 rfl ?_
  refine wp_getI d_M_readArguments_338 fl_M_222 cl_9 rfl (ly_o hly (by decide)) ?_
  refine wp_iconst d_M_readArguments_341 (by decide) ?_
  obtain ⟨ho, h⟩ := h
  refine wp_iadd d_M_readArguments_342 ho ?_
  refine wp_putI d_M_readArguments_343 fl_M_222 cl_9 ⟨rfl, rfl⟩ (ly_o hly (by decide)) (fun w7 e8 => ?_)
  replace h := h w7 e8
  refine wp_ly (fun hly => ?_)
  refine wp_aload_n d_M_readArguments_346 (i := 0) rfl 0 rfl ?_
  refine wp_bipush d_M_readArguments_347 (by decide) (by decide) ?_
  refine wp_callV (A := [vi 44]) (S := []) d_M_readArguments_349 cv_M_readArguments_189 (ly_o hly (by decide)) rfl (Nat.le_of_ble_eq_true rfl) (by decide) (MetS.mono h (fun r w9 hh => ?_))
  obtain ⟨z10, er, h⟩ := hh
  subst er
  refine wp_ly (fun hly => ?_)
  refine wp_if_ne (tgt := 79) d_M_readArguments_352 (by decide) (fun hc => ?_) (fun hc => ?_)
  · replace h := h.1 hc
    exact h
  · replace h := h.2 hc
    refine wp_aload_n d_M_readArguments_355 (i := 0) rfl 0 rfl ?_
    refine wp_bipush d_M_readArguments_356 (by decide) (by decide) ?_
    refine wp_callV (A := [vi 41]) (S := []) d_M_readArguments_358 cv_M_readArguments_225 (ly_o hly (by decide)) rfl (Nat.le_of_ble_eq_true rfl) (by decide) (MetS.mono h (fun r w11 hh => ?_))
    obtain ⟨z12, er, h⟩ := hh
    subst er
    refine wp_ly (fun hly => ?_)
    refine wp_if_ne (tgt := 366) d_M_readArguments_361 (by decide) (fun hc => ?_) (fun hc => ?_)
    · replace h := h.1 hc
      refine wp_aload_n d_M_readArguments_366 (i := 0) rfl 0 rfl ?_
      refine wp_aload_n d_M_readArguments_367 (i := 0) rfl 0 rfl ?_
      refine wp_aload_n d_M_readArguments_368 (i := 0) rfl 0 rfl ?_
      refine wp_getP d_M_readArguments_369 fl_M_22 cl_9 rfl (ly_o hly (by decide)) (ly_r (v := 83) hly (by decide +kernel)) ?_
      refine wp_iload_n d_M_readArguments_372 (i := 3) rfl 3 rfl ?_
      obtain ⟨hi13, h⟩ := h
      refine wp_laload d_M_readArguments_373 (ly_a (n := 602) (N := 602) hly (by decide) hi13) ?_
      refine wp_aload_n d_M_readArguments_374 (i := 0) rfl 0 rfl ?_
      refine wp_getI d_M_readArguments_375 fl_M_222 cl_9 rfl (ly_o hly (by decide)) ?_
      refine wp_aload_n d_M_readArguments_378 (i := 0) rfl 0 rfl ?_
      refine wp_getP d_M_readArguments_379 fl_M_16 cl_9 rfl (ly_o hly (by decide)) (ly_r (v := 81) hly (by decide +kernel)) ?_
      refine wp_iload_n d_M_readArguments_382 (i := 3) rfl 3 rfl ?_
      obtain ⟨hi14, h⟩ := h
      refine wp_iaload d_M_readArguments_383 (ly_a (n := 602) (N := 602) hly (by decide) hi14) ?_
      refine wp_callV (A := [vl (gJ w11 83 x3.toNat), vi (gI w11 78 38), vi (gI w11 81 x3.toNat)]) (S := [vr 78]) d_M_readArguments_384 cv_M_readArguments_243 (ly_o hly (by decide)) rfl (Nat.le_of_ble_eq_true rfl) (by decide) (MetS.mono h (fun r w15 hh => ?_))
      obtain ⟨z16, er, h⟩ := hh
      subst er
      refine wp_ly (fun hly => ?_)
      refine wp_putI d_M_readArguments_387 fl_M_247 cl_9 ⟨rfl, rfl⟩ (ly_o hly (by decide)) (fun w17 e18 => ?_)
      replace h := h w17 e18
      refine wp_ly (fun hly => ?_)
      refine wp_iconst d_M_readArguments_390 (by decide) ?_
      exact wp_zret d_M_readArguments_391 rfl (by decide) (by decide) h
    · replace h := h.2 hc
      refine wp_iconst d_M_readArguments_364 (by decide) ?_
      exact wp_zret d_M_readArguments_365 rfl (by decide) (by decide) h
set_option maxRecDepth 20000 in
set_option maxHeartbeats 2000000 in
theorem t_M_relation_0   {w : Wo} {Q : Option AV → Wo → Prop} (h : (0 ≤ (gI w 78 10) ∧ (gI w 78 10) < 602) ∧ (((gI w 80 (gI w 78 10).toNat) = 4 → (0 ≤ (gI w 78 10) ∧ (gI w 78 10) < 602) ∧ (((gI w 82 (gI w 78 10).toNat) = 61 → Q (some (vi (gI w 82 (gI w 78 10).toNat))) w) ∧ (¬ (gI w 82 (gI w 78 10).toNat) = 61 → (((gI w 82 (gI w 78 10).toNat) = 301 → Q (some (vi (gI w 82 (gI w 78 10).toNat))) w) ∧ (¬ (gI w 82 (gI w 78 10).toNat) = 301 → (((gI w 82 (gI w 78 10).toNat) = 60 → Q (some (vi (gI w 82 (gI w 78 10).toNat))) w) ∧ (¬ (gI w 82 (gI w 78 10).toNat) = 60 → (((gI w 82 (gI w 78 10).toNat) = 302 → Q (some (vi (gI w 82 (gI w 78 10).toNat))) w) ∧ (¬ (gI w 82 (gI w 78 10).toNat) = 302 → (((gI w 82 (gI w 78 10).toNat) = 62 → Q (some (vi (gI w 82 (gI w 78 10).toNat))) w) ∧ (¬ (gI w 82 (gI w 78 10).toNat) = 62 → ((¬ (gI w 82 (gI w 78 10).toNat) = 303 → Q (some (vi 0)) w) ∧ ((gI w 82 (gI w 78 10).toNat) = 303 → Q (some (vi (gI w 82 (gI w 78 10).toNat))) w))))))))))))) ∧ (¬ (gI w 80 (gI w 78 10).toNat) = 4 → Q (some (vi 0)) w))) : Wp m_M_relation 0 [(0, vr 78)] [] (0, 0) w Q := by
  refine wp_ly (fun hly => ?_)
  refine wp_aload_n d_M_relation_0 (i := 0) rfl 0 rfl ?_
  refine wp_getP d_M_relation_1 fl_M_13 cl_9 rfl (ly_o hly (by decide)) (ly_r (v := 80) hly (by decide +kernel)) ?_
  refine wp_aload_n d_M_relation_4 (i := 0) rfl 0 rfl ?_
  refine wp_getI d_M_relation_5 fl_M_180 cl_9 rfl (ly_o hly (by decide)) ?_
  obtain ⟨hi1, h⟩ := h
  refine wp_iaload d_M_relation_8 (ly_a (n := 602) (N := 602) hly (by decide) hi1) ?_
  refine wp_iconst d_M_relation_9 (by decide) ?_
  refine wp_icmp_eq (tgt := 15) d_M_relation_10 (by decide) (fun hc => ?_) (fun hc => ?_)
  · replace h := h.1 hc
    refine wp_aload_n d_M_relation_15 (i := 0) rfl 0 rfl ?_
    refine wp_getP d_M_relation_16 fl_M_19 cl_9 rfl (ly_o hly (by decide)) (ly_r (v := 82) hly (by decide +kernel)) ?_
    refine wp_aload_n d_M_relation_19 (i := 0) rfl 0 rfl ?_
    refine wp_getI d_M_relation_20 fl_M_180 cl_9 rfl (ly_o hly (by decide)) ?_
    obtain ⟨hi2, h⟩ := h
    refine wp_iaload d_M_relation_23 (ly_a (n := 602) (N := 602) hly (by decide) hi2) ?_
    refine wp_istore_n (L' := [(1, vi (gI w 82 (gI w 78 10).toNat)), (0, vr 78)]) d_M_relation_24 (i := 1) rfl rfl (by decide) ?_
    refine wp_iload_n d_M_relation_25 (i := 1) rfl 0 rfl ?_
    refine wp_bipush d_M_relation_26 (by decide) (by decide) ?_
    refine wp_icmp_eq (tgt := 64) d_M_relation_28 (by decide) (fun hc => ?_) (fun hc => ?_)
    · replace h := h.1 hc
      refine wp_iload_n d_M_relation_64 (i := 1) rfl 0 rfl ?_
      refine wp_goto (tgt := 69) d_M_relation_65 (by decide) ?_
      exact wp_iret d_M_relation_69 rfl (by decide) h
    · replace h := h.2 hc
      refine wp_iload_n d_M_relation_31 (i := 1) rfl 0 rfl ?_
      refine wp_sipush d_M_relation_32 (by decide) (by decide) ?_
      refine wp_icmp_eq (tgt := 64) d_M_relation_35 (by decide) (fun hc => ?_) (fun hc => ?_)
      · replace h := h.1 hc
        refine wp_iload_n d_M_relation_64 (i := 1) rfl 0 rfl ?_
        refine wp_goto (tgt := 69) d_M_relation_65 (by decide) ?_
        exact wp_iret d_M_relation_69 rfl (by decide) h
      · replace h := h.2 hc
        refine wp_iload_n d_M_relation_38 (i := 1) rfl 0 rfl ?_
        refine wp_bipush d_M_relation_39 (by decide) (by decide) ?_
        refine wp_icmp_eq (tgt := 64) d_M_relation_41 (by decide) (fun hc => ?_) (fun hc => ?_)
        · replace h := h.1 hc
          refine wp_iload_n d_M_relation_64 (i := 1) rfl 0 rfl ?_
          refine wp_goto (tgt := 69) d_M_relation_65 (by decide) ?_
          exact wp_iret d_M_relation_69 rfl (by decide) h
        · replace h := h.2 hc
          refine wp_iload_n d_M_relation_44 (i := 1) rfl 0 rfl ?_
          refine wp_sipush d_M_relation_45 (by decide) (by decide) ?_
          refine wp_icmp_eq (tgt := 64) d_M_relation_48 (by decide) (fun hc => ?_) (fun hc => ?_)
          · replace h := h.1 hc
            refine wp_iload_n d_M_relation_64 (i := 1) rfl 0 rfl ?_
            refine wp_goto (tgt := 69) d_M_relation_65 (by decide) ?_
            exact wp_iret d_M_relation_69 rfl (by decide) h
          · replace h := h.2 hc
            refine wp_iload_n d_M_relation_51 (i := 1) rfl 0 rfl ?_
            refine wp_bipush d_M_relation_52 (by decide) (by decide) ?_
            refine wp_icmp_eq (tgt := 64) d_M_relation_54 (by decide) (fun hc => ?_) (fun hc => ?_)
            · replace h := h.1 hc
              refine wp_iload_n d_M_relation_64 (i := 1) rfl 0 rfl ?_
              refine wp_goto (tgt := 69) d_M_relation_65 (by decide) ?_
              exact wp_iret d_M_relation_69 rfl (by decide) h
            · replace h := h.2 hc
              refine wp_iload_n d_M_relation_57 (i := 1) rfl 0 rfl ?_
              refine wp_sipush d_M_relation_58 (by decide) (by decide) ?_
              refine wp_icmp_ne (tgt := 68) d_M_relation_61 (by decide) (fun hc => ?_) (fun hc => ?_)
              · replace h := h.1 hc
                refine wp_iconst d_M_relation_68 (by decide) ?_
                exact wp_iret d_M_relation_69 rfl (by decide) h
              · replace h := h.2 hc
                refine wp_iload_n d_M_relation_64 (i := 1) rfl 0 rfl ?_
                refine wp_goto (tgt := 69) d_M_relation_65 (by decide) ?_
                exact wp_iret d_M_relation_69 rfl (by decide) h
  · replace h := h.2 hc
    refine wp_iconst d_M_relation_13 (by decide) ?_
    exact wp_iret d_M_relation_14 rfl (by decide) h
set_option maxRecDepth 20000 in
set_option maxHeartbeats 2000000 in
theorem t_M_lay_0 {x1 : Int} {x2 : Int}  {w : Wo} {Q : Option AV → Wo → Prop} (h : inr32 (4 * x1) ∧ inr32 ((4 * x1) + x2) ∧ (0 ≤ ((4 * x1) + x2) ∧ ((4 * x1) + x2) < 1464) ∧ (∀ w2 : Wo, w2 = uI w 98 ((4 * x1) + x2).toNat (gI w 78 35) → inr32 (4 * x1) ∧ inr32 ((4 * x1) + x2) ∧ (0 ≤ ((4 * x1) + x2) ∧ ((4 * x1) + x2) < 1464) ∧ (∀ w5 : Wo, w5 = uJ w2 99 ((4 * x1) + x2).toNat (gJ w2 78 36) → Q none w5))) : Wp m_M_lay 0 [(0, vr 78), (1, vi x1), (2, vi x2)] [] (0, 0) w Q := by
  refine wp_ly (fun hly => ?_)
  refine wp_aload_n d_M_lay_0 (i := 0) rfl 0 rfl ?_
  refine wp_getP d_M_lay_1 fl_M_68 cl_9 rfl (ly_o hly (by decide)) (ly_r (v := 98) hly (by decide +kernel)) ?_
  refine wp_iconst d_M_lay_4 (by decide) ?_
  refine wp_iload_n d_M_lay_5 (i := 1) rfl 1 rfl ?_
  obtain ⟨ho, h⟩ := h
  refine wp_imul d_M_lay_6 ho ?_
  refine wp_iload_n d_M_lay_7 (i := 2) rfl 2 rfl ?_
  obtain ⟨ho, h⟩ := h
  refine wp_iadd d_M_lay_8 ho ?_
  refine wp_aload_n d_M_lay_9 (i := 0) rfl 0 rfl ?_
  refine wp_getI d_M_lay_10 fl_M_199 cl_9 rfl (ly_o hly (by decide)) ?_
  obtain ⟨hi1, h⟩ := h
  refine wp_iastore d_M_lay_13 (ly_a (n := 1464) (N := 1464) hly (by decide) hi1) (fun w2 e3 => ?_)
  replace h := h w2 e3
  refine wp_ly (fun hly => ?_)
  refine wp_aload_n d_M_lay_14 (i := 0) rfl 0 rfl ?_
  refine wp_getP d_M_lay_15 fl_M_71 cl_9 rfl (ly_o hly (by decide)) (ly_r (v := 99) hly (by decide +kernel)) ?_
  refine wp_iconst d_M_lay_18 (by decide) ?_
  refine wp_iload_n d_M_lay_19 (i := 1) rfl 1 rfl ?_
  obtain ⟨ho, h⟩ := h
  refine wp_imul d_M_lay_20 ho ?_
  refine wp_iload_n d_M_lay_21 (i := 2) rfl 2 rfl ?_
  obtain ⟨ho, h⟩ := h
  refine wp_iadd d_M_lay_22 ho ?_
  refine wp_aload_n d_M_lay_23 (i := 0) rfl 0 rfl ?_
  refine wp_getJ d_M_lay_24 fl_M_202 cl_9 rfl (ly_o hly (by decide)) ?_
  obtain ⟨hi4, h⟩ := h
  refine wp_lastore d_M_lay_27 (ly_a (n := 1464) (N := 1464) hly (by decide) hi4) (fun w5 e6 => ?_)
  replace h := h w5 e6
  refine wp_ly (fun hly => ?_)
  exact wp_vret d_M_lay_28 rfl (by decide) h
set_option maxRecDepth 20000 in
set_option maxHeartbeats 2000000 in
theorem t_M_readLiteral_0   {w : Wo} {Q : Option AV → Wo → Prop} (h : (0 ≤ (gI w 78 31) ∧ (gI w 78 31) < 61) ∧ ((¬ (gI w 94 (gI w 78 31).toNat) = 6 → inr32 (6 * (gI w 78 31)) ∧ (0 ≤ (gI w 78 31) ∧ (gI w 78 31) < 61) ∧ inr32 ((6 * (gI w 78 31)) + (gI w 94 (gI w 78 31).toNat)) ∧ MetI m_M_isSign [vr 78, vi 33] w (fun z4 w3 => ((¬ z4 = 0 → Wp m_M_readLiteral 92 [(0, vr 78), (1, vi ((6 * (gI w 78 31)) + (gI w 94 (gI w 78 31).toNat))), (2, vi z4)] [] (0, 0) w3 Q) ∧ (z4 = 0 → (0 ≤ (gI w3 78 10) ∧ (gI w3 78 10) < 602) ∧ ((¬ (gI w3 80 (gI w3 78 10).toNat) = 1 → Wp m_M_readLiteral 96 [(0, vr 78), (1, vi ((6 * (gI w 78 31)) + (gI w 94 (gI w 78 31).toNat))), (2, vi z4)] [] (0, 0) w3 Q) ∧ ((gI w3 80 (gI w3 78 10).toNat) = 1 → inr32 ((gI w3 78 10) + 1) ∧ (0 ≤ ((gI w3 78 10) + 1) ∧ ((gI w3 78 10) + 1) < 602) ∧ ((¬ (gI w3 80 ((gI w3 78 10) + 1).toNat) = 4 → Wp m_M_readLiteral 96 [(0, vr 78), (1, vi ((6 * (gI w 78 31)) + (gI w 94 (gI w 78 31).toNat))), (2, vi z4)] [] (0, 0) w3 Q) ∧ ((gI w3 80 ((gI w3 78 10) + 1).toNat) = 4 → inr32 ((gI w3 78 10) + 1) ∧ (0 ≤ ((gI w3 78 10) + 1) ∧ ((gI w3 78 10) + 1) < 602) ∧ ((¬ (gI w3 82 ((gI w3 78 10) + 1).toNat) = 40 → Wp m_M_readLiteral 96 [(0, vr 78), (1, vi ((6 * (gI w 78 31)) + (gI w 94 (gI w 78 31).toNat))), (2, vi z4)] [] (0, 0) w3 Q) ∧ ((gI w3 82 ((gI w3 78 10) + 1).toNat) = 40 → Wp m_M_readLiteral 92 [(0, vr 78), (1, vi ((6 * (gI w 78 31)) + (gI w 94 (gI w 78 31).toNat))), (2, vi z4)] [] (0, 0) w3 Q)))))))))) ∧ ((gI w 94 (gI w 78 31).toNat) = 6 → MetI m_M_refuse [vr 78] w (fun z9 w8 => (z9 = 0 ∨ z9 = 1) ∧ Q (some (vi z9)) w8)))) : Wp m_M_readLiteral 0 [(0, vr 78)] [] (0, 0) w Q := by
  refine wp_ly (fun hly => ?_)
  refine wp_aload_n d_M_readLiteral_0 (i := 0) rfl 0 rfl ?_
  refine wp_getP d_M_readLiteral_1 fl_M_56 cl_9 rfl (ly_o hly (by decide)) (ly_r (v := 94) hly (by decide +kernel)) ?_
  refine wp_aload_n d_M_readLiteral_4 (i := 0) rfl 0 rfl ?_
  refine wp_getI d_M_readLiteral_5 fl_M_196 cl_9 rfl (ly_o hly (by decide)) ?_
  obtain ⟨hi1, h⟩ := h
  refine wp_iaload d_M_readLiteral_8 (ly_a (n := 61) (N := 61) hly (by decide) hi1) ?_
  refine wp_bipush d_M_readLiteral_9 (by decide) (by decide) ?_
  refine wp_icmp_ne (tgt := 19) d_M_readLiteral_11 (by decide) (fun hc => ?_) (fun hc => ?_)
  · replace h := h.1 hc
    refine wp_bipush d_M_readLiteral_19 (by decide) (by decide) ?_
    refine wp_aload_n d_M_readLiteral_21 (i := 0) rfl 0 rfl ?_
    refine wp_getI d_M_readLiteral_22 fl_M_196 cl_9 rfl (ly_o hly (by decide)) ?_
    obtain ⟨ho, h⟩ := h
    refine wp_imul d_M_readLiteral_25 ho ?_
    refine wp_aload_n d_M_readLiteral_26 (i := 0) rfl 0 rfl ?_
    refine wp_getP d_M_readLiteral_27 fl_M_56 cl_9 rfl (ly_o hly (by decide)) (ly_r (v := 94) hly (by decide +kernel)) ?_
    refine wp_aload_n d_M_readLiteral_30 (i := 0) rfl 0 rfl ?_
    refine wp_getI d_M_readLiteral_31 fl_M_196 cl_9 rfl (ly_o hly (by decide)) ?_
    obtain ⟨hi2, h⟩ := h
    refine wp_iaload d_M_readLiteral_34 (ly_a (n := 61) (N := 61) hly (by decide) hi2) ?_
    obtain ⟨ho, h⟩ := h
    refine wp_iadd d_M_readLiteral_35 ho ?_
    refine wp_istore_n (L' := [(1, vi ((6 * (gI w 78 31)) + (gI w 94 (gI w 78 31).toNat))), (0, vr 78)]) d_M_readLiteral_36 (i := 1) rfl rfl (by decide) ?_
    refine wp_aload_n d_M_readLiteral_37 (i := 0) rfl 1 rfl ?_
    refine wp_bipush d_M_readLiteral_38 (by decide) (by decide) ?_
    refine wp_callV (A := [vi 33]) (S := []) d_M_readLiteral_40 cv_M_readLiteral_186 (ly_o hly (by decide)) rfl (Nat.le_of_ble_eq_true rfl) (by decide) (MetS.mono h (fun r w3 hh => ?_))
    obtain ⟨z4, er, h⟩ := hh
    subst er
    refine wp_ly (fun hly => ?_)
    refine wp_istore_n (L' := [(2, vi z4), (1, vi ((6 * (gI w 78 31)) + (gI w 94 (gI w 78 31).toNat))), (0, vr 78)]) d_M_readLiteral_43 (i := 2) rfl rfl (by decide) ?_
    refine wp_iload_n d_M_readLiteral_44 (i := 2) rfl 0 rfl ?_
    refine wp_if_ne (tgt := 92) d_M_readLiteral_45 (by decide) (fun hc => ?_) (fun hc => ?_)
    · replace h := h.1 hc
      exact wp_pick [2, 1, 0] rfl h
    · replace h := h.2 hc
      refine wp_aload_n d_M_readLiteral_48 (i := 0) rfl 2 rfl ?_
      refine wp_getP d_M_readLiteral_49 fl_M_13 cl_9 rfl (ly_o hly (by decide)) (ly_r (v := 80) hly (by decide +kernel)) ?_
      refine wp_aload_n d_M_readLiteral_52 (i := 0) rfl 2 rfl ?_
      refine wp_getI d_M_readLiteral_53 fl_M_180 cl_9 rfl (ly_o hly (by decide)) ?_
      obtain ⟨hi5, h⟩ := h
      refine wp_iaload d_M_readLiteral_56 (ly_a (n := 602) (N := 602) hly (by decide) hi5) ?_
      refine wp_iconst d_M_readLiteral_57 (by decide) ?_
      refine wp_icmp_ne (tgt := 96) d_M_readLiteral_58 (by decide) (fun hc => ?_) (fun hc => ?_)
      · replace h := h.1 hc
        exact wp_pick [2, 1, 0] rfl h
      · replace h := h.2 hc
        refine wp_aload_n d_M_readLiteral_61 (i := 0) rfl 2 rfl ?_
        refine wp_getP d_M_readLiteral_62 fl_M_13 cl_9 rfl (ly_o hly (by decide)) (ly_r (v := 80) hly (by decide +kernel)) ?_
        refine wp_aload_n d_M_readLiteral_65 (i := 0) rfl 2 rfl ?_
        refine wp_getI d_M_readLiteral_66 fl_M_180 cl_9 rfl (ly_o hly (by decide)) ?_
        refine wp_iconst d_M_readLiteral_69 (by decide) ?_
        obtain ⟨ho, h⟩ := h
        refine wp_iadd d_M_readLiteral_70 ho ?_
        obtain ⟨hi6, h⟩ := h
        refine wp_iaload d_M_readLiteral_71 (ly_a (n := 602) (N := 602) hly (by decide) hi6) ?_
        refine wp_iconst d_M_readLiteral_72 (by decide) ?_
        refine wp_icmp_ne (tgt := 96) d_M_readLiteral_73 (by decide) (fun hc => ?_) (fun hc => ?_)
        · replace h := h.1 hc
          exact wp_pick [2, 1, 0] rfl h
        · replace h := h.2 hc
          refine wp_aload_n d_M_readLiteral_76 (i := 0) rfl 2 rfl ?_
          refine wp_getP d_M_readLiteral_77 fl_M_19 cl_9 rfl (ly_o hly (by decide)) (ly_r (v := 82) hly (by decide +kernel)) ?_
          refine wp_aload_n d_M_readLiteral_80 (i := 0) rfl 2 rfl ?_
          refine wp_getI d_M_readLiteral_81 fl_M_180 cl_9 rfl (ly_o hly (by decide)) ?_
          refine wp_iconst d_M_readLiteral_84 (by decide) ?_
          obtain ⟨ho, h⟩ := h
          refine wp_iadd d_M_readLiteral_85 ho ?_
          obtain ⟨hi7, h⟩ := h
          refine wp_iaload d_M_readLiteral_86 (ly_a (n := 602) (N := 602) hly (by decide) hi7) ?_
          refine wp_bipush d_M_readLiteral_87 (by decide) (by decide) ?_
          refine wp_icmp_ne (tgt := 96) d_M_readLiteral_89 (by decide) (fun hc => ?_) (fun hc => ?_)
          · replace h := h.1 hc
            exact wp_pick [2, 1, 0] rfl h
          · replace h := h.2 hc
            exact wp_pick [2, 1, 0] rfl h
  · replace h := h.2 hc
    refine wp_aload_n d_M_readLiteral_14 (i := 0) rfl 0 rfl ?_
    refine wp_callV (A := []) (S := []) d_M_readLiteral_15 cv_M_readLiteral_192 (ly_o hly (by decide)) rfl (Nat.le_of_ble_eq_true rfl) (by decide) (MetS.mono h (fun r w8 hh => ?_))
    obtain ⟨z9, er, h⟩ := hh
    subst er
    refine wp_ly (fun hly => ?_)
    exact wp_zret d_M_readLiteral_18 rfl (by decide) h.1 h.2
set_option maxRecDepth 20000 in
set_option maxHeartbeats 2000000 in
theorem t_M_readLiteral_92 {x1 : Int} {x2 : Int}  {w : Wo} {Q : Option AV → Wo → Prop} (h : Wp m_M_readLiteral 97 [(0, vr 78), (1, vi x1), (2, vi x2)] [vi 1] (0, 0) w Q) : Wp m_M_readLiteral 92 [(0, vr 78), (1, vi x1), (2, vi x2)] [] (0, 0) w Q := by
  refine wp_ly (fun hly => ?_)
  refine wp_iconst d_M_readLiteral_92 (by decide) ?_
  refine wp_goto (tgt := 97) d_M_readLiteral_93 (by decide) ?_
  exact h
set_option maxRecDepth 20000 in
set_option maxHeartbeats 2000000 in
theorem t_M_readLiteral_96 {x1 : Int} {x2 : Int}  {w : Wo} {Q : Option AV → Wo → Prop} (h : Wp m_M_readLiteral 97 [(0, vr 78), (1, vi x1), (2, vi x2)] [vi 0] (0, 0) w Q) : Wp m_M_readLiteral 96 [(0, vr 78), (1, vi x1), (2, vi x2)] [] (0, 0) w Q := by
  refine wp_ly (fun hly => ?_)
  refine wp_iconst d_M_readLiteral_96 (by decide) ?_
  exact h
set_option maxRecDepth 20000 in
set_option maxHeartbeats 2000000 in
theorem t_M_readLiteral_97 {x1 : Int} {x2 : Int} {s0 : Int}  {w : Wo} {Q : Option AV → Wo → Prop} (h : (0 ≤ (gI w 78 10) ∧ (gI w 78 10) < 602) ∧ (0 ≤ x1 ∧ x1 < 366) ∧ (∀ w3 : Wo, w3 = uI w 108 x1.toNat (gI w 81 (gI w 78 10).toNat) → ((s0 = 0 → (0 ≤ (gI w3 78 10) ∧ (gI w3 78 10) < 602) ∧ ((¬ (gI w3 80 (gI w3 78 10).toNat) = 2 → Wp m_M_readLiteral 318 [(0, vr 78), (1, vi x1)] [vi 0] (0, 0) w3 Q) ∧ ((gI w3 80 (gI w3 78 10).toNat) = 2 → Wp m_M_readLiteral 318 [(0, vr 78), (1, vi x1)] [vi 1] (0, 0) w3 Q))) ∧ (¬ s0 = 0 → ((x2 = 0 → ((¬ (gI w3 78 46) = 3 → Wp m_M_readLiteral 147 [(0, vr 78), (1, vi x1), (2, vi x2)] [] (0, 0) w3 Q) ∧ ((gI w3 78 46) = 3 → MetI m_M_refuse [vr 78] w3 (fun z7 w6 => (z7 = 0 ∨ z7 = 1) ∧ Q (some (vi z7)) w6)))) ∧ (¬ x2 = 0 → inr32 ((gI w3 78 10) + 1) ∧ (∀ w8 : Wo, w8 = uI w3 78 10 ((gI w3 78 10) + 1) → Wp m_M_readLiteral 147 [(0, vr 78), (1, vi x1), (2, vi x2)] [] (0, 0) w8 Q))))))) : Wp m_M_readLiteral 97 [(0, vr 78), (1, vi x1), (2, vi x2)] [vi s0] (0, 0) w Q := by
  refine wp_ly (fun hly => ?_)
  refine wp_istore_n (L' := [(3, vi s0), (0, vr 78), (1, vi x1), (2, vi x2)]) d_M_readLiteral_97 (i := 3) rfl rfl (by decide) ?_
  refine wp_aload_n d_M_readLiteral_98 (i := 0) rfl 1 rfl ?_
  refine wp_getP d_M_readLiteral_99 fl_M_99 cl_9 rfl (ly_o hly (by decide)) (ly_r (v := 108) hly (by decide +kernel)) ?_
  refine wp_iload_n d_M_readLiteral_102 (i := 1) rfl 2 rfl ?_
  refine wp_aload_n d_M_readLiteral_103 (i := 0) rfl 1 rfl ?_
  refine wp_getP d_M_readLiteral_104 fl_M_16 cl_9 rfl (ly_o hly (by decide)) (ly_r (v := 81) hly (by decide +kernel)) ?_
  refine wp_aload_n d_M_readLiteral_107 (i := 0) rfl 1 rfl ?_
  refine wp_getI d_M_readLiteral_108 fl_M_180 cl_9 rfl (ly_o hly (by decide)) ?_
  obtain ⟨hi1, h⟩ := h
  refine wp_iaload d_M_readLiteral_111 (ly_a (n := 602) (N := 602) hly (by decide) hi1) ?_
  obtain ⟨hi2, h⟩ := h
  refine wp_iastore d_M_readLiteral_112 (ly_a (n := 366) (N := 366) hly (by decide) hi2) (fun w3 e4 => ?_)
  replace h := h w3 e4
  refine wp_ly (fun hly => ?_)
  refine wp_iload_n d_M_readLiteral_113 (i := 3) rfl 0 rfl ?_
  refine wp_if_eq (tgt := 300) d_M_readLiteral_114 (by decide) (fun hc => ?_) (fun hc => ?_)
  · replace h := h.1 hc
    refine wp_aload_n d_M_readLiteral_300 (i := 0) rfl 1 rfl ?_
    refine wp_getP d_M_readLiteral_301 fl_M_13 cl_9 rfl (ly_o hly (by decide)) (ly_r (v := 80) hly (by decide +kernel)) ?_
    refine wp_aload_n d_M_readLiteral_304 (i := 0) rfl 1 rfl ?_
    refine wp_getI d_M_readLiteral_305 fl_M_180 cl_9 rfl (ly_o hly (by decide)) ?_
    obtain ⟨hi5, h⟩ := h
    refine wp_iaload d_M_readLiteral_308 (ly_a (n := 602) (N := 602) hly (by decide) hi5) ?_
    refine wp_iconst d_M_readLiteral_309 (by decide) ?_
    refine wp_icmp_ne (tgt := 317) d_M_readLiteral_310 (by decide) (fun hc => ?_) (fun hc => ?_)
    · replace h := h.1 hc
      refine wp_iconst d_M_readLiteral_317 (by decide) ?_
      exact wp_pick [1, 2] rfl h
    · replace h := h.2 hc
      refine wp_iconst d_M_readLiteral_313 (by decide) ?_
      refine wp_goto (tgt := 318) d_M_readLiteral_314 (by decide) ?_
      exact wp_pick [1, 2] rfl h
  · replace h := h.2 hc
    refine wp_iload_n d_M_readLiteral_117 (i := 2) rfl 3 rfl ?_
    refine wp_if_eq (tgt := 134) d_M_readLiteral_118 (by decide) (fun hc => ?_) (fun hc => ?_)
    · replace h := h.1 hc
      refine wp_aload_n d_M_readLiteral_134 (i := 0) rfl 1 rfl ?_
      refine wp_getI d_M_readLiteral_135 fl_M_250 cl_9 rfl (ly_o hly (by decide)) ?_
      refine wp_iconst d_M_readLiteral_138 (by decide) ?_
      refine wp_icmp_ne (tgt := 147) d_M_readLiteral_139 (by decide) (fun hc => ?_) (fun hc => ?_)
      · replace h := h.1 hc
        exact wp_pick [1, 2, 3] rfl h
      · replace h := h.2 hc
        refine wp_aload_n d_M_readLiteral_142 (i := 0) rfl 1 rfl ?_
        refine wp_callV (A := []) (S := []) d_M_readLiteral_143 cv_M_readLiteral_192 (ly_o hly (by decide)) rfl (Nat.le_of_ble_eq_true rfl) (by decide) (MetS.mono h (fun r w6 hh => ?_))
        obtain ⟨z7, er, h⟩ := hh
        subst er
        refine wp_ly (fun hly => ?_)
        exact wp_zret d_M_readLiteral_146 rfl (by decide) h.1 h.2
    · replace h := h.2 hc
      refine wp_aload_n d_M_readLiteral_121 (i := 0) rfl 1 rfl ?_
      refine wp_dup d_M_readLiteral_122 rfl ?_
      refine wp_getI d_M_readLiteral_123 fl_M_180 cl_9 rfl (ly_o hly (by decide)) ?_
      refine wp_iconst d_M_readLiteral_126 (by decide) ?_
      obtain ⟨ho, h⟩ := h
      refine wp_iadd d_M_readLiteral_127 ho ?_
      refine wp_putI d_M_readLiteral_128 fl_M_180 cl_9 ⟨rfl, rfl⟩ (ly_o hly (by decide)) (fun w8 e9 => ?_)
      replace h := h w8 e9
      refine wp_ly (fun hly => ?_)
      refine wp_goto (tgt := 147) d_M_readLiteral_131 (by decide) ?_
      exact wp_pick [1, 2, 3] rfl h
set_option maxRecDepth 20000 in
set_option maxHeartbeats 2000000 in
theorem t_M_readLiteral_147 {x1 : Int} {x2 : Int}  {w : Wo} {Q : Option AV → Wo → Prop} (h : ((¬ x2 = 0 → MetI m_M_readArguments [vr 78, vi 0, vi 1] w (fun z2 w1 => ((¬ z2 = 0 → ((x2 = 0 → inr32 ((gI w1 78 46) + 1) ∧ (∀ w3 : Wo, w3 = uI w1 78 46 ((gI w1 78 46) + 1) → ((x2 = 0 → (0 ≤ x1 ∧ x1 < 366) ∧ (∀ w6 : Wo, w6 = uI w3 96 x1.toNat 0 → (0 ≤ x1 ∧ x1 < 366) ∧ (∀ w9 : Wo, w9 = uI w6 97 x1.toNat (gI w6 78 45) → (0 ≤ x1 ∧ x1 < 366) ∧ (∀ w12 : Wo, w12 = uI w9 109 x1.toNat (gI w9 78 38) → Wp m_M_readLiteral 234 [(0, vr 78), (1, vi x1), (4, vi 0)] [] (0, 0) w12 Q)))) ∧ (¬ x2 = 0 → (0 ≤ x1 ∧ x1 < 366) ∧ (∀ w15 : Wo, w15 = uI w3 96 x1.toNat 1 → (0 ≤ x1 ∧ x1 < 366) ∧ (∀ w18 : Wo, w18 = uI w15 97 x1.toNat (gI w15 78 45) → (0 ≤ x1 ∧ x1 < 366) ∧ (∀ w21 : Wo, w21 = uI w18 109 x1.toNat (gI w18 78 38) → Wp m_M_readLiteral 234 [(0, vr 78), (1, vi x1), (4, vi 0)] [] (0, 0) w21 Q))))))) ∧ (¬ x2 = 0 → inr32 ((gI w1 78 46) + 0) ∧ (∀ w23 : Wo, w23 = uI w1 78 46 ((gI w1 78 46) + 0) → ((x2 = 0 → (0 ≤ x1 ∧ x1 < 366) ∧ (∀ w26 : Wo, w26 = uI w23 96 x1.toNat 0 → (0 ≤ x1 ∧ x1 < 366) ∧ (∀ w29 : Wo, w29 = uI w26 97 x1.toNat (gI w26 78 45) → (0 ≤ x1 ∧ x1 < 366) ∧ (∀ w32 : Wo, w32 = uI w29 109 x1.toNat (gI w29 78 38) → Wp m_M_readLiteral 234 [(0, vr 78), (1, vi x1), (4, vi 0)] [] (0, 0) w32 Q)))) ∧ (¬ x2 = 0 → (0 ≤ x1 ∧ x1 < 366) ∧ (∀ w35 : Wo, w35 = uI w23 96 x1.toNat 1 → (0 ≤ x1 ∧ x1 < 366) ∧ (∀ w38 : Wo, w38 = uI w35 97 x1.toNat (gI w35 78 45) → (0 ≤ x1 ∧ x1 < 366) ∧ (∀ w41 : Wo, w41 = uI w38 109 x1.toNat (gI w38 78 38) → Wp m_M_readLiteral 234 [(0, vr 78), (1, vi x1), (4, vi 0)] [] (0, 0) w41 Q))))))))) ∧ (z2 = 0 → Q (some (vi 0)) w1)))) ∧ (x2 = 0 → (0 ≤ (gI w 78 31) ∧ (gI w 78 31) < 61) ∧ ((¬ (gI w 92 (gI w 78 31).toNat) = 0 → MetI m_M_readArguments [vr 78, vi 0, vi 0] w (fun z45 w44 => ((¬ z45 = 0 → ((x2 = 0 → inr32 ((gI w44 78 46) + 1) ∧ (∀ w46 : Wo, w46 = uI w44 78 46 ((gI w44 78 46) + 1) → ((x2 = 0 → (0 ≤ x1 ∧ x1 < 366) ∧ (∀ w49 : Wo, w49 = uI w46 96 x1.toNat 0 → (0 ≤ x1 ∧ x1 < 366) ∧ (∀ w52 : Wo, w52 = uI w49 97 x1.toNat (gI w49 78 45) → (0 ≤ x1 ∧ x1 < 366) ∧ (∀ w55 : Wo, w55 = uI w52 109 x1.toNat (gI w52 78 38) → Wp m_M_readLiteral 234 [(0, vr 78), (1, vi x1), (4, vi 0)] [] (0, 0) w55 Q)))) ∧ (¬ x2 = 0 → (0 ≤ x1 ∧ x1 < 366) ∧ (∀ w58 : Wo, w58 = uI w46 96 x1.toNat 1 → (0 ≤ x1 ∧ x1 < 366) ∧ (∀ w61 : Wo, w61 = uI w58 97 x1.toNat (gI w58 78 45) → (0 ≤ x1 ∧ x1 < 366) ∧ (∀ w64 : Wo, w64 = uI w61 109 x1.toNat (gI w61 78 38) → Wp m_M_readLiteral 234 [(0, vr 78), (1, vi x1), (4, vi 0)] [] (0, 0) w64 Q))))))) ∧ (¬ x2 = 0 → inr32 ((gI w44 78 46) + 0) ∧ (∀ w66 : Wo, w66 = uI w44 78 46 ((gI w44 78 46) + 0) → ((x2 = 0 → (0 ≤ x1 ∧ x1 < 366) ∧ (∀ w69 : Wo, w69 = uI w66 96 x1.toNat 0 → (0 ≤ x1 ∧ x1 < 366) ∧ (∀ w72 : Wo, w72 = uI w69 97 x1.toNat (gI w69 78 45) → (0 ≤ x1 ∧ x1 < 366) ∧ (∀ w75 : Wo, w75 = uI w72 109 x1.toNat (gI w72 78 38) → Wp m_M_readLiteral 234 [(0, vr 78), (1, vi x1), (4, vi 0)] [] (0, 0) w75 Q)))) ∧ (¬ x2 = 0 → (0 ≤ x1 ∧ x1 < 366) ∧ (∀ w78 : Wo, w78 = uI w66 96 x1.toNat 1 → (0 ≤ x1 ∧ x1 < 366) ∧ (∀ w81 : Wo, w81 = uI w78 97 x1.toNat (gI w78 78 45) → (0 ≤ x1 ∧ x1 < 366) ∧ (∀ w84 : Wo, w84 = uI w81 109 x1.toNat (gI w81 78 38) → Wp m_M_readLiteral 234 [(0, vr 78), (1, vi x1), (4, vi 0)] [] (0, 0) w84 Q))))))))) ∧ (z45 = 0 → Q (some (vi 0)) w44)))) ∧ ((gI w 92 (gI w 78 31).toNat) = 0 → MetI m_M_readArguments [vr 78, vi 0, vi 1] w (fun z87 w86 => ((¬ z87 = 0 → ((x2 = 0 → inr32 ((gI w86 78 46) + 1) ∧ (∀ w88 : Wo, w88 = uI w86 78 46 ((gI w86 78 46) + 1) → ((x2 = 0 → (0 ≤ x1 ∧ x1 < 366) ∧ (∀ w91 : Wo, w91 = uI w88 96 x1.toNat 0 → (0 ≤ x1 ∧ x1 < 366) ∧ (∀ w94 : Wo, w94 = uI w91 97 x1.toNat (gI w91 78 45) → (0 ≤ x1 ∧ x1 < 366) ∧ (∀ w97 : Wo, w97 = uI w94 109 x1.toNat (gI w94 78 38) → Wp m_M_readLiteral 234 [(0, vr 78), (1, vi x1), (4, vi 0)] [] (0, 0) w97 Q)))) ∧ (¬ x2 = 0 → (0 ≤ x1 ∧ x1 < 366) ∧ (∀ w100 : Wo, w100 = uI w88 96 x1.toNat 1 → (0 ≤ x1 ∧ x1 < 366) ∧ (∀ w103 : Wo, w103 = uI w100 97 x1.toNat (gI w100 78 45) → (0 ≤ x1 ∧ x1 < 366) ∧ (∀ w106 : Wo, w106 = uI w103 109 x1.toNat (gI w103 78 38) → Wp m_M_readLiteral 234 [(0, vr 78), (1, vi x1), (4, vi 0)] [] (0, 0) w106 Q))))))) ∧ (¬ x2 = 0 → inr32 ((gI w86 78 46) + 0) ∧ (∀ w108 : Wo, w108 = uI w86 78 46 ((gI w86 78 46) + 0) → ((x2 = 0 → (0 ≤ x1 ∧ x1 < 366) ∧ (∀ w111 : Wo, w111 = uI w108 96 x1.toNat 0 → (0 ≤ x1 ∧ x1 < 366) ∧ (∀ w114 : Wo, w114 = uI w111 97 x1.toNat (gI w111 78 45) → (0 ≤ x1 ∧ x1 < 366) ∧ (∀ w117 : Wo, w117 = uI w114 109 x1.toNat (gI w114 78 38) → Wp m_M_readLiteral 234 [(0, vr 78), (1, vi x1), (4, vi 0)] [] (0, 0) w117 Q)))) ∧ (¬ x2 = 0 → (0 ≤ x1 ∧ x1 < 366) ∧ (∀ w120 : Wo, w120 = uI w108 96 x1.toNat 1 → (0 ≤ x1 ∧ x1 < 366) ∧ (∀ w123 : Wo, w123 = uI w120 97 x1.toNat (gI w120 78 45) → (0 ≤ x1 ∧ x1 < 366) ∧ (∀ w126 : Wo, w126 = uI w123 109 x1.toNat (gI w123 78 38) → Wp m_M_readLiteral 234 [(0, vr 78), (1, vi x1), (4, vi 0)] [] (0, 0) w126 Q))))))))) ∧ (z87 = 0 → Q (some (vi 0)) w86)))))))) : Wp m_M_readLiteral 147 [(0, vr 78), (1, vi x1), (2, vi x2)] [] (0, 0) w Q := by
  refine wp_ly (fun hly => ?_)
  refine wp_aload_n d_M_readLiteral_147 (i := 0) rfl 0 rfl ?_
  refine wp_iconst d_M_readLiteral_148 (by decide) ?_
  refine wp_iload_n d_M_readLiteral_149 (i := 2) rfl 2 rfl ?_
  refine wp_if_ne (tgt := 165) d_M_readLiteral_150 (by decide) (fun hc => ?_) (fun hc => ?_)
  · replace h := h.1 hc
    refine wp_iconst d_M_readLiteral_165 (by decide) ?_
    refine wp_goto (tgt := 170) d_M_readLiteral_166 (by decide) ?_
    refine wp_callV (A := [vi 0, vi 1]) (S := []) d_M_readLiteral_170 cv_M_readLiteral_253 (ly_o hly (by decide)) rfl (Nat.le_of_ble_eq_true rfl) (by decide) (MetS.mono h (fun r w1 hh => ?_))
    obtain ⟨z2, er, h⟩ := hh
    subst er
    refine wp_ly (fun hly => ?_)
    refine wp_if_ne (tgt := 178) d_M_readLiteral_173 (by decide) (fun hc => ?_) (fun hc => ?_)
    · replace h := h.1 hc
      refine wp_aload_n d_M_readLiteral_178 (i := 0) rfl 0 rfl ?_
      refine wp_dup d_M_readLiteral_179 rfl ?_
      refine wp_getI d_M_readLiteral_180 fl_M_250 cl_9 rfl (ly_o hly (by decide)) ?_
      refine wp_iload_n d_M_readLiteral_183 (i := 2) rfl 2 rfl ?_
      refine wp_if_eq (tgt := 191) d_M_readLiteral_184 (by decide) (fun hc => ?_) (fun hc => ?_)
      · replace h := h.1 hc
        refine wp_iconst d_M_readLiteral_191 (by decide) ?_
        obtain ⟨ho, h⟩ := h
        refine wp_iadd d_M_readLiteral_192 ho ?_
        refine wp_putI d_M_readLiteral_193 fl_M_250 cl_9 ⟨rfl, rfl⟩ (ly_o hly (by decide)) (fun w3 e4 => ?_)
        replace h := h w3 e4
        refine wp_ly (fun hly => ?_)
        refine wp_aload_n d_M_readLiteral_196 (i := 0) rfl 0 rfl ?_
        refine wp_getP d_M_readLiteral_197 fl_M_62 cl_9 rfl (ly_o hly (by decide)) (ly_r (v := 96) hly (by decide +kernel)) ?_
        refine wp_iload_n d_M_readLiteral_200 (i := 1) rfl 1 rfl ?_
        refine wp_iload_n d_M_readLiteral_201 (i := 2) rfl 2 rfl ?_
        refine wp_if_eq (tgt := 209) d_M_readLiteral_202 (by decide) (fun hc => ?_) (fun hc => ?_)
        · replace h := h.1 hc
          refine wp_iconst d_M_readLiteral_209 (by decide) ?_
          obtain ⟨hi5, h⟩ := h
          refine wp_iastore d_M_readLiteral_210 (ly_a (n := 366) (N := 366) hly (by decide) hi5) (fun w6 e7 => ?_)
          replace h := h w6 e7
          refine wp_ly (fun hly => ?_)
          refine wp_aload_n d_M_readLiteral_211 (i := 0) rfl 0 rfl ?_
          refine wp_getP d_M_readLiteral_212 fl_M_65 cl_9 rfl (ly_o hly (by decide)) (ly_r (v := 97) hly (by decide +kernel)) ?_
          refine wp_iload_n d_M_readLiteral_215 (i := 1) rfl 1 rfl ?_
          refine wp_aload_n d_M_readLiteral_216 (i := 0) rfl 0 rfl ?_
          refine wp_getI d_M_readLiteral_217 fl_M_247 cl_9 rfl (ly_o hly (by decide)) ?_
          obtain ⟨hi8, h⟩ := h
          refine wp_iastore d_M_readLiteral_220 (ly_a (n := 366) (N := 366) hly (by decide) hi8) (fun w9 e10 => ?_)
          replace h := h w9 e10
          refine wp_ly (fun hly => ?_)
          refine wp_aload_n d_M_readLiteral_221 (i := 0) rfl 0 rfl ?_
          refine wp_getP d_M_readLiteral_222 fl_M_102 cl_9 rfl (ly_o hly (by decide)) (ly_r (v := 109) hly (by decide +kernel)) ?_
          refine wp_iload_n d_M_readLiteral_225 (i := 1) rfl 1 rfl ?_
          refine wp_aload_n d_M_readLiteral_226 (i := 0) rfl 0 rfl ?_
          refine wp_getI d_M_readLiteral_227 fl_M_222 cl_9 rfl (ly_o hly (by decide)) ?_
          obtain ⟨hi11, h⟩ := h
          refine wp_iastore d_M_readLiteral_230 (ly_a (n := 366) (N := 366) hly (by decide) hi11) (fun w12 e13 => ?_)
          replace h := h w12 e13
          refine wp_ly (fun hly => ?_)
          refine wp_iconst d_M_readLiteral_231 (by decide) ?_
          refine wp_istore (L' := [(4, vi 0), (0, vr 78), (1, vi x1), (2, vi x2)]) d_M_readLiteral_232 rfl (by decide) ?_
          exact wp_pick [1, 2, 0] rfl h
        · replace h := h.2 hc
          refine wp_iconst d_M_readLiteral_205 (by decide) ?_
          refine wp_goto (tgt := 210) d_M_readLiteral_206 (by decide) ?_
          obtain ⟨hi14, h⟩ := h
          refine wp_iastore d_M_readLiteral_210 (ly_a (n := 366) (N := 366) hly (by decide) hi14) (fun w15 e16 => ?_)
          replace h := h w15 e16
          refine wp_ly (fun hly => ?_)
          refine wp_aload_n d_M_readLiteral_211 (i := 0) rfl 0 rfl ?_
          refine wp_getP d_M_readLiteral_212 fl_M_65 cl_9 rfl (ly_o hly (by decide)) (ly_r (v := 97) hly (by decide +kernel)) ?_
          refine wp_iload_n d_M_readLiteral_215 (i := 1) rfl 1 rfl ?_
          refine wp_aload_n d_M_readLiteral_216 (i := 0) rfl 0 rfl ?_
          refine wp_getI d_M_readLiteral_217 fl_M_247 cl_9 rfl (ly_o hly (by decide)) ?_
          obtain ⟨hi17, h⟩ := h
          refine wp_iastore d_M_readLiteral_220 (ly_a (n := 366) (N := 366) hly (by decide) hi17) (fun w18 e19 => ?_)
          replace h := h w18 e19
          refine wp_ly (fun hly => ?_)
          refine wp_aload_n d_M_readLiteral_221 (i := 0) rfl 0 rfl ?_
          refine wp_getP d_M_readLiteral_222 fl_M_102 cl_9 rfl (ly_o hly (by decide)) (ly_r (v := 109) hly (by decide +kernel)) ?_
          refine wp_iload_n d_M_readLiteral_225 (i := 1) rfl 1 rfl ?_
          refine wp_aload_n d_M_readLiteral_226 (i := 0) rfl 0 rfl ?_
          refine wp_getI d_M_readLiteral_227 fl_M_222 cl_9 rfl (ly_o hly (by decide)) ?_
          obtain ⟨hi20, h⟩ := h
          refine wp_iastore d_M_readLiteral_230 (ly_a (n := 366) (N := 366) hly (by decide) hi20) (fun w21 e22 => ?_)
          replace h := h w21 e22
          refine wp_ly (fun hly => ?_)
          refine wp_iconst d_M_readLiteral_231 (by decide) ?_
          refine wp_istore (L' := [(4, vi 0), (0, vr 78), (1, vi x1), (2, vi x2)]) d_M_readLiteral_232 rfl (by decide) ?_
          exact wp_pick [1, 2, 0] rfl h
      · replace h := h.2 hc
        refine wp_iconst d_M_readLiteral_187 (by decide) ?_
        refine wp_goto (tgt := 192) d_M_readLiteral_188 (by decide) ?_
        obtain ⟨ho, h⟩ := h
        refine wp_iadd d_M_readLiteral_192 ho ?_
        refine wp_putI d_M_readLiteral_193 fl_M_250 cl_9 ⟨rfl, rfl⟩ (ly_o hly (by decide)) (fun w23 e24 => ?_)
        replace h := h w23 e24
        refine wp_ly (fun hly => ?_)
        refine wp_aload_n d_M_readLiteral_196 (i := 0) rfl 0 rfl ?_
        refine wp_getP d_M_readLiteral_197 fl_M_62 cl_9 rfl (ly_o hly (by decide)) (ly_r (v := 96) hly (by decide +kernel)) ?_
        refine wp_iload_n d_M_readLiteral_200 (i := 1) rfl 1 rfl ?_
        refine wp_iload_n d_M_readLiteral_201 (i := 2) rfl 2 rfl ?_
        refine wp_if_eq (tgt := 209) d_M_readLiteral_202 (by decide) (fun hc => ?_) (fun hc => ?_)
        · replace h := h.1 hc
          refine wp_iconst d_M_readLiteral_209 (by decide) ?_
          obtain ⟨hi25, h⟩ := h
          refine wp_iastore d_M_readLiteral_210 (ly_a (n := 366) (N := 366) hly (by decide) hi25) (fun w26 e27 => ?_)
          replace h := h w26 e27
          refine wp_ly (fun hly => ?_)
          refine wp_aload_n d_M_readLiteral_211 (i := 0) rfl 0 rfl ?_
          refine wp_getP d_M_readLiteral_212 fl_M_65 cl_9 rfl (ly_o hly (by decide)) (ly_r (v := 97) hly (by decide +kernel)) ?_
          refine wp_iload_n d_M_readLiteral_215 (i := 1) rfl 1 rfl ?_
          refine wp_aload_n d_M_readLiteral_216 (i := 0) rfl 0 rfl ?_
          refine wp_getI d_M_readLiteral_217 fl_M_247 cl_9 rfl (ly_o hly (by decide)) ?_
          obtain ⟨hi28, h⟩ := h
          refine wp_iastore d_M_readLiteral_220 (ly_a (n := 366) (N := 366) hly (by decide) hi28) (fun w29 e30 => ?_)
          replace h := h w29 e30
          refine wp_ly (fun hly => ?_)
          refine wp_aload_n d_M_readLiteral_221 (i := 0) rfl 0 rfl ?_
          refine wp_getP d_M_readLiteral_222 fl_M_102 cl_9 rfl (ly_o hly (by decide)) (ly_r (v := 109) hly (by decide +kernel)) ?_
          refine wp_iload_n d_M_readLiteral_225 (i := 1) rfl 1 rfl ?_
          refine wp_aload_n d_M_readLiteral_226 (i := 0) rfl 0 rfl ?_
          refine wp_getI d_M_readLiteral_227 fl_M_222 cl_9 rfl (ly_o hly (by decide)) ?_
          obtain ⟨hi31, h⟩ := h
          refine wp_iastore d_M_readLiteral_230 (ly_a (n := 366) (N := 366) hly (by decide) hi31) (fun w32 e33 => ?_)
          replace h := h w32 e33
          refine wp_ly (fun hly => ?_)
          refine wp_iconst d_M_readLiteral_231 (by decide) ?_
          refine wp_istore (L' := [(4, vi 0), (0, vr 78), (1, vi x1), (2, vi x2)]) d_M_readLiteral_232 rfl (by decide) ?_
          exact wp_pick [1, 2, 0] rfl h
        · replace h := h.2 hc
          refine wp_iconst d_M_readLiteral_205 (by decide) ?_
          refine wp_goto (tgt := 210) d_M_readLiteral_206 (by decide) ?_
          obtain ⟨hi34, h⟩ := h
          refine wp_iastore d_M_readLiteral_210 (ly_a (n := 366) (N := 366) hly (by decide) hi34) (fun w35 e36 => ?_)
          replace h := h w35 e36
          refine wp_ly (fun hly => ?_)
          refine wp_aload_n d_M_readLiteral_211 (i := 0) rfl 0 rfl ?_
          refine wp_getP d_M_readLiteral_212 fl_M_65 cl_9 rfl (ly_o hly (by decide)) (ly_r (v := 97) hly (by decide +kernel)) ?_
          refine wp_iload_n d_M_readLiteral_215 (i := 1) rfl 1 rfl ?_
          refine wp_aload_n d_M_readLiteral_216 (i := 0) rfl 0 rfl ?_
          refine wp_getI d_M_readLiteral_217 fl_M_247 cl_9 rfl (ly_o hly (by decide)) ?_
          obtain ⟨hi37, h⟩ := h
          refine wp_iastore d_M_readLiteral_220 (ly_a (n := 366) (N := 366) hly (by decide) hi37) (fun w38 e39 => ?_)
          replace h := h w38 e39
          refine wp_ly (fun hly => ?_)
          refine wp_aload_n d_M_readLiteral_221 (i := 0) rfl 0 rfl ?_
          refine wp_getP d_M_readLiteral_222 fl_M_102 cl_9 rfl (ly_o hly (by decide)) (ly_r (v := 109) hly (by decide +kernel)) ?_
          refine wp_iload_n d_M_readLiteral_225 (i := 1) rfl 1 rfl ?_
          refine wp_aload_n d_M_readLiteral_226 (i := 0) rfl 0 rfl ?_
          refine wp_getI d_M_readLiteral_227 fl_M_222 cl_9 rfl (ly_o hly (by decide)) ?_
          obtain ⟨hi40, h⟩ := h
          refine wp_iastore d_M_readLiteral_230 (ly_a (n := 366) (N := 366) hly (by decide) hi40) (fun w41 e42 => ?_)
          replace h := h w41 e42
          refine wp_ly (fun hly => ?_)
          refine wp_iconst d_M_readLiteral_231 (by decide) ?_
          refine wp_istore (L' := [(4, vi 0), (0, vr 78), (1, vi x1), (2, vi x2)]) d_M_readLiteral_232 rfl (by decide) ?_
          exact wp_pick [1, 2, 0] rfl h
    · replace h := h.2 hc
      refine wp_iconst d_M_readLiteral_176 (by decide) ?_
      exact wp_zret d_M_readLiteral_177 rfl (by decide) (by decide) h
  · replace h := h.2 hc
    refine wp_aload_n d_M_readLiteral_153 (i := 0) rfl 0 rfl ?_
    refine wp_getP d_M_readLiteral_154 fl_M_50 cl_9 rfl (ly_o hly (by decide)) (ly_r (v := 92) hly (by decide +kernel)) ?_
    refine wp_aload_n d_M_readLiteral_157 (i := 0) rfl 0 rfl ?_
    refine wp_getI d_M_readLiteral_158 fl_M_196 cl_9 rfl (ly_o hly (by decide)) ?_
    obtain ⟨hi43, h⟩ := h
    refine wp_iaload d_M_readLiteral_161 (ly_a (n := 61) (N := 61) hly (by decide) hi43) ?_
    refine wp_if_ne (tgt := 169) d_M_readLiteral_162 (by decide) (fun hc => ?_) (fun hc => ?_)
    · replace h := h.1 hc
      refine wp_iconst d_M_readLiteral_169 (by decide) ?_
      refine wp_callV (A := [vi 0, vi 0]) (S := []) d_M_readLiteral_170 cv_M_readLiteral_253 (ly_o hly (by decide)) rfl (Nat.le_of_ble_eq_true rfl) (by decide) (MetS.mono h (fun r w44 hh => ?_))
      obtain ⟨z45, er, h⟩ := hh
      subst er
      refine wp_ly (fun hly => ?_)
      refine wp_if_ne (tgt := 178) d_M_readLiteral_173 (by decide) (fun hc => ?_) (fun hc => ?_)
      · replace h := h.1 hc
        refine wp_aload_n d_M_readLiteral_178 (i := 0) rfl 0 rfl ?_
        refine wp_dup d_M_readLiteral_179 rfl ?_
        refine wp_getI d_M_readLiteral_180 fl_M_250 cl_9 rfl (ly_o hly (by decide)) ?_
        refine wp_iload_n d_M_readLiteral_183 (i := 2) rfl 2 rfl ?_
        refine wp_if_eq (tgt := 191) d_M_readLiteral_184 (by decide) (fun hc => ?_) (fun hc => ?_)
        · replace h := h.1 hc
          refine wp_iconst d_M_readLiteral_191 (by decide) ?_
          obtain ⟨ho, h⟩ := h
          refine wp_iadd d_M_readLiteral_192 ho ?_
          refine wp_putI d_M_readLiteral_193 fl_M_250 cl_9 ⟨rfl, rfl⟩ (ly_o hly (by decide)) (fun w46 e47 => ?_)
          replace h := h w46 e47
          refine wp_ly (fun hly => ?_)
          refine wp_aload_n d_M_readLiteral_196 (i := 0) rfl 0 rfl ?_
          refine wp_getP d_M_readLiteral_197 fl_M_62 cl_9 rfl (ly_o hly (by decide)) (ly_r (v := 96) hly (by decide +kernel)) ?_
          refine wp_iload_n d_M_readLiteral_200 (i := 1) rfl 1 rfl ?_
          refine wp_iload_n d_M_readLiteral_201 (i := 2) rfl 2 rfl ?_
          refine wp_if_eq (tgt := 209) d_M_readLiteral_202 (by decide) (fun hc => ?_) (fun hc => ?_)
          · replace h := h.1 hc
            refine wp_iconst d_M_readLiteral_209 (by decide) ?_
            obtain ⟨hi48, h⟩ := h
            refine wp_iastore d_M_readLiteral_210 (ly_a (n := 366) (N := 366) hly (by decide) hi48) (fun w49 e50 => ?_)
            replace h := h w49 e50
            refine wp_ly (fun hly => ?_)
            refine wp_aload_n d_M_readLiteral_211 (i := 0) rfl 0 rfl ?_
            refine wp_getP d_M_readLiteral_212 fl_M_65 cl_9 rfl (ly_o hly (by decide)) (ly_r (v := 97) hly (by decide +kernel)) ?_
            refine wp_iload_n d_M_readLiteral_215 (i := 1) rfl 1 rfl ?_
            refine wp_aload_n d_M_readLiteral_216 (i := 0) rfl 0 rfl ?_
            refine wp_getI d_M_readLiteral_217 fl_M_247 cl_9 rfl (ly_o hly (by decide)) ?_
            obtain ⟨hi51, h⟩ := h
            refine wp_iastore d_M_readLiteral_220 (ly_a (n := 366) (N := 366) hly (by decide) hi51) (fun w52 e53 => ?_)
            replace h := h w52 e53
            refine wp_ly (fun hly => ?_)
            refine wp_aload_n d_M_readLiteral_221 (i := 0) rfl 0 rfl ?_
            refine wp_getP d_M_readLiteral_222 fl_M_102 cl_9 rfl (ly_o hly (by decide)) (ly_r (v := 109) hly (by decide +kernel)) ?_
            refine wp_iload_n d_M_readLiteral_225 (i := 1) rfl 1 rfl ?_
            refine wp_aload_n d_M_readLiteral_226 (i := 0) rfl 0 rfl ?_
            refine wp_getI d_M_readLiteral_227 fl_M_222 cl_9 rfl (ly_o hly (by decide)) ?_
            obtain ⟨hi54, h⟩ := h
            refine wp_iastore d_M_readLiteral_230 (ly_a (n := 366) (N := 366) hly (by decide) hi54) (fun w55 e56 => ?_)
            replace h := h w55 e56
            refine wp_ly (fun hly => ?_)
            refine wp_iconst d_M_readLiteral_231 (by decide) ?_
            refine wp_istore (L' := [(4, vi 0), (0, vr 78), (1, vi x1), (2, vi x2)]) d_M_readLiteral_232 rfl (by decide) ?_
            exact wp_pick [1, 2, 0] rfl h
          · replace h := h.2 hc
            refine wp_iconst d_M_readLiteral_205 (by decide) ?_
            refine wp_goto (tgt := 210) d_M_readLiteral_206 (by decide) ?_
            obtain ⟨hi57, h⟩ := h
            refine wp_iastore d_M_readLiteral_210 (ly_a (n := 366) (N := 366) hly (by decide) hi57) (fun w58 e59 => ?_)
            replace h := h w58 e59
            refine wp_ly (fun hly => ?_)
            refine wp_aload_n d_M_readLiteral_211 (i := 0) rfl 0 rfl ?_
            refine wp_getP d_M_readLiteral_212 fl_M_65 cl_9 rfl (ly_o hly (by decide)) (ly_r (v := 97) hly (by decide +kernel)) ?_
            refine wp_iload_n d_M_readLiteral_215 (i := 1) rfl 1 rfl ?_
            refine wp_aload_n d_M_readLiteral_216 (i := 0) rfl 0 rfl ?_
            refine wp_getI d_M_readLiteral_217 fl_M_247 cl_9 rfl (ly_o hly (by decide)) ?_
            obtain ⟨hi60, h⟩ := h
            refine wp_iastore d_M_readLiteral_220 (ly_a (n := 366) (N := 366) hly (by decide) hi60) (fun w61 e62 => ?_)
            replace h := h w61 e62
            refine wp_ly (fun hly => ?_)
            refine wp_aload_n d_M_readLiteral_221 (i := 0) rfl 0 rfl ?_
            refine wp_getP d_M_readLiteral_222 fl_M_102 cl_9 rfl (ly_o hly (by decide)) (ly_r (v := 109) hly (by decide +kernel)) ?_
            refine wp_iload_n d_M_readLiteral_225 (i := 1) rfl 1 rfl ?_
            refine wp_aload_n d_M_readLiteral_226 (i := 0) rfl 0 rfl ?_
            refine wp_getI d_M_readLiteral_227 fl_M_222 cl_9 rfl (ly_o hly (by decide)) ?_
            obtain ⟨hi63, h⟩ := h
            refine wp_iastore d_M_readLiteral_230 (ly_a (n := 366) (N := 366) hly (by decide) hi63) (fun w64 e65 => ?_)
            replace h := h w64 e65
            refine wp_ly (fun hly => ?_)
            refine wp_iconst d_M_readLiteral_231 (by decide) ?_
            refine wp_istore (L' := [(4, vi 0), (0, vr 78), (1, vi x1), (2, vi x2)]) d_M_readLiteral_232 rfl (by decide) ?_
            exact wp_pick [1, 2, 0] rfl h
        · replace h := h.2 hc
          refine wp_iconst d_M_readLiteral_187 (by decide) ?_
          refine wp_goto (tgt := 192) d_M_readLiteral_188 (by decide) ?_
          obtain ⟨ho, h⟩ := h
          refine wp_iadd d_M_readLiteral_192 ho ?_
          refine wp_putI d_M_readLiteral_193 fl_M_250 cl_9 ⟨rfl, rfl⟩ (ly_o hly (by decide)) (fun w66 e67 => ?_)
          replace h := h w66 e67
          refine wp_ly (fun hly => ?_)
          refine wp_aload_n d_M_readLiteral_196 (i := 0) rfl 0 rfl ?_
          refine wp_getP d_M_readLiteral_197 fl_M_62 cl_9 rfl (ly_o hly (by decide)) (ly_r (v := 96) hly (by decide +kernel)) ?_
          refine wp_iload_n d_M_readLiteral_200 (i := 1) rfl 1 rfl ?_
          refine wp_iload_n d_M_readLiteral_201 (i := 2) rfl 2 rfl ?_
          refine wp_if_eq (tgt := 209) d_M_readLiteral_202 (by decide) (fun hc => ?_) (fun hc => ?_)
          · replace h := h.1 hc
            refine wp_iconst d_M_readLiteral_209 (by decide) ?_
            obtain ⟨hi68, h⟩ := h
            refine wp_iastore d_M_readLiteral_210 (ly_a (n := 366) (N := 366) hly (by decide) hi68) (fun w69 e70 => ?_)
            replace h := h w69 e70
            refine wp_ly (fun hly => ?_)
            refine wp_aload_n d_M_readLiteral_211 (i := 0) rfl 0 rfl ?_
            refine wp_getP d_M_readLiteral_212 fl_M_65 cl_9 rfl (ly_o hly (by decide)) (ly_r (v := 97) hly (by decide +kernel)) ?_
            refine wp_iload_n d_M_readLiteral_215 (i := 1) rfl 1 rfl ?_
            refine wp_aload_n d_M_readLiteral_216 (i := 0) rfl 0 rfl ?_
            refine wp_getI d_M_readLiteral_217 fl_M_247 cl_9 rfl (ly_o hly (by decide)) ?_
            obtain ⟨hi71, h⟩ := h
            refine wp_iastore d_M_readLiteral_220 (ly_a (n := 366) (N := 366) hly (by decide) hi71) (fun w72 e73 => ?_)
            replace h := h w72 e73
            refine wp_ly (fun hly => ?_)
            refine wp_aload_n d_M_readLiteral_221 (i := 0) rfl 0 rfl ?_
            refine wp_getP d_M_readLiteral_222 fl_M_102 cl_9 rfl (ly_o hly (by decide)) (ly_r (v := 109) hly (by decide +kernel)) ?_
            refine wp_iload_n d_M_readLiteral_225 (i := 1) rfl 1 rfl ?_
            refine wp_aload_n d_M_readLiteral_226 (i := 0) rfl 0 rfl ?_
            refine wp_getI d_M_readLiteral_227 fl_M_222 cl_9 rfl (ly_o hly (by decide)) ?_
            obtain ⟨hi74, h⟩ := h
            refine wp_iastore d_M_readLiteral_230 (ly_a (n := 366) (N := 366) hly (by decide) hi74) (fun w75 e76 => ?_)
            replace h := h w75 e76
            refine wp_ly (fun hly => ?_)
            refine wp_iconst d_M_readLiteral_231 (by decide) ?_
            refine wp_istore (L' := [(4, vi 0), (0, vr 78), (1, vi x1), (2, vi x2)]) d_M_readLiteral_232 rfl (by decide) ?_
            exact wp_pick [1, 2, 0] rfl h
          · replace h := h.2 hc
            refine wp_iconst d_M_readLiteral_205 (by decide) ?_
            refine wp_goto (tgt := 210) d_M_readLiteral_206 (by decide) ?_
            obtain ⟨hi77, h⟩ := h
            refine wp_iastore d_M_readLiteral_210 (ly_a (n := 366) (N := 366) hly (by decide) hi77) (fun w78 e79 => ?_)
            replace h := h w78 e79
            refine wp_ly (fun hly => ?_)
            refine wp_aload_n d_M_readLiteral_211 (i := 0) rfl 0 rfl ?_
            refine wp_getP d_M_readLiteral_212 fl_M_65 cl_9 rfl (ly_o hly (by decide)) (ly_r (v := 97) hly (by decide +kernel)) ?_
            refine wp_iload_n d_M_readLiteral_215 (i := 1) rfl 1 rfl ?_
            refine wp_aload_n d_M_readLiteral_216 (i := 0) rfl 0 rfl ?_
            refine wp_getI d_M_readLiteral_217 fl_M_247 cl_9 rfl (ly_o hly (by decide)) ?_
            obtain ⟨hi80, h⟩ := h
            refine wp_iastore d_M_readLiteral_220 (ly_a (n := 366) (N := 366) hly (by decide) hi80) (fun w81 e82 => ?_)
            replace h := h w81 e82
            refine wp_ly (fun hly => ?_)
            refine wp_aload_n d_M_readLiteral_221 (i := 0) rfl 0 rfl ?_
            refine wp_getP d_M_readLiteral_222 fl_M_102 cl_9 rfl (ly_o hly (by decide)) (ly_r (v := 109) hly (by decide +kernel)) ?_
            refine wp_iload_n d_M_readLiteral_225 (i := 1) rfl 1 rfl ?_
            refine wp_aload_n d_M_readLiteral_226 (i := 0) rfl 0 rfl ?_
            refine wp_getI d_M_readLiteral_227 fl_M_222 cl_9 rfl (ly_o hly (by decide)) ?_
            obtain ⟨hi83, h⟩ := h
            refine wp_iastore d_M_readLiteral_230 (ly_a (n := 366) (N := 366) hly (by decide) hi83) (fun w84 e85 => ?_)
            replace h := h w84 e85
            refine wp_ly (fun hly => ?_)
            refine wp_iconst d_M_readLiteral_231 (by decide) ?_
            refine wp_istore (L' := [(4, vi 0), (0, vr 78), (1, vi x1), (2, vi x2)]) d_M_readLiteral_232 rfl (by decide) ?_
            exact wp_pick [1, 2, 0] rfl h
      · replace h := h.2 hc
        refine wp_iconst d_M_readLiteral_176 (by decide) ?_
        exact wp_zret d_M_readLiteral_177 rfl (by decide) (by decide) h
    · replace h := h.2 hc
      refine wp_iconst d_M_readLiteral_165 (by decide) ?_
      refine wp_goto (tgt := 170) d_M_readLiteral_166 (by decide) ?_
      refine wp_callV (A := [vi 0, vi 1]) (S := []) d_M_readLiteral_170 cv_M_readLiteral_253 (ly_o hly (by decide)) rfl (Nat.le_of_ble_eq_true rfl) (by decide) (MetS.mono h (fun r w86 hh => ?_))
      obtain ⟨z87, er, h⟩ := hh
      subst er
      refine wp_ly (fun hly => ?_)
      refine wp_if_ne (tgt := 178) d_M_readLiteral_173 (by decide) (fun hc => ?_) (fun hc => ?_)
      · replace h := h.1 hc
        refine wp_aload_n d_M_readLiteral_178 (i := 0) rfl 0 rfl ?_
        refine wp_dup d_M_readLiteral_179 rfl ?_
        refine wp_getI d_M_readLiteral_180 fl_M_250 cl_9 rfl (ly_o hly (by decide)) ?_
        refine wp_iload_n d_M_readLiteral_183 (i := 2) rfl 2 rfl ?_
        refine wp_if_eq (tgt := 191) d_M_readLiteral_184 (by decide) (fun hc => ?_) (fun hc => ?_)
        · replace h := h.1 hc
          refine wp_iconst d_M_readLiteral_191 (by decide) ?_
          obtain ⟨ho, h⟩ := h
          refine wp_iadd d_M_readLiteral_192 ho ?_
          refine wp_putI d_M_readLiteral_193 fl_M_250 cl_9 ⟨rfl, rfl⟩ (ly_o hly (by decide)) (fun w88 e89 => ?_)
          replace h := h w88 e89
          refine wp_ly (fun hly => ?_)
          refine wp_aload_n d_M_readLiteral_196 (i := 0) rfl 0 rfl ?_
          refine wp_getP d_M_readLiteral_197 fl_M_62 cl_9 rfl (ly_o hly (by decide)) (ly_r (v := 96) hly (by decide +kernel)) ?_
          refine wp_iload_n d_M_readLiteral_200 (i := 1) rfl 1 rfl ?_
          refine wp_iload_n d_M_readLiteral_201 (i := 2) rfl 2 rfl ?_
          refine wp_if_eq (tgt := 209) d_M_readLiteral_202 (by decide) (fun hc => ?_) (fun hc => ?_)
          · replace h := h.1 hc
            refine wp_iconst d_M_readLiteral_209 (by decide) ?_
            obtain ⟨hi90, h⟩ := h
            refine wp_iastore d_M_readLiteral_210 (ly_a (n := 366) (N := 366) hly (by decide) hi90) (fun w91 e92 => ?_)
            replace h := h w91 e92
            refine wp_ly (fun hly => ?_)
            refine wp_aload_n d_M_readLiteral_211 (i := 0) rfl 0 rfl ?_
            refine wp_getP d_M_readLiteral_212 fl_M_65 cl_9 rfl (ly_o hly (by decide)) (ly_r (v := 97) hly (by decide +kernel)) ?_
            refine wp_iload_n d_M_readLiteral_215 (i := 1) rfl 1 rfl ?_
            refine wp_aload_n d_M_readLiteral_216 (i := 0) rfl 0 rfl ?_
            refine wp_getI d_M_readLiteral_217 fl_M_247 cl_9 rfl (ly_o hly (by decide)) ?_
            obtain ⟨hi93, h⟩ := h
            refine wp_iastore d_M_readLiteral_220 (ly_a (n := 366) (N := 366) hly (by decide) hi93) (fun w94 e95 => ?_)
            replace h := h w94 e95
            refine wp_ly (fun hly => ?_)
            refine wp_aload_n d_M_readLiteral_221 (i := 0) rfl 0 rfl ?_
            refine wp_getP d_M_readLiteral_222 fl_M_102 cl_9 rfl (ly_o hly (by decide)) (ly_r (v := 109) hly (by decide +kernel)) ?_
            refine wp_iload_n d_M_readLiteral_225 (i := 1) rfl 1 rfl ?_
            refine wp_aload_n d_M_readLiteral_226 (i := 0) rfl 0 rfl ?_
            refine wp_getI d_M_readLiteral_227 fl_M_222 cl_9 rfl (ly_o hly (by decide)) ?_
            obtain ⟨hi96, h⟩ := h
            refine wp_iastore d_M_readLiteral_230 (ly_a (n := 366) (N := 366) hly (by decide) hi96) (fun w97 e98 => ?_)
            replace h := h w97 e98
            refine wp_ly (fun hly => ?_)
            refine wp_iconst d_M_readLiteral_231 (by decide) ?_
            refine wp_istore (L' := [(4, vi 0), (0, vr 78), (1, vi x1), (2, vi x2)]) d_M_readLiteral_232 rfl (by decide) ?_
            exact wp_pick [1, 2, 0] rfl h
          · replace h := h.2 hc
            refine wp_iconst d_M_readLiteral_205 (by decide) ?_
            refine wp_goto (tgt := 210) d_M_readLiteral_206 (by decide) ?_
            obtain ⟨hi99, h⟩ := h
            refine wp_iastore d_M_readLiteral_210 (ly_a (n := 366) (N := 366) hly (by decide) hi99) (fun w100 e101 => ?_)
            replace h := h w100 e101
            refine wp_ly (fun hly => ?_)
            refine wp_aload_n d_M_readLiteral_211 (i := 0) rfl 0 rfl ?_
            refine wp_getP d_M_readLiteral_212 fl_M_65 cl_9 rfl (ly_o hly (by decide)) (ly_r (v := 97) hly (by decide +kernel)) ?_
            refine wp_iload_n d_M_readLiteral_215 (i := 1) rfl 1 rfl ?_
            refine wp_aload_n d_M_readLiteral_216 (i := 0) rfl 0 rfl ?_
            refine wp_getI d_M_readLiteral_217 fl_M_247 cl_9 rfl (ly_o hly (by decide)) ?_
            obtain ⟨hi102, h⟩ := h
            refine wp_iastore d_M_readLiteral_220 (ly_a (n := 366) (N := 366) hly (by decide) hi102) (fun w103 e104 => ?_)
            replace h := h w103 e104
            refine wp_ly (fun hly => ?_)
            refine wp_aload_n d_M_readLiteral_221 (i := 0) rfl 0 rfl ?_
            refine wp_getP d_M_readLiteral_222 fl_M_102 cl_9 rfl (ly_o hly (by decide)) (ly_r (v := 109) hly (by decide +kernel)) ?_
            refine wp_iload_n d_M_readLiteral_225 (i := 1) rfl 1 rfl ?_
            refine wp_aload_n d_M_readLiteral_226 (i := 0) rfl 0 rfl ?_
            refine wp_getI d_M_readLiteral_227 fl_M_222 cl_9 rfl (ly_o hly (by decide)) ?_
            obtain ⟨hi105, h⟩ := h
            refine wp_iastore d_M_readLiteral_230 (ly_a (n := 366) (N := 366) hly (by decide) hi105) (fun w106 e107 => ?_)
            replace h := h w106 e107
            refine wp_ly (fun hly => ?_)
            refine wp_iconst d_M_readLiteral_231 (by decide) ?_
            refine wp_istore (L' := [(4, vi 0), (0, vr 78), (1, vi x1), (2, vi x2)]) d_M_readLiteral_232 rfl (by decide) ?_
            exact wp_pick [1, 2, 0] rfl h
        · replace h := h.2 hc
          refine wp_iconst d_M_readLiteral_187 (by decide) ?_
          refine wp_goto (tgt := 192) d_M_readLiteral_188 (by decide) ?_
          obtain ⟨ho, h⟩ := h
          refine wp_iadd d_M_readLiteral_192 ho ?_
          refine wp_putI d_M_readLiteral_193 fl_M_250 cl_9 ⟨rfl, rfl⟩ (ly_o hly (by decide)) (fun w108 e109 => ?_)
          replace h := h w108 e109
          refine wp_ly (fun hly => ?_)
          refine wp_aload_n d_M_readLiteral_196 (i := 0) rfl 0 rfl ?_
          refine wp_getP d_M_readLiteral_197 fl_M_62 cl_9 rfl (ly_o hly (by decide)) (ly_r (v := 96) hly (by decide +kernel)) ?_
          refine wp_iload_n d_M_readLiteral_200 (i := 1) rfl 1 rfl ?_
          refine wp_iload_n d_M_readLiteral_201 (i := 2) rfl 2 rfl ?_
          refine wp_if_eq (tgt := 209) d_M_readLiteral_202 (by decide) (fun hc => ?_) (fun hc => ?_)
          · replace h := h.1 hc
            refine wp_iconst d_M_readLiteral_209 (by decide) ?_
            obtain ⟨hi110, h⟩ := h
            refine wp_iastore d_M_readLiteral_210 (ly_a (n := 366) (N := 366) hly (by decide) hi110) (fun w111 e112 => ?_)
            replace h := h w111 e112
            refine wp_ly (fun hly => ?_)
            refine wp_aload_n d_M_readLiteral_211 (i := 0) rfl 0 rfl ?_
            refine wp_getP d_M_readLiteral_212 fl_M_65 cl_9 rfl (ly_o hly (by decide)) (ly_r (v := 97) hly (by decide +kernel)) ?_
            refine wp_iload_n d_M_readLiteral_215 (i := 1) rfl 1 rfl ?_
            refine wp_aload_n d_M_readLiteral_216 (i := 0) rfl 0 rfl ?_
            refine wp_getI d_M_readLiteral_217 fl_M_247 cl_9 rfl (ly_o hly (by decide)) ?_
            obtain ⟨hi113, h⟩ := h
            refine wp_iastore d_M_readLiteral_220 (ly_a (n := 366) (N := 366) hly (by decide) hi113) (fun w114 e115 => ?_)
            replace h := h w114 e115
            refine wp_ly (fun hly => ?_)
            refine wp_aload_n d_M_readLiteral_221 (i := 0) rfl 0 rfl ?_
            refine wp_getP d_M_readLiteral_222 fl_M_102 cl_9 rfl (ly_o hly (by decide)) (ly_r (v := 109) hly (by decide +kernel)) ?_
            refine wp_iload_n d_M_readLiteral_225 (i := 1) rfl 1 rfl ?_
            refine wp_aload_n d_M_readLiteral_226 (i := 0) rfl 0 rfl ?_
            refine wp_getI d_M_readLiteral_227 fl_M_222 cl_9 rfl (ly_o hly (by decide)) ?_
            obtain ⟨hi116, h⟩ := h
            refine wp_iastore d_M_readLiteral_230 (ly_a (n := 366) (N := 366) hly (by decide) hi116) (fun w117 e118 => ?_)
            replace h := h w117 e118
            refine wp_ly (fun hly => ?_)
            refine wp_iconst d_M_readLiteral_231 (by decide) ?_
            refine wp_istore (L' := [(4, vi 0), (0, vr 78), (1, vi x1), (2, vi x2)]) d_M_readLiteral_232 rfl (by decide) ?_
            exact wp_pick [1, 2, 0] rfl h
          · replace h := h.2 hc
            refine wp_iconst d_M_readLiteral_205 (by decide) ?_
            refine wp_goto (tgt := 210) d_M_readLiteral_206 (by decide) ?_
            obtain ⟨hi119, h⟩ := h
            refine wp_iastore d_M_readLiteral_210 (ly_a (n := 366) (N := 366) hly (by decide) hi119) (fun w120 e121 => ?_)
            replace h := h w120 e121
            refine wp_ly (fun hly => ?_)
            refine wp_aload_n d_M_readLiteral_211 (i := 0) rfl 0 rfl ?_
            refine wp_getP d_M_readLiteral_212 fl_M_65 cl_9 rfl (ly_o hly (by decide)) (ly_r (v := 97) hly (by decide +kernel)) ?_
            refine wp_iload_n d_M_readLiteral_215 (i := 1) rfl 1 rfl ?_
            refine wp_aload_n d_M_readLiteral_216 (i := 0) rfl 0 rfl ?_
            refine wp_getI d_M_readLiteral_217 fl_M_247 cl_9 rfl (ly_o hly (by decide)) ?_
            obtain ⟨hi122, h⟩ := h
            refine wp_iastore d_M_readLiteral_220 (ly_a (n := 366) (N := 366) hly (by decide) hi122) (fun w123 e124 => ?_)
            replace h := h w123 e124
            refine wp_ly (fun hly => ?_)
            refine wp_aload_n d_M_readLiteral_221 (i := 0) rfl 0 rfl ?_
            refine wp_getP d_M_readLiteral_222 fl_M_102 cl_9 rfl (ly_o hly (by decide)) (ly_r (v := 109) hly (by decide +kernel)) ?_
            refine wp_iload_n d_M_readLiteral_225 (i := 1) rfl 1 rfl ?_
            refine wp_aload_n d_M_readLiteral_226 (i := 0) rfl 0 rfl ?_
            refine wp_getI d_M_readLiteral_227 fl_M_222 cl_9 rfl (ly_o hly (by decide)) ?_
            obtain ⟨hi125, h⟩ := h
            refine wp_iastore d_M_readLiteral_230 (ly_a (n := 366) (N := 366) hly (by decide) hi125) (fun w126 e127 => ?_)
            replace h := h w126 e127
            refine wp_ly (fun hly => ?_)
            refine wp_iconst d_M_readLiteral_231 (by decide) ?_
            refine wp_istore (L' := [(4, vi 0), (0, vr 78), (1, vi x1), (2, vi x2)]) d_M_readLiteral_232 rfl (by decide) ?_
            exact wp_pick [1, 2, 0] rfl h
      · replace h := h.2 hc
        refine wp_iconst d_M_readLiteral_176 (by decide) ?_
        exact wp_zret d_M_readLiteral_177 rfl (by decide) (by decide) h
set_option maxRecDepth 20000 in
set_option maxHeartbeats 2000000 in
theorem t_M_readLiteral_234 {x1 : Int} {x4 : Int}  {w : Wo} {Q : Option AV → Wo → Prop} (h : (((gI w 78 38) ≤ x4 → (0 ≤ (gI w 78 31) ∧ (gI w 78 31) < 61) ∧ inr32 ((gI w 94 (gI w 78 31).toNat) + 1) ∧ (0 ≤ (gI w 78 31) ∧ (gI w 78 31) < 61) ∧ (∀ w3 : Wo, w3 = uI w 94 (gI w 78 31).toNat ((gI w 94 (gI w 78 31).toNat) + 1) → Q (some (vi 1)) w3)) ∧ (¬ (gI w 78 38) ≤ x4 → inr32 (4 * x1) ∧ inr32 ((4 * x1) + x4) ∧ (0 ≤ x4 ∧ x4 < 4) ∧ (0 ≤ ((4 * x1) + x4) ∧ ((4 * x1) + x4) < 1464) ∧ (∀ w7 : Wo, w7 = uI w 98 ((4 * x1) + x4).toNat (gI w 106 x4.toNat) → inr32 (4 * x1) ∧ inr32 ((4 * x1) + x4) ∧ (0 ≤ x4 ∧ x4 < 4) ∧ (0 ≤ ((4 * x1) + x4) ∧ ((4 * x1) + x4) < 1464) ∧ (∀ w11 : Wo, w11 = uJ w7 99 ((4 * x1) + x4).toNat (gJ w7 107 x4.toNat) → inr32 (x4 + 1) ∧ Wp m_M_readLiteral 234 [(0, vr 78), (1, vi x1), (4, vi (x4 + 1))] [] (0, 0) w11 Q))))) : Wp m_M_readLiteral 234 [(0, vr 78), (1, vi x1), (4, vi x4)] [] (0, 0) w Q := by
  refine wp_ly (fun hly => ?_)
  refine wp_iload d_M_readLiteral_234 2 rfl ?_
  refine wp_aload_n d_M_readLiteral_236 (i := 0) rfl 0 rfl ?_
  refine wp_getI d_M_readLiteral_237 fl_M_222 cl_9 rfl (ly_o hly (by decide)) ?_
  refine wp_icmp_ge (tgt := 285) d_M_readLiteral_240 (by decide) (fun hc => ?_) (fun hc => ?_)
  · replace h := h.1 hc
    refine wp_aload_n d_M_readLiteral_285 (i := 0) rfl 0 rfl ?_
    refine wp_getP d_M_readLiteral_286 fl_M_56 cl_9 rfl (ly_o hly (by decide)) (ly_r (v := 94) hly (by decide +kernel)) ?_
    refine wp_aload_n d_M_readLiteral_289 (i := 0) rfl 0 rfl ?_
    refine wp_getI d_M_readLiteral_290 fl_M_196 cl_9 rfl (ly_o hly (by decide)) ?_
    refine wp_dup2 d_M_readLiteral_293 rfl rfl ?_
    obtain ⟨hi1, h⟩ := h
    refine wp_iaload d_M_readLiteral_294 (ly_a (n := 61) (N := 61) hly (by decide) hi1) ?_
    refine wp_iconst d_M_readLiteral_295 (by decide) ?_
    obtain ⟨ho, h⟩ := h
    refine wp_iadd d_M_readLiteral_296 ho ?_
    obtain ⟨hi2, h⟩ := h
    refine wp_iastore d_M_readLiteral_297 (ly_a (n := 61) (N := 61) hly (by decide) hi2) (fun w3 e4 => ?_)
    replace h := h w3 e4
    refine wp_ly (fun hly => ?_)
    refine wp_iconst d_M_readLiteral_298 (by decide) ?_
    exact wp_zret d_M_readLiteral_299 rfl (by decide) (by decide) h
  · replace h := h.2 hc
    refine wp_aload_n d_M_readLiteral_243 (i := 0) rfl 0 rfl ?_
    refine wp_getP d_M_readLiteral_244 fl_M_68 cl_9 rfl (ly_o hly (by decide)) (ly_r (v := 98) hly (by decide +kernel)) ?_
    refine wp_iconst d_M_readLiteral_247 (by decide) ?_
    refine wp_iload_n d_M_readLiteral_248 (i := 1) rfl 1 rfl ?_
    obtain ⟨ho, h⟩ := h
    refine wp_imul d_M_readLiteral_249 ho ?_
    refine wp_iload d_M_readLiteral_250 2 rfl ?_
    obtain ⟨ho, h⟩ := h
    refine wp_iadd d_M_readLiteral_252 ho ?_
    refine wp_aload_n d_M_readLiteral_253 (i := 0) rfl 0 rfl ?_
    refine wp_getP d_M_readLiteral_254 fl_M_93 cl_9 rfl (ly_o hly (by decide)) (ly_r (v := 106) hly (by decide +kernel)) ?_
    refine wp_iload d_M_readLiteral_257 2 rfl ?_
    obtain ⟨hi5, h⟩ := h
    refine wp_iaload d_M_readLiteral_259 (ly_a (n := 4) (N := 4) hly (by decide) hi5) ?_
    obtain ⟨hi6, h⟩ := h
    refine wp_iastore d_M_readLiteral_260 (ly_a (n := 1464) (N := 1464) hly (by decide) hi6) (fun w7 e8 => ?_)
    replace h := h w7 e8
    refine wp_ly (fun hly => ?_)
    refine wp_aload_n d_M_readLiteral_261 (i := 0) rfl 0 rfl ?_
    refine wp_getP d_M_readLiteral_262 fl_M_71 cl_9 rfl (ly_o hly (by decide)) (ly_r (v := 99) hly (by decide +kernel)) ?_
    refine wp_iconst d_M_readLiteral_265 (by decide) ?_
    refine wp_iload_n d_M_readLiteral_266 (i := 1) rfl 1 rfl ?_
    obtain ⟨ho, h⟩ := h
    refine wp_imul d_M_readLiteral_267 ho ?_
    refine wp_iload d_M_readLiteral_268 2 rfl ?_
    obtain ⟨ho, h⟩ := h
    refine wp_iadd d_M_readLiteral_270 ho ?_
    refine wp_aload_n d_M_readLiteral_271 (i := 0) rfl 0 rfl ?_
    refine wp_getP d_M_readLiteral_272 fl_M_96 cl_9 rfl (ly_o hly (by decide)) (ly_r (v := 107) hly (by decide +kernel)) ?_
    refine wp_iload d_M_readLiteral_275 2 rfl ?_
    obtain ⟨hi9, h⟩ := h
    refine wp_laload d_M_readLiteral_277 (ly_a (n := 4) (N := 4) hly (by decide) hi9) ?_
    obtain ⟨hi10, h⟩ := h
    refine wp_lastore d_M_readLiteral_278 (ly_a (n := 1464) (N := 1464) hly (by decide) hi10) (fun w11 e12 => ?_)
    replace h := h w11 e12
    refine wp_ly (fun hly => ?_)
    obtain ⟨ho, h⟩ := h
    refine wp_iinc (L' := [(4, vi (x4 + 1)), (0, vr 78), (1, vi x1)]) d_M_readLiteral_279 2 rfl rfl (by decide) ho ?_
    refine wp_goto (tgt := 234) d_M_readLiteral_282 (by decide) ?_
    exact wp_pick [1, 2, 0] rfl h

set_option maxRecDepth 20000 in
set_option maxHeartbeats 2000000 in
theorem t_Cl_begin_0 {x1 : Int}  {w : Wo} {Q : Option AV → Wo → Prop} (h : MetV m_Lt_begin [vr 10, vi 4, vi x1] w (fun w1 => (∀ w2 : Wo, w2 = uI w1 9 2 0 → (∀ w4 : Wo, w4 = uI w2 9 3 0 → (∀ w6 : Wo, w6 = uI w4 9 4 0 → (∀ w8 : Wo, w8 = uI w6 9 5 0 → (∀ w10 : Wo, w10 = uI w8 9 6 0 → Q none w10))))))) : Wp m_Cl_begin 0 [(0, vr 9), (1, vi x1)] [] (0, 0) w Q := by
  refine wp_ly (fun hly => ?_)
  refine wp_aload_n d_Cl_begin_0 (i := 0) rfl 0 rfl ?_
  refine wp_getP d_Cl_begin_1 fl_Cl_12 cl_1 rfl (ly_o hly (by decide)) (ly_r (v := 10) hly (by decide +kernel)) ?_
  refine wp_iconst d_Cl_begin_4 (by decide) ?_
  refine wp_iload_n d_Cl_begin_5 (i := 1) rfl 1 rfl ?_
  refine wp_callV (A := [vi 4, vi x1]) (S := []) d_Cl_begin_6 cv_Cl_begin_39 (ly_o hly (by decide)) rfl (Nat.le_of_ble_eq_true rfl) (by decide) (MetS.mono h (fun r w1 hh => ?_))
  obtain ⟨er, h⟩ := hh
  subst er
  refine wp_ly (fun hly => ?_)
  refine wp_aload_n d_Cl_begin_9 (i := 0) rfl 0 rfl ?_
  refine wp_iconst d_Cl_begin_10 (by decide) ?_
  refine wp_putI d_Cl_begin_11 fl_Cl_43 cl_1 ⟨rfl, rfl⟩ (ly_o hly (by decide)) (fun w2 e3 => ?_)
  replace h := h w2 e3
  refine wp_ly (fun hly => ?_)
  refine wp_aload_n d_Cl_begin_14 (i := 0) rfl 0 rfl ?_
  refine wp_iconst d_Cl_begin_15 (by decide) ?_
  refine wp_putI d_Cl_begin_16 fl_Cl_47 cl_1 ⟨rfl, rfl⟩ (ly_o hly (by decide)) (fun w4 e5 => ?_)
  replace h := h w4 e5
  refine wp_ly (fun hly => ?_)
  refine wp_aload_n d_Cl_begin_19 (i := 0) rfl 0 rfl ?_
  refine wp_iconst d_Cl_begin_20 (by decide) ?_
  refine wp_putI d_Cl_begin_21 fl_Cl_50 cl_1 ⟨rfl, rfl⟩ (ly_o hly (by decide)) (fun w6 e7 => ?_)
  replace h := h w6 e7
  refine wp_ly (fun hly => ?_)
  refine wp_aload_n d_Cl_begin_24 (i := 0) rfl 0 rfl ?_
  refine wp_iconst d_Cl_begin_25 (by decide) ?_
  refine wp_putI d_Cl_begin_26 fl_Cl_53 cl_1 ⟨rfl, rfl⟩ (ly_o hly (by decide)) (fun w8 e9 => ?_)
  replace h := h w8 e9
  refine wp_ly (fun hly => ?_)
  refine wp_aload_n d_Cl_begin_29 (i := 0) rfl 0 rfl ?_
  refine wp_iconst d_Cl_begin_30 (by decide) ?_
  refine wp_putI d_Cl_begin_31 fl_Cl_56 cl_1 ⟨rfl, rfl⟩ (ly_o hly (by decide)) (fun w10 e11 => ?_)
  replace h := h w10 e11
  refine wp_ly (fun hly => ?_)
  exact wp_vret d_Cl_begin_34 rfl (by decide) h
set_option maxRecDepth 20000 in
set_option maxHeartbeats 2000000 in
theorem t_Cl_variableOf_0 {y1 : Int} {x3 : Int}  {w : Wo} {Q : Option AV → Wo → Prop} (h : Wp m_Cl_variableOf 3 [(0, vr 9), (1, vl y1), (3, vi x3), (4, vi 0)] [] (0, 0) w Q) : Wp m_Cl_variableOf 0 [(0, vr 9), (1, vl y1), (3, vi x3)] [] (0, 0) w Q := by
  refine wp_ly (fun hly => ?_)
  refine wp_iconst d_Cl_variableOf_0 (by decide) ?_
  refine wp_istore (L' := [(4, vi 0), (0, vr 9), (1, vl y1), (3, vi x3)]) d_Cl_variableOf_1 rfl (by decide) ?_
  exact wp_pick [1, 2, 3, 0] rfl h
set_option maxRecDepth 20000 in
set_option maxHeartbeats 2000000 in
theorem t_Cl_variableOf_3 {y1 : Int} {x3 : Int} {x4 : Int}  {w : Wo} {Q : Option AV → Wo → Prop} (h : (((gI w 9 6) ≤ x4 → (((gI w 9 6) < 8 → (0 ≤ (gI w 9 6) ∧ (gI w 9 6) < 8) ∧ (∀ w2 : Wo, w2 = uJ w 14 (gI w 9 6).toNat y1 → (0 ≤ (gI w2 9 6) ∧ (gI w2 9 6) < 8) ∧ (∀ w5 : Wo, w5 = uI w2 15 (gI w2 9 6).toNat x3 → inr32 ((gI w5 9 6) + 1) ∧ (∀ w7 : Wo, w7 = uI w5 9 6 ((gI w5 9 6) + 1) → inr32 ((gI w7 9 6) - 1) ∧ Q (some (vi ((gI w7 9 6) - 1))) w7)))) ∧ (¬ (gI w 9 6) < 8 → Q (some (vi (-1))) w))) ∧ (¬ (gI w 9 6) ≤ x4 → (0 ≤ x4 ∧ x4 < 8) ∧ ((¬ (b_lcmp (gJ w 14 x4.toNat) y1) = 0 → inr32 (x4 + 1) ∧ Wp m_Cl_variableOf 3 [(0, vr 9), (1, vl y1), (3, vi x3), (4, vi (x4 + 1))] [] (0, 0) w Q) ∧ ((b_lcmp (gJ w 14 x4.toNat) y1) = 0 → Q (some (vi x4)) w))))) : Wp m_Cl_variableOf 3 [(0, vr 9), (1, vl y1), (3, vi x3), (4, vi x4)] [] (0, 0) w Q := by
  refine wp_ly (fun hly => ?_)
  refine wp_iload d_Cl_variableOf_3 3 rfl ?_
  refine wp_aload_n d_Cl_variableOf_5 (i := 0) rfl 0 rfl ?_
  refine wp_getI d_Cl_variableOf_6 fl_Cl_56 cl_1 rfl (ly_o hly (by decide)) ?_
  refine wp_icmp_ge (tgt := 33) d_Cl_variableOf_9 (by decide) (fun hc => ?_) (fun hc => ?_)
  · replace h := h.1 hc
    refine wp_aload_n d_Cl_variableOf_33 (i := 0) rfl 0 rfl ?_
    refine wp_getI d_Cl_variableOf_34 fl_Cl_56 cl_1 rfl (ly_o hly (by decide)) ?_
    refine wp_aload_n d_Cl_variableOf_37 (i := 0) rfl 0 rfl ?_
    refine wp_getP d_Cl_variableOf_38 fl_Cl_22 cl_1 rfl (ly_o hly (by decide)) (ly_r (v := 14) hly (by decide +kernel)) ?_
    refine wp_alen (t := 2) (n := 8) d_Cl_variableOf_41 (ly_o hly (by decide)) (by decide) (by decide) ?_
    refine wp_icmp_lt (tgt := 47) d_Cl_variableOf_42 (by decide) (fun hc => ?_) (fun hc => ?_)
    · replace h := h.1 hc
      refine wp_aload_n d_Cl_variableOf_47 (i := 0) rfl 0 rfl ?_
      refine wp_getP d_Cl_variableOf_48 fl_Cl_22 cl_1 rfl (ly_o hly (by decide)) (ly_r (v := 14) hly (by decide +kernel)) ?_
      refine wp_aload_n d_Cl_variableOf_51 (i := 0) rfl 0 rfl ?_
      refine wp_getI d_Cl_variableOf_52 fl_Cl_56 cl_1 rfl (ly_o hly (by decide)) ?_
      refine wp_lload_n d_Cl_variableOf_55 (i := 1) rfl 1 rfl ?_
      obtain ⟨hi1, h⟩ := h
      refine wp_lastore d_Cl_variableOf_56 (ly_a (n := 8) (N := 8) hly (by decide) hi1) (fun w2 e3 => ?_)
      replace h := h w2 e3
      refine wp_ly (fun hly => ?_)
      refine wp_aload_n d_Cl_variableOf_57 (i := 0) rfl 0 rfl ?_
      refine wp_getP d_Cl_variableOf_58 fl_Cl_26 cl_1 rfl (ly_o hly (by decide)) (ly_r (v := 15) hly (by decide +kernel)) ?_
      refine wp_aload_n d_Cl_variableOf_61 (i := 0) rfl 0 rfl ?_
      refine wp_getI d_Cl_variableOf_62 fl_Cl_56 cl_1 rfl (ly_o hly (by decide)) ?_
      refine wp_iload_n d_Cl_variableOf_65 (i := 3) rfl 2 rfl ?_
      obtain ⟨hi4, h⟩ := h
      refine wp_iastore d_Cl_variableOf_66 (ly_a (n := 8) (N := 8) hly (by decide) hi4) (fun w5 e6 => ?_)
      replace h := h w5 e6
      refine wp_ly (fun hly => ?_)
      refine wp_aload_n d_Cl_variableOf_67 (i := 0) rfl 0 rfl ?_
      refine wp_dup d_Cl_variableOf_68 rfl ?_
      refine wp_getI d_Cl_variableOf_69 fl_Cl_56 cl_1 rfl (ly_o hly (by decide)) ?_
      refine wp_iconst d_Cl_variableOf_72 (by decide) ?_
      obtain ⟨ho, h⟩ := h
      refine wp_iadd d_Cl_variableOf_73 ho ?_
      refine wp_putI d_Cl_variableOf_74 fl_Cl_56 cl_1 ⟨rfl, rfl⟩ (ly_o hly (by decide)) (fun w7 e8 => ?_)
      replace h := h w7 e8
      refine wp_ly (fun hly => ?_)
      refine wp_aload_n d_Cl_variableOf_77 (i := 0) rfl 0 rfl ?_
      refine wp_getI d_Cl_variableOf_78 fl_Cl_56 cl_1 rfl (ly_o hly (by decide)) ?_
      refine wp_iconst d_Cl_variableOf_81 (by decide) ?_
      obtain ⟨ho, h⟩ := h
      refine wp_isub d_Cl_variableOf_82 ho ?_
      exact wp_iret d_Cl_variableOf_83 rfl (by decide) h
    · replace h := h.2 hc
      refine wp_iconst d_Cl_variableOf_45 (by decide) ?_
      exact wp_iret d_Cl_variableOf_46 rfl (by decide) h
  · replace h := h.2 hc
    refine wp_aload_n d_Cl_variableOf_12 (i := 0) rfl 0 rfl ?_
    refine wp_getP d_Cl_variableOf_13 fl_Cl_22 cl_1 rfl (ly_o hly (by decide)) (ly_r (v := 14) hly (by decide +kernel)) ?_
    refine wp_iload d_Cl_variableOf_16 3 rfl ?_
    obtain ⟨hi9, h⟩ := h
    refine wp_laload d_Cl_variableOf_18 (ly_a (n := 8) (N := 8) hly (by decide) hi9) ?_
    refine wp_lload_n d_Cl_variableOf_19 (i := 1) rfl 1 rfl ?_
    refine wp_lcmp d_Cl_variableOf_20 ?_
    refine wp_if_ne (tgt := 27) d_Cl_variableOf_21 (by decide) (fun hc => ?_) (fun hc => ?_)
    · replace h := h.1 hc
      obtain ⟨ho, h⟩ := h
      refine wp_iinc (L' := [(4, vi (x4 + 1)), (0, vr 9), (1, vl y1), (3, vi x3)]) d_Cl_variableOf_27 3 rfl rfl (by decide) ho ?_
      refine wp_goto (tgt := 3) d_Cl_variableOf_30 (by decide) ?_
      exact wp_pick [1, 2, 3, 0] rfl h
    · replace h := h.2 hc
      refine wp_iload d_Cl_variableOf_24 3 rfl ?_
      exact wp_iret d_Cl_variableOf_26 rfl (by decide) h
set_option maxRecDepth 20000 in
set_option maxHeartbeats 2000000 in
theorem t_Cl_openPlace_0   {w : Wo} {Q : Option AV → Wo → Prop} (h : ((¬ (gI w 9 6) = 0 → (((gI w 9 4) ≤ 0 → Q (some (vi (gI w 15 0))) w) ∧ (¬ (gI w 9 4) ≤ 0 → Q (some (vi (if (gI w 15 0) < (gI w 9 5) then (gI w 15 0) else (gI w 9 5)))) w))) ∧ ((gI w 9 6) = 0 → Q (some (vi (-1))) w))) : Wp m_Cl_openPlace 0 [(0, vr 9)] [] (0, 0) w Q := by
  refine wp_ly (fun hly => ?_)
  refine wp_aload_n d_Cl_openPlace_0 (i := 0) rfl 0 rfl ?_
  refine wp_getI d_Cl_openPlace_1 fl_Cl_56 cl_1 rfl (ly_o hly (by decide)) ?_
  refine wp_if_ne (tgt := 9) d_Cl_openPlace_4 (by decide) (fun hc => ?_) (fun hc => ?_)
  · replace h := h.1 hc
    refine wp_aload_n d_Cl_openPlace_9 (i := 0) rfl 0 rfl ?_
    refine wp_getI d_Cl_openPlace_10 fl_Cl_50 cl_1 rfl (ly_o hly (by decide)) ?_
    refine wp_if_le (tgt := 32) d_Cl_openPlace_13 (by decide) (fun hc => ?_) (fun hc => ?_)
    · replace h := h.1 hc
      refine wp_aload_n d_Cl_openPlace_32 (i := 0) rfl 0 rfl ?_
      refine wp_getP d_Cl_openPlace_33 fl_Cl_26 cl_1 rfl (ly_o hly (by decide)) (ly_r (v := 15) hly (by decide +kernel)) ?_
      refine wp_iconst d_Cl_openPlace_36 (by decide) ?_
      refine wp_iaload d_Cl_openPlace_37 (ly_a (n := 8) (N := 8) hly (by decide) (by decide)) ?_
      exact wp_iret d_Cl_openPlace_38 rfl (by decide) h
    · replace h := h.2 hc
      refine wp_aload_n d_Cl_openPlace_16 (i := 0) rfl 0 rfl ?_
      refine wp_getI d_Cl_openPlace_17 fl_Cl_53 cl_1 rfl (ly_o hly (by decide)) ?_
      refine wp_aload_n d_Cl_openPlace_20 (i := 0) rfl 0 rfl ?_
      refine wp_getP d_Cl_openPlace_21 fl_Cl_26 cl_1 rfl (ly_o hly (by decide)) (ly_r (v := 15) hly (by decide +kernel)) ?_
      refine wp_iconst d_Cl_openPlace_24 (by decide) ?_
      refine wp_iaload d_Cl_openPlace_25 (ly_a (n := 8) (N := 8) hly (by decide) (by decide)) ?_
      refine wp_mmin d_Cl_openPlace_26 (aw3 (i := 170) rfl rfl) (aw3 (i := 171) rfl rfl) (aw1 (i := 16) rfl rfl) (aw3 (i := 172) rfl rfl) (by decide) (Nat.le_of_ble_eq_true rfl) (by decide) ?_
      refine wp_goto (tgt := 38) d_Cl_openPlace_29 (by decide) ?_
      exact wp_iret d_Cl_openPlace_38 rfl (by decide) h
  · replace h := h.2 hc
    refine wp_iconst d_Cl_openPlace_7 (by decide) ?_
    exact wp_iret d_Cl_openPlace_8 rfl (by decide) h
set_option maxRecDepth 20000 in
set_option maxHeartbeats 2000000 in
theorem t_Cl_plan_0   {w : Wo} {Q : Option AV → Wo → Prop} (h : inr32 ((b_ishl 1 (gI w 9 2)) - 1) ∧ Wp m_Cl_plan 13 [(0, vr 9), (1, vi 0), (2, vi ((b_ishl 1 (gI w 9 2)) - 1)), (3, vi 0)] [] (0, 0) w Q) : Wp m_Cl_plan 0 [(0, vr 9)] [] (0, 0) w Q := by
  refine wp_ly (fun hly => ?_)
  refine wp_iconst d_Cl_plan_0 (by decide) ?_
  refine wp_istore_n (L' := [(1, vi 0), (0, vr 9)]) d_Cl_plan_1 (i := 1) rfl rfl (by decide) ?_
  refine wp_iconst d_Cl_plan_2 (by decide) ?_
  refine wp_aload_n d_Cl_plan_3 (i := 0) rfl 1 rfl ?_
  refine wp_getI d_Cl_plan_4 fl_Cl_43 cl_1 rfl (ly_o hly (by decide)) ?_
  refine wp_ishl d_Cl_plan_7 ?_
  refine wp_iconst d_Cl_plan_8 (by decide) ?_
  obtain ⟨ho, h⟩ := h
  refine wp_isub d_Cl_plan_9 ho ?_
  refine wp_istore_n (L' := [(2, vi ((b_ishl 1 (gI w 9 2)) - 1)), (1, vi 0), (0, vr 9)]) d_Cl_plan_10 (i := 2) rfl rfl (by decide) ?_
  refine wp_iconst d_Cl_plan_11 (by decide) ?_
  refine wp_istore_n (L' := [(3, vi 0), (2, vi ((b_ishl 1 (gI w 9 2)) - 1)), (1, vi 0), (0, vr 9)]) d_Cl_plan_12 (i := 3) rfl rfl (by decide) ?_
  exact wp_pick [3, 2, 1, 0] rfl h
set_option maxRecDepth 20000 in
set_option maxHeartbeats 2000000 in
theorem t_Cl_plan_13 {x1 : Int} {x2 : Int} {x3 : Int}  {w : Wo} {Q : Option AV → Wo → Prop} (h : (((gI w 9 2) ≤ x3 → MetI m_Cl_firstWithout [vr 9, vi x1] w (fun z2 w1 => Q (some (vi z2)) w1)) ∧ (¬ (gI w 9 2) ≤ x3 → MetI m_Cl_nextAsked [vr 9, vi x2, vi x1] w (fun z4 w3 => ((¬ z4 = (-1) → (0 ≤ z4 ∧ z4 < 6) ∧ (0 ≤ x3 ∧ x3 < 6) ∧ (∀ w8 : Wo, w8 = uI w3 16 x3.toNat z4 → MetI m_Lt_isAtom [vr (19 + 3 * z4.toNat)] w8 (fun z11 w10 => ((z11 = 0 → (0 ≤ x3 ∧ x3 < 6) ∧ (∀ w13 : Wo, w13 = uI w10 17 x3.toNat 0 → MetI m_Lt_variablesFrom [vr (19 + 3 * z4.toNat), vi 0] w13 (fun z16 w15 => MetI m_JI_bitCount [vi (b_ior x1 z16)] w15 (fun z18 w17 => (0 ≤ x3 ∧ x3 < 6) ∧ (∀ w20 : Wo, w20 = uI w17 18 x3.toNat z18 → inr32 (x3 + 1) ∧ Wp m_Cl_plan 13 [(0, vr 9), (1, vi (b_ior x1 z16)), (2, vi (b_iand x2 (b_ixor (b_ishl 1 z4) (-1)))), (3, vi (x3 + 1))] [] (0, 0) w20 Q))))) ∧ (¬ z11 = 0 → MetI m_Lt_knownArguments [vr (19 + 3 * z4.toNat), vi x1] w10 (fun z23 w22 => (0 ≤ x3 ∧ x3 < 6) ∧ (∀ w25 : Wo, w25 = uI w22 17 x3.toNat z23 → MetI m_Lt_variablesFrom [vr (19 + 3 * z4.toNat), vi 0] w25 (fun z28 w27 => MetI m_JI_bitCount [vi (b_ior x1 z28)] w27 (fun z30 w29 => (0 ≤ x3 ∧ x3 < 6) ∧ (∀ w32 : Wo, w32 = uI w29 18 x3.toNat z30 → inr32 (x3 + 1) ∧ Wp m_Cl_plan 13 [(0, vr 9), (1, vi (b_ior x1 z28)), (2, vi (b_iand x2 (b_ixor (b_ishl 1 z4) (-1)))), (3, vi (x3 + 1))] [] (0, 0) w32 Q)))))))))) ∧ (z4 = (-1) → MetI m_Cl_firstWithout [vr 9, vi x1] w3 (fun z35 w34 => Q (some (vi z35)) w34))))))) : Wp m_Cl_plan 13 [(0, vr 9), (1, vi x1), (2, vi x2), (3, vi x3)] [] (0, 0) w Q := by
  refine wp_ly (fun hly => ?_)
  refine wp_iload_n d_Cl_plan_13 (i := 3) rfl 3 rfl ?_
  refine wp_aload_n d_Cl_plan_14 (i := 0) rfl 0 rfl ?_
  refine wp_getI d_Cl_plan_15 fl_Cl_43 cl_1 rfl (ly_o hly (by decide)) ?_
  refine wp_icmp_ge (tgt := 113) d_Cl_plan_18 (by decide) (fun hc => ?_) (fun hc => ?_)
  · replace h := h.1 hc
    refine wp_aload_n d_Cl_plan_113 (i := 0) rfl 0 rfl ?_
    refine wp_iload_n d_Cl_plan_114 (i := 1) rfl 1 rfl ?_
    refine wp_callV (A := [vi x1]) (S := []) d_Cl_plan_115 cv_Cl_plan_84 (ly_o hly (by decide)) rfl (Nat.le_of_ble_eq_true rfl) (by decide) (MetS.mono h (fun r w1 hh => ?_))
    obtain ⟨z2, er, h⟩ := hh
    subst er
    refine wp_ly (fun hly => ?_)
    exact wp_iret d_Cl_plan_118 rfl (by decide) h
  · replace h := h.2 hc
    refine wp_aload_n d_Cl_plan_21 (i := 0) rfl 0 rfl ?_
    refine wp_iload_n d_Cl_plan_22 (i := 2) rfl 2 rfl ?_
    refine wp_iload_n d_Cl_plan_23 (i := 1) rfl 1 rfl ?_
    refine wp_callV (A := [vi x2, vi x1]) (S := []) d_Cl_plan_24 cv_Cl_plan_65 (ly_o hly (by decide)) rfl (Nat.le_of_ble_eq_true rfl) (by decide) (MetS.mono h (fun r w3 hh => ?_))
    obtain ⟨z4, er, h⟩ := hh
    subst er
    refine wp_ly (fun hly => ?_)
    refine wp_istore (L' := [(4, vi z4), (0, vr 9), (1, vi x1), (2, vi x2), (3, vi x3)]) d_Cl_plan_27 rfl (by decide) ?_
    refine wp_iload d_Cl_plan_29 0 rfl ?_
    refine wp_iconst d_Cl_plan_31 (by decide) ?_
    refine wp_icmp_ne (tgt := 38) d_Cl_plan_32 (by decide) (fun hc => ?_) (fun hc => ?_)
    · replace h := h.1 hc
      refine wp_aload_n d_Cl_plan_38 (i := 0) rfl 1 rfl ?_
      refine wp_getP d_Cl_plan_39 fl_Cl_18 cl_1 rfl (ly_o hly (by decide)) (ly_r (v := 13) hly (by decide +kernel)) ?_
      refine wp_iload d_Cl_plan_42 0 rfl ?_
      obtain ⟨hi5, h⟩ := h
      have hb6 := body_m hi5
      refine wp_aaload d_Cl_plan_44 (ly_a (n := 6) (N := 6) hly (by decide) hi5) (body_r hi5 hly) ?_
      refine wp_astore (L' := [(5, vr (19 + 3 * z4.toNat)), (4, vi z4), (0, vr 9), (1, vi x1), (2, vi x2), (3, vi x3)]) d_Cl_plan_45 rfl (by decide) ?_
      refine wp_aload_n d_Cl_plan_47 (i := 0) rfl 2 rfl ?_
      refine wp_getP d_Cl_plan_48 fl_Cl_30 cl_1 rfl (ly_o hly (by decide)) (ly_r (v := 16) hly (by decide +kernel)) ?_
      refine wp_iload_n d_Cl_plan_51 (i := 3) rfl 5 rfl ?_
      refine wp_iload d_Cl_plan_52 1 rfl ?_
      obtain ⟨hi7, h⟩ := h
      refine wp_iastore d_Cl_plan_54 (ly_a (n := 6) (N := 6) hly (by decide) hi7) (fun w8 e9 => ?_)
      replace h := h w8 e9
      refine wp_ly (fun hly => ?_)
      refine wp_aload_n d_Cl_plan_55 (i := 0) rfl 2 rfl ?_
      refine wp_getP d_Cl_plan_56 fl_Cl_33 cl_1 rfl (ly_o hly (by decide)) (ly_r (v := 17) hly (by decide +kernel)) ?_
      refine wp_iload_n d_Cl_plan_59 (i := 3) rfl 5 rfl ?_
      refine wp_aload d_Cl_plan_60 0 rfl ?_
      refine wp_callV (A := []) (S := [vi x3, vr 17]) d_Cl_plan_62 cv_Cl_plan_68 (ly_o hly (lt_o hb6)) rfl (Nat.le_of_ble_eq_true rfl) (by decide) (MetS.mono h (fun r w10 hh => ?_))
      obtain ⟨z11, er, h⟩ := hh
      subst er
      refine wp_ly (fun hly => ?_)
      refine wp_if_eq (tgt := 77) d_Cl_plan_65 (by decide) (fun hc => ?_) (fun hc => ?_)
      · replace h := h.1 hc
        refine wp_iconst d_Cl_plan_77 (by decide) ?_
        obtain ⟨hi12, h⟩ := h
        refine wp_iastore d_Cl_plan_78 (ly_a (n := 6) (N := 6) hly (by decide) hi12) (fun w13 e14 => ?_)
        replace h := h w13 e14
        refine wp_ly (fun hly => ?_)
        refine wp_iload_n d_Cl_plan_79 (i := 1) rfl 3 rfl ?_
        refine wp_aload d_Cl_plan_80 0 rfl ?_
        refine wp_iconst d_Cl_plan_82 (by decide) ?_
        refine wp_callV (A := [vi 0]) (S := [vi x1]) d_Cl_plan_83 cv_Cl_plan_76 (ly_o hly (lt_o hb6)) rfl (Nat.le_of_ble_eq_true rfl) (by decide) (MetS.mono h (fun r w15 hh => ?_))
        obtain ⟨z16, er, h⟩ := hh
        subst er
        refine wp_ly (fun hly => ?_)
        refine wp_ior d_Cl_plan_86 ?_
        refine wp_istore_n (L' := [(1, vi (b_ior x1 z16)), (5, vr (19 + 3 * z4.toNat)), (4, vi z4), (0, vr 9), (2, vi x2), (3, vi x3)]) d_Cl_plan_87 (i := 1) rfl rfl (by decide) ?_
        refine wp_aload_n d_Cl_plan_88 (i := 0) rfl 3 rfl ?_
        refine wp_getP d_Cl_plan_89 fl_Cl_36 cl_1 rfl (ly_o hly (by decide)) (ly_r (v := 18) hly (by decide +kernel)) ?_
        refine wp_iload_n d_Cl_plan_92 (i := 3) rfl 5 rfl ?_
        refine wp_iload_n d_Cl_plan_93 (i := 1) rfl 0 rfl ?_
        refine wp_callS (A := [vi (b_ior x1 z16)]) (S := [vi x3, vr 18]) d_Cl_plan_94 cs_Cl_plan_79 rfl (Nat.le_of_ble_eq_true rfl) (by decide) (MetS.mono h (fun r w17 hh => ?_))
        obtain ⟨z18, er, h⟩ := hh
        subst er
        refine wp_ly (fun hly => ?_)
        obtain ⟨hi19, h⟩ := h
        refine wp_iastore d_Cl_plan_97 (ly_a (n := 6) (N := 6) hly (by decide) hi19) (fun w20 e21 => ?_)
        replace h := h w20 e21
        refine wp_ly (fun hly => ?_)
        refine wp_iload_n d_Cl_plan_98 (i := 2) rfl 4 rfl ?_
        refine wp_iconst d_Cl_plan_99 (by decide) ?_
        refine wp_iload d_Cl_plan_100 2 rfl ?_
        refine wp_ishl d_Cl_plan_102 ?_
        refine wp_iconst d_Cl_plan_103 (by decide) ?_
        refine wp_ixor d_Cl_plan_104 ?_
        refine wp_iand d_Cl_plan_105 ?_
        refine wp_istore_n (L' := [(2, vi (b_iand x2 (b_ixor (b_ishl 1 z4) (-1)))), (1, vi (b_ior x1 z16)), (5, vr (19 + 3 * z4.toNat)), (4, vi z4), (0, vr 9), (3, vi x3)]) d_Cl_plan_106 (i := 2) rfl rfl (by decide) ?_
        obtain ⟨ho, h⟩ := h
        refine wp_iinc (L' := [(3, vi (x3 + 1)), (2, vi (b_iand x2 (b_ixor (b_ishl 1 z4) (-1)))), (1, vi (b_ior x1 z16)), (5, vr (19 + 3 * z4.toNat)), (4, vi z4), (0, vr 9)]) d_Cl_plan_107 5 rfl rfl (by decide) ho ?_
        refine wp_goto (tgt := 13) d_Cl_plan_110 (by decide) ?_
        exact wp_pick [5, 2, 1, 0] rfl h
      · replace h := h.2 hc
        refine wp_aload d_Cl_plan_68 0 rfl ?_
        refine wp_iload_n d_Cl_plan_70 (i := 1) rfl 3 rfl ?_
        refine wp_callV (A := [vi x1]) (S := [vi x3, vr 17]) d_Cl_plan_71 cv_Cl_plan_72 (ly_o hly (lt_o hb6)) rfl (Nat.le_of_ble_eq_true rfl) (by decide) (MetS.mono h (fun r w22 hh => ?_))
        obtain ⟨z23, er, h⟩ := hh
        subst er
        refine wp_ly (fun hly => ?_)
        refine wp_goto (tgt := 78) d_Cl_plan_74 (by decide) ?_
        obtain ⟨hi24, h⟩ := h
        refine wp_iastore d_Cl_plan_78 (ly_a (n := 6) (N := 6) hly (by decide) hi24) (fun w25 e26 => ?_)
        replace h := h w25 e26
        refine wp_ly (fun hly => ?_)
        refine wp_iload_n d_Cl_plan_79 (i := 1) rfl 3 rfl ?_
        refine wp_aload d_Cl_plan_80 0 rfl ?_
        refine wp_iconst d_Cl_plan_82 (by decide) ?_
        refine wp_callV (A := [vi 0]) (S := [vi x1]) d_Cl_plan_83 cv_Cl_plan_76 (ly_o hly (lt_o hb6)) rfl (Nat.le_of_ble_eq_true rfl) (by decide) (MetS.mono h (fun r w27 hh => ?_))
        obtain ⟨z28, er, h⟩ := hh
        subst er
        refine wp_ly (fun hly => ?_)
        refine wp_ior d_Cl_plan_86 ?_
        refine wp_istore_n (L' := [(1, vi (b_ior x1 z28)), (5, vr (19 + 3 * z4.toNat)), (4, vi z4), (0, vr 9), (2, vi x2), (3, vi x3)]) d_Cl_plan_87 (i := 1) rfl rfl (by decide) ?_
        refine wp_aload_n d_Cl_plan_88 (i := 0) rfl 3 rfl ?_
        refine wp_getP d_Cl_plan_89 fl_Cl_36 cl_1 rfl (ly_o hly (by decide)) (ly_r (v := 18) hly (by decide +kernel)) ?_
        refine wp_iload_n d_Cl_plan_92 (i := 3) rfl 5 rfl ?_
        refine wp_iload_n d_Cl_plan_93 (i := 1) rfl 0 rfl ?_
        refine wp_callS (A := [vi (b_ior x1 z28)]) (S := [vi x3, vr 18]) d_Cl_plan_94 cs_Cl_plan_79 rfl (Nat.le_of_ble_eq_true rfl) (by decide) (MetS.mono h (fun r w29 hh => ?_))
        obtain ⟨z30, er, h⟩ := hh
        subst er
        refine wp_ly (fun hly => ?_)
        obtain ⟨hi31, h⟩ := h
        refine wp_iastore d_Cl_plan_97 (ly_a (n := 6) (N := 6) hly (by decide) hi31) (fun w32 e33 => ?_)
        replace h := h w32 e33
        refine wp_ly (fun hly => ?_)
        refine wp_iload_n d_Cl_plan_98 (i := 2) rfl 4 rfl ?_
        refine wp_iconst d_Cl_plan_99 (by decide) ?_
        refine wp_iload d_Cl_plan_100 2 rfl ?_
        refine wp_ishl d_Cl_plan_102 ?_
        refine wp_iconst d_Cl_plan_103 (by decide) ?_
        refine wp_ixor d_Cl_plan_104 ?_
        refine wp_iand d_Cl_plan_105 ?_
        refine wp_istore_n (L' := [(2, vi (b_iand x2 (b_ixor (b_ishl 1 z4) (-1)))), (1, vi (b_ior x1 z28)), (5, vr (19 + 3 * z4.toNat)), (4, vi z4), (0, vr 9), (3, vi x3)]) d_Cl_plan_106 (i := 2) rfl rfl (by decide) ?_
        obtain ⟨ho, h⟩ := h
        refine wp_iinc (L' := [(3, vi (x3 + 1)), (2, vi (b_iand x2 (b_ixor (b_ishl 1 z4) (-1)))), (1, vi (b_ior x1 z28)), (5, vr (19 + 3 * z4.toNat)), (4, vi z4), (0, vr 9)]) d_Cl_plan_107 5 rfl rfl (by decide) ho ?_
        refine wp_goto (tgt := 13) d_Cl_plan_110 (by decide) ?_
        exact wp_pick [5, 2, 1, 0] rfl h
    · replace h := h.2 hc
      refine wp_goto (tgt := 113) d_Cl_plan_35 (by decide) ?_
      refine wp_aload_n d_Cl_plan_113 (i := 0) rfl 1 rfl ?_
      refine wp_iload_n d_Cl_plan_114 (i := 1) rfl 2 rfl ?_
      refine wp_callV (A := [vi x1]) (S := []) d_Cl_plan_115 cv_Cl_plan_84 (ly_o hly (by decide)) rfl (Nat.le_of_ble_eq_true rfl) (by decide) (MetS.mono h (fun r w34 hh => ?_))
      obtain ⟨z35, er, h⟩ := hh
      subst er
      refine wp_ly (fun hly => ?_)
      exact wp_iret d_Cl_plan_118 rfl (by decide) h
set_option maxRecDepth 20000 in
set_option maxHeartbeats 2000000 in
theorem t_Cl_nextAsked_0 {x1 : Int} {x2 : Int}  {w : Wo} {Q : Option AV → Wo → Prop} (h : Wp m_Cl_nextAsked 8 [(0, vr 9), (1, vi x1), (2, vi x2), (3, vi (-1)), (4, vi (-1)), (5, vi 0)] [] (0, 0) w Q) : Wp m_Cl_nextAsked 0 [(0, vr 9), (1, vi x1), (2, vi x2)] [] (0, 0) w Q := by
  refine wp_ly (fun hly => ?_)
  refine wp_iconst d_Cl_nextAsked_0 (by decide) ?_
  refine wp_istore_n (L' := [(3, vi (-1)), (0, vr 9), (1, vi x1), (2, vi x2)]) d_Cl_nextAsked_1 (i := 3) rfl rfl (by decide) ?_
  refine wp_iconst d_Cl_nextAsked_2 (by decide) ?_
  refine wp_istore (L' := [(4, vi (-1)), (3, vi (-1)), (0, vr 9), (1, vi x1), (2, vi x2)]) d_Cl_nextAsked_3 rfl (by decide) ?_
  refine wp_iconst d_Cl_nextAsked_5 (by decide) ?_
  refine wp_istore (L' := [(5, vi 0), (4, vi (-1)), (3, vi (-1)), (0, vr 9), (1, vi x1), (2, vi x2)]) d_Cl_nextAsked_6 rfl (by decide) ?_
  exact wp_pick [3, 4, 5, 2, 1, 0] rfl h
set_option maxRecDepth 20000 in
set_option maxHeartbeats 2000000 in
theorem t_Cl_nextAsked_8 {x1 : Int} {x2 : Int} {x3 : Int} {x4 : Int} {x5 : Int}  {w : Wo} {Q : Option AV → Wo → Prop} (h : (((gI w 9 2) ≤ x5 → Q (some (vi x3)) w) ∧ (¬ (gI w 9 2) ≤ x5 → (((b_iand (b_ishr x1 x5) 1) = 0 → Wp m_Cl_nextAsked 31 [(0, vr 9), (1, vi x1), (2, vi x2), (3, vi x3), (4, vi x4), (5, vi x5)] [vi 0] (0, 0) w Q) ∧ (¬ (b_iand (b_ishr x1 x5) 1) = 0 → Wp m_Cl_nextAsked 31 [(0, vr 9), (1, vi x1), (2, vi x2), (3, vi x3), (4, vi x4), (5, vi x5)] [vi 1] (0, 0) w Q))))) : Wp m_Cl_nextAsked 8 [(0, vr 9), (1, vi x1), (2, vi x2), (3, vi x3), (4, vi x4), (5, vi x5)] [] (0, 0) w Q := by
  refine wp_ly (fun hly => ?_)
  refine wp_iload d_Cl_nextAsked_8 5 rfl ?_
  refine wp_aload_n d_Cl_nextAsked_10 (i := 0) rfl 0 rfl ?_
  refine wp_getI d_Cl_nextAsked_11 fl_Cl_43 cl_1 rfl (ly_o hly (by decide)) ?_
  refine wp_icmp_ge (tgt := 126) d_Cl_nextAsked_14 (by decide) (fun hc => ?_) (fun hc => ?_)
  · replace h := h.1 hc
    refine wp_iload_n d_Cl_nextAsked_126 (i := 3) rfl 3 rfl ?_
    exact wp_iret d_Cl_nextAsked_127 rfl (by decide) h
  · replace h := h.2 hc
    refine wp_iload_n d_Cl_nextAsked_17 (i := 1) rfl 1 rfl ?_
    refine wp_iload d_Cl_nextAsked_18 5 rfl ?_
    refine wp_ishr d_Cl_nextAsked_20 ?_
    refine wp_iconst d_Cl_nextAsked_21 (by decide) ?_
    refine wp_iand d_Cl_nextAsked_22 ?_
    refine wp_if_eq (tgt := 30) d_Cl_nextAsked_23 (by decide) (fun hc => ?_) (fun hc => ?_)
    · replace h := h.1 hc
      refine wp_iconst d_Cl_nextAsked_30 (by decide) ?_
      exact h
    · replace h := h.2 hc
      refine wp_iconst d_Cl_nextAsked_26 (by decide) ?_
      refine wp_goto (tgt := 31) d_Cl_nextAsked_27 (by decide) ?_
      exact h
set_option maxRecDepth 20000 in
set_option maxHeartbeats 2000000 in
theorem t_Cl_nextAsked_31 {x1 : Int} {x2 : Int} {x3 : Int} {x4 : Int} {x5 : Int} {s0 : Int}  {w : Wo} {Q : Option AV → Wo → Prop} (h : (0 ≤ x5 ∧ x5 < 6) ∧ ((¬ (gI w (19 + 3 * x5.toNat) 0) = 0 → Wp m_Cl_nextAsked 51 [(0, vr 9), (1, vi x1), (2, vi x2), (3, vi x3), (4, vi x4), (5, vi x5), (6, vi s0)] [vi 0] (0, 0) w Q) ∧ ((gI w (19 + 3 * x5.toNat) 0) = 0 → Wp m_Cl_nextAsked 51 [(0, vr 9), (1, vi x1), (2, vi x2), (3, vi x3), (4, vi x4), (5, vi x5), (6, vi s0)] [vi 1] (0, 0) w Q))) : Wp m_Cl_nextAsked 31 [(0, vr 9), (1, vi x1), (2, vi x2), (3, vi x3), (4, vi x4), (5, vi x5)] [vi s0] (0, 0) w Q := by
  refine wp_ly (fun hly => ?_)
  refine wp_istore (L' := [(6, vi s0), (0, vr 9), (1, vi x1), (2, vi x2), (3, vi x3), (4, vi x4), (5, vi x5)]) d_Cl_nextAsked_31 rfl (by decide) ?_
  refine wp_aload_n d_Cl_nextAsked_33 (i := 0) rfl 1 rfl ?_
  refine wp_getP d_Cl_nextAsked_34 fl_Cl_18 cl_1 rfl (ly_o hly (by decide)) (ly_r (v := 13) hly (by decide +kernel)) ?_
  refine wp_iload d_Cl_nextAsked_37 6 rfl ?_
  obtain ⟨hi1, h⟩ := h
  have hb2 := body_m hi1
  refine wp_aaload d_Cl_nextAsked_39 (ly_a (n := 6) (N := 6) hly (by decide) hi1) (body_r hi1 hly) ?_
  refine wp_getI d_Cl_nextAsked_40 fl_Cl_87 cl_3 rfl (ly_o hly (lt_o hb2)) ?_
  refine wp_if_ne (tgt := 50) d_Cl_nextAsked_43 (by decide) (fun hc => ?_) (fun hc => ?_)
  · replace h := h.1 hc
    refine wp_iconst d_Cl_nextAsked_50 (by decide) ?_
    exact wp_pick [1, 2, 3, 4, 5, 6, 0] rfl h
  · replace h := h.2 hc
    refine wp_iconst d_Cl_nextAsked_46 (by decide) ?_
    refine wp_goto (tgt := 51) d_Cl_nextAsked_47 (by decide) ?_
    exact wp_pick [1, 2, 3, 4, 5, 6, 0] rfl h
set_option maxRecDepth 20000 in
set_option maxHeartbeats 2000000 in
theorem t_Cl_nextAsked_51 {x1 : Int} {x2 : Int} {x3 : Int} {x4 : Int} {x5 : Int} {x6 : Int} {s0 : Int}  {w : Wo} {Q : Option AV → Wo → Prop} (h : ((x6 = 0 → Wp m_Cl_nextAsked 80 [(0, vr 9), (1, vi x1), (2, vi x2), (3, vi x3), (4, vi x4), (5, vi x5), (6, vi x6), (7, vi s0)] [] (0, 0) w Q) ∧ (¬ x6 = 0 → ((¬ s0 = 0 → Wp m_Cl_nextAsked 80 [(0, vr 9), (1, vi x1), (2, vi x2), (3, vi x3), (4, vi x4), (5, vi x5), (6, vi x6), (7, vi s0)] [] (0, 0) w Q) ∧ (s0 = 0 → (0 ≤ x5 ∧ x5 < 6) ∧ MetI m_Lt_canBeAsked [vr (19 + 3 * x5.toNat), vi x2] w (fun z4 w3 => ((z4 = 0 → Wp m_Cl_nextAsked 80 [(0, vr 9), (1, vi x1), (2, vi x2), (3, vi x3), (4, vi x4), (5, vi x5), (6, vi x6), (7, vi s0)] [] (0, 0) w3 Q) ∧ (¬ z4 = 0 → Q (some (vi x5)) w3)))))))) : Wp m_Cl_nextAsked 51 [(0, vr 9), (1, vi x1), (2, vi x2), (3, vi x3), (4, vi x4), (5, vi x5), (6, vi x6)] [vi s0] (0, 0) w Q := by
  refine wp_ly (fun hly => ?_)
  refine wp_istore (L' := [(7, vi s0), (0, vr 9), (1, vi x1), (2, vi x2), (3, vi x3), (4, vi x4), (5, vi x5), (6, vi x6)]) d_Cl_nextAsked_51 rfl (by decide) ?_
  refine wp_iload d_Cl_nextAsked_53 7 rfl ?_
  refine wp_if_eq (tgt := 80) d_Cl_nextAsked_55 (by decide) (fun hc => ?_) (fun hc => ?_)
  · replace h := h.1 hc
    exact wp_pick [1, 2, 3, 4, 5, 6, 7, 0] rfl h
  · replace h := h.2 hc
    refine wp_iload d_Cl_nextAsked_58 0 rfl ?_
    refine wp_if_ne (tgt := 80) d_Cl_nextAsked_60 (by decide) (fun hc => ?_) (fun hc => ?_)
    · replace h := h.1 hc
      exact wp_pick [1, 2, 3, 4, 5, 6, 7, 0] rfl h
    · replace h := h.2 hc
      refine wp_aload_n d_Cl_nextAsked_63 (i := 0) rfl 1 rfl ?_
      refine wp_getP d_Cl_nextAsked_64 fl_Cl_18 cl_1 rfl (ly_o hly (by decide)) (ly_r (v := 13) hly (by decide +kernel)) ?_
      refine wp_iload d_Cl_nextAsked_67 6 rfl ?_
      obtain ⟨hi1, h⟩ := h
      have hb2 := body_m hi1
      refine wp_aaload d_Cl_nextAsked_69 (ly_a (n := 6) (N := 6) hly (by decide) hi1) (body_r hi1 hly) ?_
      refine wp_iload_n d_Cl_nextAsked_70 (i := 2) rfl 3 rfl ?_
      refine wp_callV (A := [vi x2]) (S := []) d_Cl_nextAsked_71 cv_Cl_nextAsked_90 (ly_o hly (lt_o hb2)) rfl (Nat.le_of_ble_eq_true rfl) (by decide) (MetS.mono h (fun r w3 hh => ?_))
      obtain ⟨z4, er, h⟩ := hh
      subst er
      refine wp_ly (fun hly => ?_)
      refine wp_if_eq (tgt := 80) d_Cl_nextAsked_74 (by decide) (fun hc => ?_) (fun hc => ?_)
      · replace h := h.1 hc
        exact wp_pick [1, 2, 3, 4, 5, 6, 7, 0] rfl h
      · replace h := h.2 hc
        refine wp_iload d_Cl_nextAsked_77 6 rfl ?_
        exact wp_iret d_Cl_nextAsked_79 rfl (by decide) h
set_option maxRecDepth 20000 in
set_option maxHeartbeats 2000000 in
theorem t_Cl_nextAsked_80 {x1 : Int} {x2 : Int} {x3 : Int} {x4 : Int} {x5 : Int} {x6 : Int} {x7 : Int}  {w : Wo} {Q : Option AV → Wo → Prop} (h : (0 ≤ x5 ∧ x5 < 6) ∧ MetI m_Lt_knownArguments [vr (19 + 3 * x5.toNat), vi x2] w (fun z4 w3 => MetI m_JI_bitCount [vi z4] w3 (fun z6 w5 => ((x6 = 0 → inr32 (x5 + 1) ∧ Wp m_Cl_nextAsked 8 [(0, vr 9), (1, vi x1), (2, vi x2), (3, vi x3), (4, vi x4), (5, vi (x5 + 1))] [] (0, 0) w5 Q) ∧ (¬ x6 = 0 → ((x7 = 0 → inr32 (x5 + 1) ∧ Wp m_Cl_nextAsked 8 [(0, vr 9), (1, vi x1), (2, vi x2), (3, vi x3), (4, vi x4), (5, vi (x5 + 1))] [] (0, 0) w5 Q) ∧ (¬ x7 = 0 → ((z6 ≤ x4 → inr32 (x5 + 1) ∧ Wp m_Cl_nextAsked 8 [(0, vr 9), (1, vi x1), (2, vi x2), (3, vi x3), (4, vi x4), (5, vi (x5 + 1))] [] (0, 0) w5 Q) ∧ (¬ z6 ≤ x4 → inr32 (x5 + 1) ∧ Wp m_Cl_nextAsked 8 [(0, vr 9), (1, vi x1), (2, vi x2), (3, vi x5), (4, vi z6), (5, vi (x5 + 1))] [] (0, 0) w5 Q))))))))) : Wp m_Cl_nextAsked 80 [(0, vr 9), (1, vi x1), (2, vi x2), (3, vi x3), (4, vi x4), (5, vi x5), (6, vi x6), (7, vi x7)] [] (0, 0) w Q := by
  refine wp_ly (fun hly => ?_)
  refine wp_aload_n d_Cl_nextAsked_80 (i := 0) rfl 0 rfl ?_
  refine wp_getP d_Cl_nextAsked_81 fl_Cl_18 cl_1 rfl (ly_o hly (by decide)) (ly_r (v := 13) hly (by decide +kernel)) ?_
  refine wp_iload d_Cl_nextAsked_84 5 rfl ?_
  obtain ⟨hi1, h⟩ := h
  have hb2 := body_m hi1
  refine wp_aaload d_Cl_nextAsked_86 (ly_a (n := 6) (N := 6) hly (by decide) hi1) (body_r hi1 hly) ?_
  refine wp_iload_n d_Cl_nextAsked_87 (i := 2) rfl 2 rfl ?_
  refine wp_callV (A := [vi x2]) (S := []) d_Cl_nextAsked_88 cv_Cl_nextAsked_72 (ly_o hly (lt_o hb2)) rfl (Nat.le_of_ble_eq_true rfl) (by decide) (MetS.mono h (fun r w3 hh => ?_))
  obtain ⟨z4, er, h⟩ := hh
  subst er
  refine wp_ly (fun hly => ?_)
  refine wp_callS (A := [vi z4]) (S := []) d_Cl_nextAsked_91 cs_Cl_nextAsked_79 rfl (Nat.le_of_ble_eq_true rfl) (by decide) (MetS.mono h (fun r w5 hh => ?_))
  obtain ⟨z6, er, h⟩ := hh
  subst er
  refine wp_ly (fun hly => ?_)
  refine wp_istore (L' := [(8, vi z6), (0, vr 9), (1, vi x1), (2, vi x2), (3, vi x3), (4, vi x4), (5, vi x5), (6, vi x6), (7, vi x7)]) d_Cl_nextAsked_94 rfl (by decide) ?_
  refine wp_iload d_Cl_nextAsked_96 7 rfl ?_
  refine wp_if_eq (tgt := 120) d_Cl_nextAsked_98 (by decide) (fun hc => ?_) (fun hc => ?_)
  · replace h := h.1 hc
    obtain ⟨ho, h⟩ := h
    refine wp_iinc (L' := [(5, vi (x5 + 1)), (8, vi z6), (0, vr 9), (1, vi x1), (2, vi x2), (3, vi x3), (4, vi x4), (6, vi x6), (7, vi x7)]) d_Cl_nextAsked_120 6 rfl rfl (by decide) ho ?_
    refine wp_goto (tgt := 8) d_Cl_nextAsked_123 (by decide) ?_
    exact wp_pick [2, 3, 4, 5, 6, 0] rfl h
  · replace h := h.2 hc
    refine wp_iload d_Cl_nextAsked_101 8 rfl ?_
    refine wp_if_eq (tgt := 120) d_Cl_nextAsked_103 (by decide) (fun hc => ?_) (fun hc => ?_)
    · replace h := h.1 hc
      obtain ⟨ho, h⟩ := h
      refine wp_iinc (L' := [(5, vi (x5 + 1)), (8, vi z6), (0, vr 9), (1, vi x1), (2, vi x2), (3, vi x3), (4, vi x4), (6, vi x6), (7, vi x7)]) d_Cl_nextAsked_120 6 rfl rfl (by decide) ho ?_
      refine wp_goto (tgt := 8) d_Cl_nextAsked_123 (by decide) ?_
      exact wp_pick [2, 3, 4, 5, 6, 0] rfl h
    · replace h := h.2 hc
      refine wp_iload d_Cl_nextAsked_106 0 rfl ?_
      refine wp_iload d_Cl_nextAsked_108 5 rfl ?_
      refine wp_icmp_le (tgt := 120) d_Cl_nextAsked_110 (by decide) (fun hc => ?_) (fun hc => ?_)
      · replace h := h.1 hc
        obtain ⟨ho, h⟩ := h
        refine wp_iinc (L' := [(5, vi (x5 + 1)), (8, vi z6), (0, vr 9), (1, vi x1), (2, vi x2), (3, vi x3), (4, vi x4), (6, vi x6), (7, vi x7)]) d_Cl_nextAsked_120 6 rfl rfl (by decide) ho ?_
        refine wp_goto (tgt := 8) d_Cl_nextAsked_123 (by decide) ?_
        exact wp_pick [2, 3, 4, 5, 6, 0] rfl h
      · replace h := h.2 hc
        refine wp_iload d_Cl_nextAsked_113 6 rfl ?_
        refine wp_istore_n (L' := [(3, vi x5), (8, vi z6), (0, vr 9), (1, vi x1), (2, vi x2), (4, vi x4), (5, vi x5), (6, vi x6), (7, vi x7)]) d_Cl_nextAsked_115 (i := 3) rfl rfl (by decide) ?_
        refine wp_iload d_Cl_nextAsked_116 1 rfl ?_
        refine wp_istore (L' := [(4, vi z6), (3, vi x5), (8, vi z6), (0, vr 9), (1, vi x1), (2, vi x2), (5, vi x5), (6, vi x6), (7, vi x7)]) d_Cl_nextAsked_118 rfl (by decide) ?_
        obtain ⟨ho, h⟩ := h
        refine wp_iinc (L' := [(5, vi (x5 + 1)), (4, vi z6), (3, vi x5), (8, vi z6), (0, vr 9), (1, vi x1), (2, vi x2), (6, vi x6), (7, vi x7)]) d_Cl_nextAsked_120 6 rfl rfl (by decide) ho ?_
        refine wp_goto (tgt := 8) d_Cl_nextAsked_123 (by decide) ?_
        exact wp_pick [4, 5, 6, 2, 1, 0] rfl h
set_option maxRecDepth 20000 in
set_option maxHeartbeats 2000000 in
theorem t_Cl_firstWithout_0 {x1 : Int}  {w : Wo} {Q : Option AV → Wo → Prop} (h : Wp m_Cl_firstWithout 2 [(0, vr 9), (1, vi x1), (2, vi 0)] [] (0, 0) w Q) : Wp m_Cl_firstWithout 0 [(0, vr 9), (1, vi x1)] [] (0, 0) w Q := by
  refine wp_ly (fun hly => ?_)
  refine wp_iconst d_Cl_firstWithout_0 (by decide) ?_
  refine wp_istore_n (L' := [(2, vi 0), (0, vr 9), (1, vi x1)]) d_Cl_firstWithout_1 (i := 2) rfl rfl (by decide) ?_
  exact wp_pick [1, 2, 0] rfl h
set_option maxRecDepth 20000 in
set_option maxHeartbeats 2000000 in
theorem t_Cl_firstWithout_2 {x1 : Int} {x2 : Int}  {w : Wo} {Q : Option AV → Wo → Prop} (h : (((gI w 9 6) ≤ x2 → Q (some (vi (-1))) w) ∧ (¬ (gI w 9 6) ≤ x2 → ((¬ (b_iand (b_ishr x1 x2) 1) = 0 → inr32 (x2 + 1) ∧ Wp m_Cl_firstWithout 2 [(0, vr 9), (1, vi x1), (2, vi (x2 + 1))] [] (0, 0) w Q) ∧ ((b_iand (b_ishr x1 x2) 1) = 0 → (0 ≤ x2 ∧ x2 < 8) ∧ Q (some (vi (gI w 15 x2.toNat))) w))))) : Wp m_Cl_firstWithout 2 [(0, vr 9), (1, vi x1), (2, vi x2)] [] (0, 0) w Q := by
  refine wp_ly (fun hly => ?_)
  refine wp_iload_n d_Cl_firstWithout_2 (i := 2) rfl 2 rfl ?_
  refine wp_aload_n d_Cl_firstWithout_3 (i := 0) rfl 0 rfl ?_
  refine wp_getI d_Cl_firstWithout_4 fl_Cl_56 cl_1 rfl (ly_o hly (by decide)) ?_
  refine wp_icmp_ge (tgt := 31) d_Cl_firstWithout_7 (by decide) (fun hc => ?_) (fun hc => ?_)
  · replace h := h.1 hc
    refine wp_iconst d_Cl_firstWithout_31 (by decide) ?_
    exact wp_iret d_Cl_firstWithout_32 rfl (by decide) h
  · replace h := h.2 hc
    refine wp_iload_n d_Cl_firstWithout_10 (i := 1) rfl 1 rfl ?_
    refine wp_iload_n d_Cl_firstWithout_11 (i := 2) rfl 2 rfl ?_
    refine wp_ishr d_Cl_firstWithout_12 ?_
    refine wp_iconst d_Cl_firstWithout_13 (by decide) ?_
    refine wp_iand d_Cl_firstWithout_14 ?_
    refine wp_if_ne (tgt := 25) d_Cl_firstWithout_15 (by decide) (fun hc => ?_) (fun hc => ?_)
    · replace h := h.1 hc
      obtain ⟨ho, h⟩ := h
      refine wp_iinc (L' := [(2, vi (x2 + 1)), (0, vr 9), (1, vi x1)]) d_Cl_firstWithout_25 2 rfl rfl (by decide) ho ?_
      refine wp_goto (tgt := 2) d_Cl_firstWithout_28 (by decide) ?_
      exact wp_pick [1, 2, 0] rfl h
    · replace h := h.2 hc
      refine wp_aload_n d_Cl_firstWithout_18 (i := 0) rfl 0 rfl ?_
      refine wp_getP d_Cl_firstWithout_19 fl_Cl_26 cl_1 rfl (ly_o hly (by decide)) (ly_r (v := 15) hly (by decide +kernel)) ?_
      refine wp_iload_n d_Cl_firstWithout_22 (i := 2) rfl 2 rfl ?_
      obtain ⟨hi1, h⟩ := h
      refine wp_iaload d_Cl_firstWithout_23 (ly_a (n := 8) (N := 8) hly (by decide) hi1) ?_
      exact wp_iret d_Cl_firstWithout_24 rfl (by decide) h

set_option maxRecDepth 20000 in
set_option maxHeartbeats 2000000 in
theorem t_Lt_begin_0 {r0 : Nat} {x1 : Int} {x2 : Int} (hr0 : isLt r0) {w : Wo} {Q : Option AV → Wo → Prop} (h : (∀ w1 : Wo, w1 = uI w r0 0 x1 → (∀ w3 : Wo, w3 = uI w1 r0 1 x2 → (∀ w5 : Wo, w5 = uI w3 r0 2 (-1) → (∀ w7 : Wo, w7 = uI w5 r0 3 0 → (∀ w9 : Wo, w9 = uI w7 r0 4 0 → Q none w9)))))) : Wp m_Lt_begin 0 [(0, vr r0), (1, vi x1), (2, vi x2)] [] (0, 0) w Q := by
  refine wp_ly (fun hly => ?_)
  refine wp_aload_n d_Lt_begin_0 (i := 0) rfl 0 rfl ?_
  refine wp_iload_n d_Lt_begin_1 (i := 1) rfl 1 rfl ?_
  refine wp_putI d_Lt_begin_2 fl_Lt_19 cl_3 ⟨rfl, rfl⟩ (ly_o hly (lt_o hr0)) (fun w1 e2 => ?_)
  replace h := h w1 e2
  refine wp_ly (fun hly => ?_)
  refine wp_aload_n d_Lt_begin_5 (i := 0) rfl 0 rfl ?_
  refine wp_iload_n d_Lt_begin_6 (i := 2) rfl 2 rfl ?_
  refine wp_putI d_Lt_begin_7 fl_Lt_23 cl_3 ⟨rfl, rfl⟩ (ly_o hly (lt_o hr0)) (fun w3 e4 => ?_)
  replace h := h w3 e4
  refine wp_ly (fun hly => ?_)
  refine wp_aload_n d_Lt_begin_10 (i := 0) rfl 0 rfl ?_
  refine wp_iconst d_Lt_begin_11 (by decide) ?_
  refine wp_putI d_Lt_begin_12 fl_Lt_26 cl_3 ⟨rfl, rfl⟩ (ly_o hly (lt_o hr0)) (fun w5 e6 => ?_)
  replace h := h w5 e6
  refine wp_ly (fun hly => ?_)
  refine wp_aload_n d_Lt_begin_15 (i := 0) rfl 0 rfl ?_
  refine wp_iconst d_Lt_begin_16 (by decide) ?_
  refine wp_putZ d_Lt_begin_17 fl_Lt_29 cl_3 ⟨rfl, rfl⟩ (ly_o hly (lt_o hr0)) (by decide) (fun w7 e8 => ?_)
  replace h := h w7 e8
  refine wp_ly (fun hly => ?_)
  refine wp_aload_n d_Lt_begin_20 (i := 0) rfl 0 rfl ?_
  refine wp_iconst d_Lt_begin_21 (by decide) ?_
  refine wp_putI d_Lt_begin_22 fl_Lt_33 cl_3 ⟨rfl, rfl⟩ (ly_o hly (lt_o hr0)) (fun w9 e10 => ?_)
  replace h := h w9 e10
  refine wp_ly (fun hly => ?_)
  exact wp_vret d_Lt_begin_25 rfl (by decide) h
set_option maxRecDepth 20000 in
set_option maxHeartbeats 2000000 in
theorem t_Lt_add_0 {r0 : Nat} {y1 : Int} (hr0 : isLt r0) {w : Wo} {Q : Option AV → Wo → Prop} (h : ((4 ≤ (gI w r0 4) → Q none w) ∧ (¬ 4 ≤ (gI w r0 4) → (((b_lcmp y1 281474976710656) < 0 → Wp m_Lt_add 32 [(0, vr r0), (1, vl y1)] [] (0, 0) w Q) ∧ (¬ (b_lcmp y1 281474976710656) < 0 → ((0 ≤ (b_lcmp y1 4503599627370496) → Wp m_Lt_add 32 [(0, vr r0), (1, vl y1)] [] (0, 0) w Q) ∧ (¬ 0 ≤ (b_lcmp y1 4503599627370496) → Wp m_Lt_add 33 [(0, vr r0), (1, vl y1)] [vi 1] (0, 0) w Q))))))) : Wp m_Lt_add 0 [(0, vr r0), (1, vl y1)] [] (0, 0) w Q := by
  refine wp_ly (fun hly => ?_)
  refine wp_aload_n d_Lt_add_0 (i := 0) rfl 0 rfl ?_
  refine wp_getI d_Lt_add_1 fl_Lt_33 cl_3 rfl (ly_o hly (lt_o hr0)) ?_
  refine wp_aload_n d_Lt_add_4 (i := 0) rfl 0 rfl ?_
  refine wp_getP d_Lt_add_5 fl_Lt_9 cl_3 rfl (ly_o hly (lt_o hr0)) (lt_r5 hly hr0) ?_
  refine wp_alen (t := 2) (n := 4) d_Lt_add_8 (ly_o hly (lt_a5 hr0)) (by decide) (by decide) ?_
  refine wp_icmp_ge (tgt := 79) d_Lt_add_9 (by decide) (fun hc => ?_) (fun hc => ?_)
  · replace h := h.1 hc
    exact wp_vret d_Lt_add_79 rfl (by decide) h
  · replace h := h.2 hc
    refine wp_lload_n d_Lt_add_12 (i := 1) rfl 1 rfl ?_
    refine wp_ldc2 d_Lt_add_13 (x := 281474976710656) lc_Lt_36 (by decide) ?_
    refine wp_lcmp d_Lt_add_16 ?_
    refine wp_if_lt (tgt := 32) d_Lt_add_17 (by decide) (fun hc => ?_) (fun hc => ?_)
    · replace h := h.1 hc
      exact h
    · replace h := h.2 hc
      refine wp_lload_n d_Lt_add_20 (i := 1) rfl 1 rfl ?_
      refine wp_ldc2 d_Lt_add_21 (x := 4503599627370496) lc_Lt_38 (by decide) ?_
      refine wp_lcmp d_Lt_add_24 ?_
      refine wp_if_ge (tgt := 32) d_Lt_add_25 (by decide) (fun hc => ?_) (fun hc => ?_)
      · replace h := h.1 hc
        exact h
      · replace h := h.2 hc
        refine wp_iconst d_Lt_add_28 (by decide) ?_
        refine wp_goto (tgt := 33) d_Lt_add_29 (by decide) ?_
        exact h
set_option maxRecDepth 20000 in
set_option maxHeartbeats 2000000 in
theorem t_Lt_add_32 {r0 : Nat} {y1 : Int} (hr0 : isLt r0) {w : Wo} {Q : Option AV → Wo → Prop} (h : Wp m_Lt_add 33 [(0, vr r0), (1, vl y1)] [vi 0] (0, 0) w Q) : Wp m_Lt_add 32 [(0, vr r0), (1, vl y1)] [] (0, 0) w Q := by
  refine wp_ly (fun hly => ?_)
  refine wp_iconst d_Lt_add_32 (by decide) ?_
  exact h
set_option maxRecDepth 20000 in
set_option maxHeartbeats 2000000 in
theorem t_Lt_add_33 {r0 : Nat} {y1 : Int} {s0 : Int} (hr0 : isLt r0) {w : Wo} {Q : Option AV → Wo → Prop} (h : (0 ≤ (gI w r0 4) ∧ (gI w r0 4) < 4) ∧ (∀ w2 : Wo, w2 = uJ w (r0 + 1) (gI w r0 4).toNat y1 → ((s0 = 0 → (0 ≤ (gI w2 r0 4) ∧ (gI w2 r0 4) < 4) ∧ (∀ w5 : Wo, w5 = uI w2 (r0 + 2) (gI w2 r0 4).toNat 0 → inr32 ((gI w5 r0 4) + 1) ∧ (∀ w7 : Wo, w7 = uI w5 r0 4 ((gI w5 r0 4) + 1) → Q none w7))) ∧ (¬ s0 = 0 → inr64 (y1 - 281474976710656) ∧ (0 ≤ (gI w2 r0 4) ∧ (gI w2 r0 4) < 4) ∧ (∀ w10 : Wo, w10 = uI w2 (r0 + 2) (gI w2 r0 4).toNat (b_ishl 1 (b_l2i (y1 - 281474976710656))) → inr32 ((gI w10 r0 4) + 1) ∧ (∀ w12 : Wo, w12 = uI w10 r0 4 ((gI w10 r0 4) + 1) → Q none w12)))))) : Wp m_Lt_add 33 [(0, vr r0), (1, vl y1)] [vi s0] (0, 0) w Q := by
  refine wp_ly (fun hly => ?_)
  refine wp_istore_n (L' := [(3, vi s0), (0, vr r0), (1, vl y1)]) d_Lt_add_33 (i := 3) rfl rfl (by decide) ?_
  refine wp_aload_n d_Lt_add_34 (i := 0) rfl 1 rfl ?_
  refine wp_getP d_Lt_add_35 fl_Lt_9 cl_3 rfl (ly_o hly (lt_o hr0)) (lt_r5 hly hr0) ?_
  refine wp_aload_n d_Lt_add_38 (i := 0) rfl 1 rfl ?_
  refine wp_getI d_Lt_add_39 fl_Lt_33 cl_3 rfl (ly_o hly (lt_o hr0)) ?_
  refine wp_lload_n d_Lt_add_42 (i := 1) rfl 2 rfl ?_
  obtain ⟨hi1, h⟩ := h
  refine wp_lastore d_Lt_add_43 (ly_a (n := 4) (N := 4) hly (lt_a5 hr0) hi1) (fun w2 e3 => ?_)
  replace h := h w2 e3
  refine wp_ly (fun hly => ?_)
  refine wp_aload_n d_Lt_add_44 (i := 0) rfl 1 rfl ?_
  refine wp_getP d_Lt_add_45 fl_Lt_15 cl_3 rfl (ly_o hly (lt_o hr0)) (lt_r6 hly hr0) ?_
  refine wp_aload_n d_Lt_add_48 (i := 0) rfl 1 rfl ?_
  refine wp_getI d_Lt_add_49 fl_Lt_33 cl_3 rfl (ly_o hly (lt_o hr0)) ?_
  refine wp_iload_n d_Lt_add_52 (i := 3) rfl 0 rfl ?_
  refine wp_if_eq (tgt := 67) d_Lt_add_53 (by decide) (fun hc => ?_) (fun hc => ?_)
  · replace h := h.1 hc
    refine wp_iconst d_Lt_add_67 (by decide) ?_
    obtain ⟨hi4, h⟩ := h
    refine wp_iastore d_Lt_add_68 (ly_a (n := 4) (N := 4) hly (lt_a6 hr0) hi4) (fun w5 e6 => ?_)
    replace h := h w5 e6
    refine wp_ly (fun hly => ?_)
    refine wp_aload_n d_Lt_add_69 (i := 0) rfl 1 rfl ?_
    refine wp_dup d_Lt_add_70 rfl ?_
    refine wp_getI d_Lt_add_71 fl_Lt_33 cl_3 rfl (ly_o hly (lt_o hr0)) ?_
    refine wp_iconst d_Lt_add_74 (by decide) ?_
    obtain ⟨ho, h⟩ := h
    refine wp_iadd d_Lt_add_75 ho ?_
    refine wp_putI d_Lt_add_76 fl_Lt_33 cl_3 ⟨rfl, rfl⟩ (ly_o hly (lt_o hr0)) (fun w7 e8 => ?_)
    replace h := h w7 e8
    refine wp_ly (fun hly => ?_)
    exact wp_vret d_Lt_add_79 rfl (by decide) h
  · replace h := h.2 hc
    refine wp_iconst d_Lt_add_56 (by decide) ?_
    refine wp_lload_n d_Lt_add_57 (i := 1) rfl 2 rfl ?_
    refine wp_ldc2 d_Lt_add_58 (x := 281474976710656) lc_Lt_36 (by decide) ?_
    obtain ⟨ho, h⟩ := h
    refine wp_lsub d_Lt_add_61 ho ?_
    refine wp_l2i d_Lt_add_62 ?_
    refine wp_ishl d_Lt_add_63 ?_
    refine wp_goto (tgt := 68) d_Lt_add_64 (by decide) ?_
    obtain ⟨hi9, h⟩ := h
    refine wp_iastore d_Lt_add_68 (ly_a (n := 4) (N := 4) hly (lt_a6 hr0) hi9) (fun w10 e11 => ?_)
    replace h := h w10 e11
    refine wp_ly (fun hly => ?_)
    refine wp_aload_n d_Lt_add_69 (i := 0) rfl 1 rfl ?_
    refine wp_dup d_Lt_add_70 rfl ?_
    refine wp_getI d_Lt_add_71 fl_Lt_33 cl_3 rfl (ly_o hly (lt_o hr0)) ?_
    refine wp_iconst d_Lt_add_74 (by decide) ?_
    obtain ⟨ho, h⟩ := h
    refine wp_iadd d_Lt_add_75 ho ?_
    refine wp_putI d_Lt_add_76 fl_Lt_33 cl_3 ⟨rfl, rfl⟩ (ly_o hly (lt_o hr0)) (fun w12 e13 => ?_)
    replace h := h w12 e13
    refine wp_ly (fun hly => ?_)
    exact wp_vret d_Lt_add_79 rfl (by decide) h
set_option maxRecDepth 20000 in
set_option maxHeartbeats 2000000 in
theorem t_Lt_isAtom_0 {r0 : Nat} (hr0 : isLt r0) {w : Wo} {Q : Option AV → Wo → Prop} (h : (((gI w r0 0) = 0 → Q (some (vi 1)) w) ∧ (¬ (gI w r0 0) = 0 → ((¬ (gI w r0 0) = 1 → Q (some (vi 0)) w) ∧ ((gI w r0 0) = 1 → Q (some (vi 1)) w))))) : Wp m_Lt_isAtom 0 [(0, vr r0)] [] (0, 0) w Q := by
  refine wp_ly (fun hly => ?_)
  refine wp_aload_n d_Lt_isAtom_0 (i := 0) rfl 0 rfl ?_
  refine wp_getI d_Lt_isAtom_1 fl_Lt_19 cl_3 rfl (ly_o hly (lt_o hr0)) ?_
  refine wp_if_eq (tgt := 15) d_Lt_isAtom_4 (by decide) (fun hc => ?_) (fun hc => ?_)
  · replace h := h.1 hc
    refine wp_iconst d_Lt_isAtom_15 (by decide) ?_
    refine wp_goto (tgt := 20) d_Lt_isAtom_16 (by decide) ?_
    exact wp_zret d_Lt_isAtom_20 rfl (by decide) (by decide) h
  · replace h := h.2 hc
    refine wp_aload_n d_Lt_isAtom_7 (i := 0) rfl 0 rfl ?_
    refine wp_getI d_Lt_isAtom_8 fl_Lt_19 cl_3 rfl (ly_o hly (lt_o hr0)) ?_
    refine wp_iconst d_Lt_isAtom_11 (by decide) ?_
    refine wp_icmp_ne (tgt := 19) d_Lt_isAtom_12 (by decide) (fun hc => ?_) (fun hc => ?_)
    · replace h := h.1 hc
      refine wp_iconst d_Lt_isAtom_19 (by decide) ?_
      exact wp_zret d_Lt_isAtom_20 rfl (by decide) (by decide) h
    · replace h := h.2 hc
      refine wp_iconst d_Lt_isAtom_15 (by decide) ?_
      refine wp_goto (tgt := 20) d_Lt_isAtom_16 (by decide) ?_
      exact wp_zret d_Lt_isAtom_20 rfl (by decide) (by decide) h
set_option maxRecDepth 20000 in
set_option maxHeartbeats 2000000 in
theorem t_Lt_variablesFrom_0 {r0 : Nat} {x1 : Int} (hr0 : isLt r0) {w : Wo} {Q : Option AV → Wo → Prop} (h : Wp m_Lt_variablesFrom 4 [(0, vr r0), (2, vi 0), (3, vi x1)] [] (0, 0) w Q) : Wp m_Lt_variablesFrom 0 [(0, vr r0), (1, vi x1)] [] (0, 0) w Q := by
  refine wp_ly (fun hly => ?_)
  refine wp_iconst d_Lt_variablesFrom_0 (by decide) ?_
  refine wp_istore_n (L' := [(2, vi 0), (0, vr r0), (1, vi x1)]) d_Lt_variablesFrom_1 (i := 2) rfl rfl (by decide) ?_
  refine wp_iload_n d_Lt_variablesFrom_2 (i := 1) rfl 2 rfl ?_
  refine wp_istore_n (L' := [(3, vi x1), (2, vi 0), (0, vr r0), (1, vi x1)]) d_Lt_variablesFrom_3 (i := 3) rfl rfl (by decide) ?_
  exact wp_pick [2, 1, 0] rfl h
set_option maxRecDepth 20000 in
set_option maxHeartbeats 2000000 in
theorem t_Lt_variablesFrom_4 {r0 : Nat} {x2 : Int} {x3 : Int} (hr0 : isLt r0) {w : Wo} {Q : Option AV → Wo → Prop} (h : (((gI w r0 4) ≤ x3 → Q (some (vi x2)) w) ∧ (¬ (gI w r0 4) ≤ x3 → (0 ≤ x3 ∧ x3 < 4) ∧ inr32 (x3 + 1) ∧ Wp m_Lt_variablesFrom 4 [(0, vr r0), (2, vi (b_ior x2 (gI w (r0 + 2) x3.toNat))), (3, vi (x3 + 1))] [] (0, 0) w Q))) : Wp m_Lt_variablesFrom 4 [(0, vr r0), (2, vi x2), (3, vi x3)] [] (0, 0) w Q := by
  refine wp_ly (fun hly => ?_)
  refine wp_iload_n d_Lt_variablesFrom_4 (i := 3) rfl 2 rfl ?_
  refine wp_aload_n d_Lt_variablesFrom_5 (i := 0) rfl 0 rfl ?_
  refine wp_getI d_Lt_variablesFrom_6 fl_Lt_33 cl_3 rfl (ly_o hly (lt_o hr0)) ?_
  refine wp_icmp_ge (tgt := 27) d_Lt_variablesFrom_9 (by decide) (fun hc => ?_) (fun hc => ?_)
  · replace h := h.1 hc
    refine wp_iload_n d_Lt_variablesFrom_27 (i := 2) rfl 1 rfl ?_
    exact wp_iret d_Lt_variablesFrom_28 rfl (by decide) h
  · replace h := h.2 hc
    refine wp_iload_n d_Lt_variablesFrom_12 (i := 2) rfl 1 rfl ?_
    refine wp_aload_n d_Lt_variablesFrom_13 (i := 0) rfl 0 rfl ?_
    refine wp_getP d_Lt_variablesFrom_14 fl_Lt_15 cl_3 rfl (ly_o hly (lt_o hr0)) (lt_r6 hly hr0) ?_
    refine wp_iload_n d_Lt_variablesFrom_17 (i := 3) rfl 2 rfl ?_
    obtain ⟨hi1, h⟩ := h
    refine wp_iaload d_Lt_variablesFrom_18 (ly_a (n := 4) (N := 4) hly (lt_a6 hr0) hi1) ?_
    refine wp_ior d_Lt_variablesFrom_19 ?_
    refine wp_istore_n (L' := [(2, vi (b_ior x2 (gI w (r0 + 2) x3.toNat))), (0, vr r0), (3, vi x3)]) d_Lt_variablesFrom_20 (i := 2) rfl rfl (by decide) ?_
    obtain ⟨ho, h⟩ := h
    refine wp_iinc (L' := [(3, vi (x3 + 1)), (2, vi (b_ior x2 (gI w (r0 + 2) x3.toNat))), (0, vr r0)]) d_Lt_variablesFrom_21 2 rfl rfl (by decide) ho ?_
    refine wp_goto (tgt := 4) d_Lt_variablesFrom_24 (by decide) ?_
    exact wp_pick [2, 1, 0] rfl h
set_option maxRecDepth 20000 in
set_option maxHeartbeats 2000000 in
theorem t_Lt_canBeAsked_0 {r0 : Nat} {x1 : Int} (hr0 : isLt r0) {w : Wo} {Q : Option AV → Wo → Prop} (h : (((gI w r0 3) = 0 → ((¬ (gI w r0 0) = 3 → MetI m_Lt_variablesFrom [vr r0, vi 0] w (fun z2 w1 => ((¬ (b_iand z2 (b_ixor x1 (-1))) = 0 → Q (some (vi 0)) w1) ∧ ((b_iand z2 (b_ixor x1 (-1))) = 0 → Q (some (vi 1)) w1)))) ∧ ((gI w r0 0) = 3 → MetI m_Lt_variablesFrom [vr r0, vi 1] w (fun z4 w3 => ((¬ (b_iand z4 (b_ixor x1 (-1))) = 0 → Q (some (vi 0)) w3) ∧ ((b_iand z4 (b_ixor x1 (-1))) = 0 → Q (some (vi 1)) w3)))))) ∧ (¬ (gI w r0 3) = 0 → (((b_iand (gI w (r0 + 2) 0) (b_ixor x1 (-1))) = 0 → Q (some (vi 1)) w) ∧ (¬ (b_iand (gI w (r0 + 2) 0) (b_ixor x1 (-1))) = 0 → ((¬ (b_iand (gI w (r0 + 2) 1) (b_ixor x1 (-1))) = 0 → Q (some (vi 0)) w) ∧ ((b_iand (gI w (r0 + 2) 1) (b_ixor x1 (-1))) = 0 → Q (some (vi 1)) w))))))) : Wp m_Lt_canBeAsked 0 [(0, vr r0), (1, vi x1)] [] (0, 0) w Q := by
  refine wp_ly (fun hly => ?_)
  refine wp_aload_n d_Lt_canBeAsked_0 (i := 0) rfl 0 rfl ?_
  refine wp_getI d_Lt_canBeAsked_1 fl_Lt_29 cl_3 rfl (ly_o hly (lt_o hr0)) ?_
  refine wp_if_eq (tgt := 39) d_Lt_canBeAsked_4 (by decide) (fun hc => ?_) (fun hc => ?_)
  · replace h := h.1 hc
    refine wp_aload_n d_Lt_canBeAsked_39 (i := 0) rfl 0 rfl ?_
    refine wp_aload_n d_Lt_canBeAsked_40 (i := 0) rfl 0 rfl ?_
    refine wp_getI d_Lt_canBeAsked_41 fl_Lt_19 cl_3 rfl (ly_o hly (lt_o hr0)) ?_
    refine wp_iconst d_Lt_canBeAsked_44 (by decide) ?_
    refine wp_icmp_ne (tgt := 52) d_Lt_canBeAsked_45 (by decide) (fun hc => ?_) (fun hc => ?_)
    · replace h := h.1 hc
      refine wp_iconst d_Lt_canBeAsked_52 (by decide) ?_
      refine wp_callV (A := [vi 0]) (S := []) d_Lt_canBeAsked_53 cv_Lt_canBeAsked_40 (ly_o hly (lt_o hr0)) rfl (Nat.le_of_ble_eq_true rfl) (by decide) (MetS.mono h (fun r w1 hh => ?_))
      obtain ⟨z2, er, h⟩ := hh
      subst er
      refine wp_ly (fun hly => ?_)
      refine wp_istore_n (L' := [(2, vi z2), (0, vr r0), (1, vi x1)]) d_Lt_canBeAsked_56 (i := 2) rfl rfl (by decide) ?_
      refine wp_iload_n d_Lt_canBeAsked_57 (i := 2) rfl 0 rfl ?_
      refine wp_iload_n d_Lt_canBeAsked_58 (i := 1) rfl 2 rfl ?_
      refine wp_iconst d_Lt_canBeAsked_59 (by decide) ?_
      refine wp_ixor d_Lt_canBeAsked_60 ?_
      refine wp_iand d_Lt_canBeAsked_61 ?_
      refine wp_if_ne (tgt := 69) d_Lt_canBeAsked_62 (by decide) (fun hc => ?_) (fun hc => ?_)
      · replace h := h.1 hc
        refine wp_iconst d_Lt_canBeAsked_69 (by decide) ?_
        exact wp_zret d_Lt_canBeAsked_70 rfl (by decide) (by decide) h
      · replace h := h.2 hc
        refine wp_iconst d_Lt_canBeAsked_65 (by decide) ?_
        refine wp_goto (tgt := 70) d_Lt_canBeAsked_66 (by decide) ?_
        exact wp_zret d_Lt_canBeAsked_70 rfl (by decide) (by decide) h
    · replace h := h.2 hc
      refine wp_iconst d_Lt_canBeAsked_48 (by decide) ?_
      refine wp_goto (tgt := 53) d_Lt_canBeAsked_49 (by decide) ?_
      refine wp_callV (A := [vi 1]) (S := []) d_Lt_canBeAsked_53 cv_Lt_canBeAsked_40 (ly_o hly (lt_o hr0)) rfl (Nat.le_of_ble_eq_true rfl) (by decide) (MetS.mono h (fun r w3 hh => ?_))
      obtain ⟨z4, er, h⟩ := hh
      subst er
      refine wp_ly (fun hly => ?_)
      refine wp_istore_n (L' := [(2, vi z4), (0, vr r0), (1, vi x1)]) d_Lt_canBeAsked_56 (i := 2) rfl rfl (by decide) ?_
      refine wp_iload_n d_Lt_canBeAsked_57 (i := 2) rfl 0 rfl ?_
      refine wp_iload_n d_Lt_canBeAsked_58 (i := 1) rfl 2 rfl ?_
      refine wp_iconst d_Lt_canBeAsked_59 (by decide) ?_
      refine wp_ixor d_Lt_canBeAsked_60 ?_
      refine wp_iand d_Lt_canBeAsked_61 ?_
      refine wp_if_ne (tgt := 69) d_Lt_canBeAsked_62 (by decide) (fun hc => ?_) (fun hc => ?_)
      · replace h := h.1 hc
        refine wp_iconst d_Lt_canBeAsked_69 (by decide) ?_
        exact wp_zret d_Lt_canBeAsked_70 rfl (by decide) (by decide) h
      · replace h := h.2 hc
        refine wp_iconst d_Lt_canBeAsked_65 (by decide) ?_
        refine wp_goto (tgt := 70) d_Lt_canBeAsked_66 (by decide) ?_
        exact wp_zret d_Lt_canBeAsked_70 rfl (by decide) (by decide) h
  · replace h := h.2 hc
    refine wp_aload_n d_Lt_canBeAsked_7 (i := 0) rfl 0 rfl ?_
    refine wp_getP d_Lt_canBeAsked_8 fl_Lt_15 cl_3 rfl (ly_o hly (lt_o hr0)) (lt_r6 hly hr0) ?_
    refine wp_iconst d_Lt_canBeAsked_11 (by decide) ?_
    refine wp_iaload d_Lt_canBeAsked_12 (ly_a (n := 4) (N := 4) hly (lt_a6 hr0) (by decide)) ?_
    refine wp_iload_n d_Lt_canBeAsked_13 (i := 1) rfl 1 rfl ?_
    refine wp_iconst d_Lt_canBeAsked_14 (by decide) ?_
    refine wp_ixor d_Lt_canBeAsked_15 ?_
    refine wp_iand d_Lt_canBeAsked_16 ?_
    refine wp_if_eq (tgt := 33) d_Lt_canBeAsked_17 (by decide) (fun hc => ?_) (fun hc => ?_)
    · replace h := h.1 hc
      refine wp_iconst d_Lt_canBeAsked_33 (by decide) ?_
      refine wp_goto (tgt := 38) d_Lt_canBeAsked_34 (by decide) ?_
      exact wp_zret d_Lt_canBeAsked_38 rfl (by decide) (by decide) h
    · replace h := h.2 hc
      refine wp_aload_n d_Lt_canBeAsked_20 (i := 0) rfl 0 rfl ?_
      refine wp_getP d_Lt_canBeAsked_21 fl_Lt_15 cl_3 rfl (ly_o hly (lt_o hr0)) (lt_r6 hly hr0) ?_
      refine wp_iconst d_Lt_canBeAsked_24 (by decide) ?_
      refine wp_iaload d_Lt_canBeAsked_25 (ly_a (n := 4) (N := 4) hly (lt_a6 hr0) (by decide)) ?_
      refine wp_iload_n d_Lt_canBeAsked_26 (i := 1) rfl 1 rfl ?_
      refine wp_iconst d_Lt_canBeAsked_27 (by decide) ?_
      refine wp_ixor d_Lt_canBeAsked_28 ?_
      refine wp_iand d_Lt_canBeAsked_29 ?_
      refine wp_if_ne (tgt := 37) d_Lt_canBeAsked_30 (by decide) (fun hc => ?_) (fun hc => ?_)
      · replace h := h.1 hc
        refine wp_iconst d_Lt_canBeAsked_37 (by decide) ?_
        exact wp_zret d_Lt_canBeAsked_38 rfl (by decide) (by decide) h
      · replace h := h.2 hc
        refine wp_iconst d_Lt_canBeAsked_33 (by decide) ?_
        refine wp_goto (tgt := 38) d_Lt_canBeAsked_34 (by decide) ?_
        exact wp_zret d_Lt_canBeAsked_38 rfl (by decide) (by decide) h
set_option maxRecDepth 20000 in
set_option maxHeartbeats 2000000 in
theorem t_Lt_knownArguments_0 {r0 : Nat} {x1 : Int} (hr0 : isLt r0) {w : Wo} {Q : Option AV → Wo → Prop} (h : Wp m_Lt_knownArguments 4 [(0, vr r0), (1, vi x1), (2, vi 0), (3, vi 0)] [] (0, 0) w Q) : Wp m_Lt_knownArguments 0 [(0, vr r0), (1, vi x1)] [] (0, 0) w Q := by
  refine wp_ly (fun hly => ?_)
  refine wp_iconst d_Lt_knownArguments_0 (by decide) ?_
  refine wp_istore_n (L' := [(2, vi 0), (0, vr r0), (1, vi x1)]) d_Lt_knownArguments_1 (i := 2) rfl rfl (by decide) ?_
  refine wp_iconst d_Lt_knownArguments_2 (by decide) ?_
  refine wp_istore_n (L' := [(3, vi 0), (2, vi 0), (0, vr r0), (1, vi x1)]) d_Lt_knownArguments_3 (i := 3) rfl rfl (by decide) ?_
  exact wp_pick [2, 3, 1, 0] rfl h
set_option maxRecDepth 20000 in
set_option maxHeartbeats 2000000 in
theorem t_Lt_knownArguments_4 {r0 : Nat} {x1 : Int} {x2 : Int} {x3 : Int} (hr0 : isLt r0) {w : Wo} {Q : Option AV → Wo → Prop} (h : (((gI w r0 4) ≤ x3 → Q (some (vi x2)) w) ∧ (¬ (gI w r0 4) ≤ x3 → (0 ≤ x3 ∧ x3 < 4) ∧ (((b_lcmp (gJ w (r0 + 1) x3.toNat) 4503599627370496) = 0 → inr32 (x3 + 1) ∧ Wp m_Lt_knownArguments 4 [(0, vr r0), (1, vi x1), (2, vi x2), (3, vi (x3 + 1))] [] (0, 0) w Q) ∧ (¬ (b_lcmp (gJ w (r0 + 1) x3.toNat) 4503599627370496) = 0 → (0 ≤ x3 ∧ x3 < 4) ∧ ((¬ (b_iand (gI w (r0 + 2) x3.toNat) (b_ixor x1 (-1))) = 0 → inr32 (x3 + 1) ∧ Wp m_Lt_knownArguments 4 [(0, vr r0), (1, vi x1), (2, vi x2), (3, vi (x3 + 1))] [] (0, 0) w Q) ∧ ((b_iand (gI w (r0 + 2) x3.toNat) (b_ixor x1 (-1))) = 0 → inr32 (x3 + 1) ∧ Wp m_Lt_knownArguments 4 [(0, vr r0), (1, vi x1), (2, vi (b_ior x2 (b_ishl 1 x3))), (3, vi (x3 + 1))] [] (0, 0) w Q))))))) : Wp m_Lt_knownArguments 4 [(0, vr r0), (1, vi x1), (2, vi x2), (3, vi x3)] [] (0, 0) w Q := by
  refine wp_ly (fun hly => ?_)
  refine wp_iload_n d_Lt_knownArguments_4 (i := 3) rfl 3 rfl ?_
  refine wp_aload_n d_Lt_knownArguments_5 (i := 0) rfl 0 rfl ?_
  refine wp_getI d_Lt_knownArguments_6 fl_Lt_33 cl_3 rfl (ly_o hly (lt_o hr0)) ?_
  refine wp_icmp_ge (tgt := 50) d_Lt_knownArguments_9 (by decide) (fun hc => ?_) (fun hc => ?_)
  · replace h := h.1 hc
    refine wp_iload_n d_Lt_knownArguments_50 (i := 2) rfl 2 rfl ?_
    exact wp_iret d_Lt_knownArguments_51 rfl (by decide) h
  · replace h := h.2 hc
    refine wp_aload_n d_Lt_knownArguments_12 (i := 0) rfl 0 rfl ?_
    refine wp_getP d_Lt_knownArguments_13 fl_Lt_9 cl_3 rfl (ly_o hly (lt_o hr0)) (lt_r5 hly hr0) ?_
    refine wp_iload_n d_Lt_knownArguments_16 (i := 3) rfl 3 rfl ?_
    obtain ⟨hi1, h⟩ := h
    refine wp_laload d_Lt_knownArguments_17 (ly_a (n := 4) (N := 4) hly (lt_a5 hr0) hi1) ?_
    refine wp_ldc2 d_Lt_knownArguments_18 (x := 4503599627370496) lc_Lt_38 (by decide) ?_
    refine wp_lcmp d_Lt_knownArguments_21 ?_
    refine wp_if_eq (tgt := 44) d_Lt_knownArguments_22 (by decide) (fun hc => ?_) (fun hc => ?_)
    · replace h := h.1 hc
      obtain ⟨ho, h⟩ := h
      refine wp_iinc (L' := [(3, vi (x3 + 1)), (0, vr r0), (1, vi x1), (2, vi x2)]) d_Lt_knownArguments_44 3 rfl rfl (by decide) ho ?_
      refine wp_goto (tgt := 4) d_Lt_knownArguments_47 (by decide) ?_
      exact wp_pick [1, 2, 3, 0] rfl h
    · replace h := h.2 hc
      refine wp_aload_n d_Lt_knownArguments_25 (i := 0) rfl 0 rfl ?_
      refine wp_getP d_Lt_knownArguments_26 fl_Lt_15 cl_3 rfl (ly_o hly (lt_o hr0)) (lt_r6 hly hr0) ?_
      refine wp_iload_n d_Lt_knownArguments_29 (i := 3) rfl 3 rfl ?_
      obtain ⟨hi2, h⟩ := h
      refine wp_iaload d_Lt_knownArguments_30 (ly_a (n := 4) (N := 4) hly (lt_a6 hr0) hi2) ?_
      refine wp_iload_n d_Lt_knownArguments_31 (i := 1) rfl 1 rfl ?_
      refine wp_iconst d_Lt_knownArguments_32 (by decide) ?_
      refine wp_ixor d_Lt_knownArguments_33 ?_
      refine wp_iand d_Lt_knownArguments_34 ?_
      refine wp_if_ne (tgt := 44) d_Lt_knownArguments_35 (by decide) (fun hc => ?_) (fun hc => ?_)
      · replace h := h.1 hc
        obtain ⟨ho, h⟩ := h
        refine wp_iinc (L' := [(3, vi (x3 + 1)), (0, vr r0), (1, vi x1), (2, vi x2)]) d_Lt_knownArguments_44 3 rfl rfl (by decide) ho ?_
        refine wp_goto (tgt := 4) d_Lt_knownArguments_47 (by decide) ?_
        exact wp_pick [1, 2, 3, 0] rfl h
      · replace h := h.2 hc
        refine wp_iload_n d_Lt_knownArguments_38 (i := 2) rfl 2 rfl ?_
        refine wp_iconst d_Lt_knownArguments_39 (by decide) ?_
        refine wp_iload_n d_Lt_knownArguments_40 (i := 3) rfl 3 rfl ?_
        refine wp_ishl d_Lt_knownArguments_41 ?_
        refine wp_ior d_Lt_knownArguments_42 ?_
        refine wp_istore_n (L' := [(2, vi (b_ior x2 (b_ishl 1 x3))), (0, vr r0), (1, vi x1), (3, vi x3)]) d_Lt_knownArguments_43 (i := 2) rfl rfl (by decide) ?_
        obtain ⟨ho, h⟩ := h
        refine wp_iinc (L' := [(3, vi (x3 + 1)), (2, vi (b_ior x2 (b_ishl 1 x3))), (0, vr r0), (1, vi x1)]) d_Lt_knownArguments_44 3 rfl rfl (by decide) ho ?_
        refine wp_goto (tgt := 4) d_Lt_knownArguments_47 (by decide) ?_
        exact wp_pick [2, 3, 1, 0] rfl h

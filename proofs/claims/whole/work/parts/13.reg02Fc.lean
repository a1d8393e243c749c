set_option maxRecDepth 20000 in
set_option maxHeartbeats 2000000 in
theorem t_Fc_add_0 {r1 : Nat} (hr1 : isLt r1) {w : Wo} {Q : Option AV → Wo → Prop} (h : Wp m_Fc_add 2 [(0, vr 37), (1, vr r1), (2, vi 0)] [] (0, 0) w Q) : Wp m_Fc_add 0 [(0, vr 37), (1, vr r1)] [] (0, 0) w Q := by
  refine wp_ly (fun hly => ?_)
  refine wp_iconst d_Fc_add_0 (by decide) ?_
  refine wp_istore_n (L' := [(2, vi 0), (0, vr 37), (1, vr r1)]) d_Fc_add_1 (i := 2) rfl rfl (by decide) ?_
  exact wp_pick [1, 2, 0] rfl h
set_option maxRecDepth 20000 in
set_option maxHeartbeats 2000000 in
theorem t_Fc_add_2 {r1 : Nat} {x2 : Int} (hr1 : isLt r1) {w : Wo} {Q : Option AV → Wo → Prop} (h : (((gI w 37 2) ≤ x2 → ((120 ≤ (gI w 37 2) → Q (some (vi 1)) w) ∧ (¬ 120 ≤ (gI w 37 2) → (0 ≤ (gI w 37 2) ∧ (gI w 37 2) < 120) ∧ (∀ w2 : Wo, w2 = uI w 38 (gI w 37 2).toNat (gI w r1 2) → inr32 ((gI w2 37 2) * 4) ∧ ((0 : Int) ≤ 0 ∧ 0 ≤ ((gI w2 37 2) * 4) ∧ 0 ≤ (gI w2 r1 4) ∧ 0 + (gI w2 r1 4) ≤ ((4 : Nat) : Int) ∧ ((gI w2 37 2) * 4) + (gI w2 r1 4) ≤ ((480 : Nat) : Int)) ∧ (∀ w4 : Wo, w4 = cpJ w2 (r1 + 1) 0 39 ((gI w2 37 2) * 4).toNat (gI w2 r1 4).toNat → inr32 ((gI w4 37 2) + 1) ∧ (∀ w6 : Wo, w6 = uI w4 37 2 ((gI w4 37 2) + 1) → Q (some (vi 1)) w6)))))) ∧ (¬ (gI w 37 2) ≤ x2 → (0 ≤ x2 ∧ x2 < 120) ∧ ((¬ (gI w 38 x2.toNat) = (gI w r1 2) → inr32 (x2 + 1) ∧ Wp m_Fc_add 2 [(0, vr 37), (1, vr r1), (2, vi (x2 + 1))] [] (0, 0) w Q) ∧ ((gI w 38 x2.toNat) = (gI w r1 2) → MetI m_Fc_isSame [vr 37, vi x2, vr r1] w (fun z10 w9 => ((z10 = 0 → inr32 (x2 + 1) ∧ Wp m_Fc_add 2 [(0, vr 37), (1, vr r1), (2, vi (x2 + 1))] [] (0, 0) w9 Q) ∧ (¬ z10 = 0 → Q (some (vi 0)) w9)))))))) : Wp m_Fc_add 2 [(0, vr 37), (1, vr r1), (2, vi x2)] [] (0, 0) w Q := by
  refine wp_ly (fun hly => ?_)
  refine wp_iload_n d_Fc_add_2 (i := 2) rfl 2 rfl ?_
  refine wp_aload_n d_Fc_add_3 (i := 0) rfl 0 rfl ?_
  refine wp_getI d_Fc_add_4 fl_Fc_19 cl_2 rfl (ly_o hly (by decide)) ?_
  refine wp_icmp_ge (tgt := 40) d_Fc_add_7 (by decide) (fun hc => ?_) (fun hc => ?_)
  · replace h := h.1 hc
    refine wp_aload_n d_Fc_add_40 (i := 0) rfl 0 rfl ?_
    refine wp_getI d_Fc_add_41 fl_Fc_19 cl_2 rfl (ly_o hly (by decide)) ?_
    refine wp_bipush d_Fc_add_44 (by decide) (by decide) ?_
    refine wp_icmp_ge (tgt := 94) d_Fc_add_46 (by decide) (fun hc => ?_) (fun hc => ?_)
    · replace h := h.1 hc
      refine wp_iconst d_Fc_add_94 (by decide) ?_
      exact wp_zret d_Fc_add_95 rfl (by decide) (by decide) h
    · replace h := h.2 hc
      refine wp_aload_n d_Fc_add_49 (i := 0) rfl 0 rfl ?_
      refine wp_getP d_Fc_add_50 fl_Fc_9 cl_2 rfl (ly_o hly (by decide)) (ly_r (v := 38) hly (by decide +kernel)) ?_
      refine wp_aload_n d_Fc_add_53 (i := 0) rfl 0 rfl ?_
      refine wp_getI d_Fc_add_54 fl_Fc_19 cl_2 rfl (ly_o hly (by decide)) ?_
      refine wp_aload_n d_Fc_add_57 (i := 1) rfl 1 rfl ?_
      refine wp_getI d_Fc_add_58 fl_Fc_23 cl_3 rfl (ly_o hly (lt_o hr1)) ?_
      obtain ⟨hi1, h⟩ := h
      refine wp_iastore d_Fc_add_61 (ly_a (n := 120) (N := 120) hly (by decide) hi1) (fun w2 e3 => ?_)
      replace h := h w2 e3
      refine wp_ly (fun hly => ?_)
      refine wp_aload_n d_Fc_add_62 (i := 1) rfl 1 rfl ?_
      refine wp_getP d_Fc_add_63 fl_Fc_32 cl_3 rfl (ly_o hly (lt_o hr1)) (lt_r5 hly hr1) ?_
      refine wp_iconst d_Fc_add_66 (by decide) ?_
      refine wp_aload_n d_Fc_add_67 (i := 0) rfl 0 rfl ?_
      refine wp_getP d_Fc_add_68 fl_Fc_15 cl_2 rfl (ly_o hly (by decide)) (ly_r (v := 39) hly (by decide +kernel)) ?_
      refine wp_aload_n d_Fc_add_71 (i := 0) rfl 0 rfl ?_
      refine wp_getI d_Fc_add_72 fl_Fc_19 cl_2 rfl (ly_o hly (by decide)) ?_
      refine wp_iconst d_Fc_add_75 (by decide) ?_
      obtain ⟨ho, h⟩ := h
      refine wp_imul d_Fc_add_76 ho ?_
      refine wp_aload_n d_Fc_add_77 (i := 1) rfl 1 rfl ?_
      refine wp_getI d_Fc_add_78 fl_Fc_33 cl_3 rfl (ly_o hly (lt_o hr1)) ?_
      obtain ⟨ho, h⟩ := h
      refine wp_acopy (n0 := 4) (n1 := 480) d_Fc_add_81 (aw3 (i := 181) rfl rfl) (aw3 (i := 183) rfl rfl) (aw3 (i := 182) rfl rfl) (aw1 (i := 17) rfl rfl) (ly_o hly (lt_a5 hr1)) (ly_o hly (by decide)) (by decide) (by decide) ho (by decide) (by decide) (fun w4 e5 => ?_)
      replace h := h w4 e5
      refine wp_ly (fun hly => ?_)
      refine wp_aload_n d_Fc_add_84 (i := 0) rfl 0 rfl ?_
      refine wp_dup d_Fc_add_85 rfl ?_
      refine wp_getI d_Fc_add_86 fl_Fc_19 cl_2 rfl (ly_o hly (by decide)) ?_
      refine wp_iconst d_Fc_add_89 (by decide) ?_
      obtain ⟨ho, h⟩ := h
      refine wp_iadd d_Fc_add_90 ho ?_
      refine wp_putI d_Fc_add_91 fl_Fc_19 cl_2 ⟨rfl, rfl⟩ (ly_o hly (by decide)) (fun w6 e7 => ?_)
      replace h := h w6 e7
      refine wp_ly (fun hly => ?_)
      refine wp_iconst d_Fc_add_94 (by decide) ?_
      exact wp_zret d_Fc_add_95 rfl (by decide) (by decide) h
  · replace h := h.2 hc
    refine wp_aload_n d_Fc_add_10 (i := 0) rfl 0 rfl ?_
    refine wp_getP d_Fc_add_11 fl_Fc_9 cl_2 rfl (ly_o hly (by decide)) (ly_r (v := 38) hly (by decide +kernel)) ?_
    refine wp_iload_n d_Fc_add_14 (i := 2) rfl 2 rfl ?_
    obtain ⟨hi8, h⟩ := h
    refine wp_iaload d_Fc_add_15 (ly_a (n := 120) (N := 120) hly (by decide) hi8) ?_
    refine wp_aload_n d_Fc_add_16 (i := 1) rfl 1 rfl ?_
    refine wp_getI d_Fc_add_17 fl_Fc_23 cl_3 rfl (ly_o hly (lt_o hr1)) ?_
    refine wp_icmp_ne (tgt := 34) d_Fc_add_20 (by decide) (fun hc => ?_) (fun hc => ?_)
    · replace h := h.1 hc
      obtain ⟨ho, h⟩ := h
      refine wp_iinc (L' := [(2, vi (x2 + 1)), (0, vr 37), (1, vr r1)]) d_Fc_add_34 2 rfl rfl (by decide) ho ?_
      refine wp_goto (tgt := 2) d_Fc_add_37 (by decide) ?_
      exact wp_pick [1, 2, 0] rfl h
    · replace h := h.2 hc
      refine wp_aload_n d_Fc_add_23 (i := 0) rfl 0 rfl ?_
      refine wp_iload_n d_Fc_add_24 (i := 2) rfl 2 rfl ?_
      refine wp_aload_n d_Fc_add_25 (i := 1) rfl 1 rfl ?_
      refine wp_callV (A := [vi x2, vr r1]) (S := []) d_Fc_add_26 cv_Fc_add_28 (ly_o hly (by decide)) rfl (Nat.le_of_ble_eq_true rfl) (by decide) (MetS.mono h (fun r w9 hh => ?_))
      obtain ⟨z10, er, h⟩ := hh
      subst er
      refine wp_ly (fun hly => ?_)
      refine wp_if_eq (tgt := 34) d_Fc_add_29 (by decide) (fun hc => ?_) (fun hc => ?_)
      · replace h := h.1 hc
        obtain ⟨ho, h⟩ := h
        refine wp_iinc (L' := [(2, vi (x2 + 1)), (0, vr 37), (1, vr r1)]) d_Fc_add_34 2 rfl rfl (by decide) ho ?_
        refine wp_goto (tgt := 2) d_Fc_add_37 (by decide) ?_
        exact wp_pick [1, 2, 0] rfl h
      · replace h := h.2 hc
        refine wp_iconst d_Fc_add_32 (by decide) ?_
        exact wp_zret d_Fc_add_33 rfl (by decide) (by decide) h
set_option maxRecDepth 20000 in
set_option maxHeartbeats 2000000 in
theorem t_Fc_isSame_0 {x1 : Int} {r2 : Nat} (hr2 : isLt r2) {w : Wo} {Q : Option AV → Wo → Prop} (h : Wp m_Fc_isSame 2 [(0, vr 37), (1, vi x1), (2, vr r2), (3, vi 0)] [] (0, 0) w Q) : Wp m_Fc_isSame 0 [(0, vr 37), (1, vi x1), (2, vr r2)] [] (0, 0) w Q := by
  refine wp_ly (fun hly => ?_)
  refine wp_iconst d_Fc_isSame_0 (by decide) ?_
  refine wp_istore_n (L' := [(3, vi 0), (0, vr 37), (1, vi x1), (2, vr r2)]) d_Fc_isSame_1 (i := 3) rfl rfl (by decide) ?_
  exact wp_pick [1, 2, 3, 0] rfl h
set_option maxRecDepth 20000 in
set_option maxHeartbeats 2000000 in
theorem t_Fc_isSame_2 {x1 : Int} {r2 : Nat} {x3 : Int} (hr2 : isLt r2) {w : Wo} {Q : Option AV → Wo → Prop} (h : (((gI w r2 4) ≤ x3 → Q (some (vi 1)) w) ∧ (¬ (gI w r2 4) ≤ x3 → inr32 (x1 * 4) ∧ inr32 ((x1 * 4) + x3) ∧ (0 ≤ ((x1 * 4) + x3) ∧ ((x1 * 4) + x3) < 480) ∧ (0 ≤ x3 ∧ x3 < 4) ∧ (((b_lcmp (gJ w 39 ((x1 * 4) + x3).toNat) (gJ w (r2 + 1) x3.toNat)) = 0 → inr32 (x3 + 1) ∧ Wp m_Fc_isSame 2 [(0, vr 37), (1, vi x1), (2, vr r2), (3, vi (x3 + 1))] [] (0, 0) w Q) ∧ (¬ (b_lcmp (gJ w 39 ((x1 * 4) + x3).toNat) (gJ w (r2 + 1) x3.toNat)) = 0 → Q (some (vi 0)) w))))) : Wp m_Fc_isSame 2 [(0, vr 37), (1, vi x1), (2, vr r2), (3, vi x3)] [] (0, 0) w Q := by
  refine wp_ly (fun hly => ?_)
  refine wp_iload_n d_Fc_isSame_2 (i := 3) rfl 3 rfl ?_
  refine wp_aload_n d_Fc_isSame_3 (i := 2) rfl 2 rfl ?_
  refine wp_getI d_Fc_isSame_4 fl_Fc_33 cl_3 rfl (ly_o hly (lt_o hr2)) ?_
  refine wp_icmp_ge (tgt := 38) d_Fc_isSame_7 (by decide) (fun hc => ?_) (fun hc => ?_)
  · replace h := h.1 hc
    refine wp_iconst d_Fc_isSame_38 (by decide) ?_
    exact wp_zret d_Fc_isSame_39 rfl (by decide) (by decide) h
  · replace h := h.2 hc
    refine wp_aload_n d_Fc_isSame_10 (i := 0) rfl 0 rfl ?_
    refine wp_getP d_Fc_isSame_11 fl_Fc_15 cl_2 rfl (ly_o hly (by decide)) (ly_r (v := 39) hly (by decide +kernel)) ?_
    refine wp_iload_n d_Fc_isSame_14 (i := 1) rfl 1 rfl ?_
    refine wp_iconst d_Fc_isSame_15 (by decide) ?_
    obtain ⟨ho, h⟩ := h
    refine wp_imul d_Fc_isSame_16 ho ?_
    refine wp_iload_n d_Fc_isSame_17 (i := 3) rfl 3 rfl ?_
    obtain ⟨ho, h⟩ := h
    refine wp_iadd d_Fc_isSame_18 ho ?_
    obtain ⟨hi1, h⟩ := h
    refine wp_laload d_Fc_isSame_19 (ly_a (n := 480) (N := 480) hly (by decide) hi1) ?_
    refine wp_aload_n d_Fc_isSame_20 (i := 2) rfl 2 rfl ?_
    refine wp_getP d_Fc_isSame_21 fl_Fc_32 cl_3 rfl (ly_o hly (lt_o hr2)) (lt_r5 hly hr2) ?_
    refine wp_iload_n d_Fc_isSame_24 (i := 3) rfl 3 rfl ?_
    obtain ⟨hi2, h⟩ := h
    refine wp_laload d_Fc_isSame_25 (ly_a (n := 4) (N := 4) hly (lt_a5 hr2) hi2) ?_
    refine wp_lcmp d_Fc_isSame_26 ?_
    refine wp_if_eq (tgt := 32) d_Fc_isSame_27 (by decide) (fun hc => ?_) (fun hc => ?_)
    · replace h := h.1 hc
      obtain ⟨ho, h⟩ := h
      refine wp_iinc (L' := [(3, vi (x3 + 1)), (0, vr 37), (1, vi x1), (2, vr r2)]) d_Fc_isSame_32 3 rfl rfl (by decide) ho ?_
      refine wp_goto (tgt := 2) d_Fc_isSame_35 (by decide) ?_
      exact wp_pick [1, 2, 3, 0] rfl h
    · replace h := h.2 hc
      refine wp_iconst d_Fc_isSame_30 (by decide) ?_
      exact wp_zret d_Fc_isSame_31 rfl (by decide) (by decide) h

set_option maxRecDepth 20000 in
set_option maxHeartbeats 2000000 in
theorem t_Fc_add_0 {r1 : Nat} (hr1 : isLt r1) {w : Wo} {Q : Option AV → Wo → Prop} (h : Wp m_Fc_add 2 [(0, vr 37), (1, vr r1), (2, vi 0)] [] (0, 0) w Q) : Wp m_Fc_add 0 [(0, vr 37), (1, vr r1)] [] (0, 0) w Q := by
  refine wp_ly (fun hly => ?_)
  refine wp_iconst d_Fc_add_0 (by decide) ?_
  refine wp_istore_n (L' := [(2, vi 0), (0, vr 37), (1, vr r1)]) d_Fc_add_1 (i := 2) rfl rfl (by decide) ?_
  exact wp_pick [1, 2, 0] rfl h
set_option maxRecDepth 20000 in
set_option maxHeartbeats 2000000 in
theorem t_Fc_isSame_0 {x1 : Int} {r2 : Nat} (hr2 : isLt r2) {w : Wo} {Q : Option AV → Wo → Prop} (h : Wp m_Fc_isSame 2 [(0, vr 37), (1, vi x1), (2, vr r2), (3, vi 0)] [] (0, 0) w Q) : Wp m_Fc_isSame 0 [(0, vr 37), (1, vi x1), (2, vr r2)] [] (0, 0) w Q := by
  refine wp_ly (fun hly => ?_)
  refine wp_iconst d_Fc_isSame_0 (by decide) ?_
  refine wp_istore_n (L' := [(3, vi 0), (0, vr 37), (1, vi x1), (2, vr r2)]) d_Fc_isSame_1 (i := 3) rfl rfl (by decide) ?_
  exact wp_pick [1, 2, 3, 0] rfl h
set_option maxRecDepth 20000 in
set_option maxHeartbeats 2000000 in
theorem t_Fc_isSame_2 {x1 : Int} {r2 : Nat} {x3 : Int} (hr2 : isLt r2) {w : Wo} {Q : Option AV → Wo → Prop} (h : (((gI w r2 4) ≤ x3 → Q (some (vi 1)) w) ∧ (¬ (gI w r2 4) ≤ x3 → inr32 (x1 * 4) ∧ inr32 ((x1 * 4) + x3) ∧ (0 ≤ ((x1 * 4) + x3) ∧ ((x1 * 4) + x3) < 480) ∧ (0 ≤ x3 ∧ x3 < 4) ∧ (((b_lcmp (gJ w 39 ((x1 * 4) + x3).toNat) (gJ w (r2 + 1) x3.toNat)) = 0 → inr32 (x3 + 1) ∧ Wp m_Fc_isSame 2 [(0, vr 37), (1, vi x1), (2, vr r2), (3, vi (x3 + 1))] [] (0, 0) w Q) ∧ (¬ (b_lcmp (gJ w 39 ((x1 * 4) + x3).toNat) (gJ w (r2 + 1) x3.toNat)) = 0 → Q (some (vi 0)) w))))) : Wp m_Fc_isSame 2 [(0, vr 37), (1, vi x1), (2, vr r2), (3, vi x3)] [] (0, 0) w Q := by
  refine wp_ly (fun hly => ?_)
  refine wp_iload_n d_Fc_isSame_2 (i := 3) rfl 3 rfl ?_
  refine wp_aload_n d_Fc_isSame_3 (i := 2) rfl 2 rfl ?_
  refine wp_getI d_Fc_isSame_4 fl_Fc_33 cl_3 rfl (ly_o hly (lt_o hr2)) ?_
  refine wp_icmp_ge (tgt := 38) d_Fc_isSame_7 (by decide) (fun hc => ?_) (fun hc => ?_)
  · replace h := h.1 hc
    refine wp_iconst d_Fc_isSame_38 (by decide) ?_
    exact wp_zret d_Fc_isSame_39 rfl (by decide) (by decide) h
  · replace h := h.2 hc
    refine wp_aload_n d_Fc_isSame_10 (i := 0) rfl 0 rfl ?_
    refine wp_getP d_Fc_isSame_11 fl_Fc_15 cl_2 rfl (ly_o hly (by decide)) (ly_r (v := 39) hly (by decide +kernel)) ?_
    refine wp_iload_n d_Fc_isSame_14 (i := 1) rfl 1 rfl ?_
    refine wp_iconst d_Fc_isSame_15 (by decide) ?_
    obtain ⟨ho, h⟩ := h
    refine wp_imul d_Fc_isSame_16 ho ?_
    refine wp_iload_n d_Fc_isSame_17 (i := 3) rfl 3 rfl ?_
    obtain ⟨ho, h⟩ := h
    refine wp_iadd d_Fc_isSame_18 ho ?_
    obtain ⟨hi1, h⟩ := h
    refine wp_laload d_Fc_isSame_19 (ly_a (n := 480) (N := 480) hly (by decide) hi1) ?_
    refine wp_aload_n d_Fc_isSame_20 (i := 2) rfl 2 rfl ?_
    refine wp_getP d_Fc_isSame_21 fl_Fc_32 cl_3 rfl (ly_o hly (lt_o hr2)) (lt_r5 hly hr2) ?_
    refine wp_iload_n d_Fc_isSame_24 (i := 3) rfl 3 rfl ?_
    obtain ⟨hi2, h⟩ := h
    refine wp_laload d_Fc_isSame_25 (ly_a (n := 4) (N := 4) hly (lt_a5 hr2) hi2) ?_
    refine wp_lcmp d_Fc_isSame_26 ?_
    refine wp_if_eq (tgt := 32) d_Fc_isSame_27 (by decide) (fun hc => ?_) (fun hc => ?_)
    · replace h := h.1 hc
      obtain ⟨ho, h⟩ := h
      refine wp_iinc (L' := [(3, vi (x3 + 1)), (0, vr 37), (1, vi x1), (2, vr r2)]) d_Fc_isSame_32 3 rfl rfl (by decide) ho ?_
      refine wp_goto (tgt := 2) d_Fc_isSame_35 (by decide) ?_
      exact wp_pick [1, 2, 3, 0] rfl h
    · replace h := h.2 hc
      refine wp_iconst d_Fc_isSame_30 (by decide) ?_
      exact wp_zret d_Fc_isSame_31 rfl (by decide) (by decide) h

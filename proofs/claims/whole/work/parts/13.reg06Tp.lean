set_option maxRecDepth 20000 in
set_option maxHeartbeats 2000000 in
theorem t_Tp_add_0 {x1 : Int}  {w : Wo} {Q : Option AV → Wo → Prop} (h : ((600 ≤ (gI w 2 1) → Q none w) ∧ (¬ 600 ≤ (gI w 2 1) → (-128 ≤ x1 ∧ x1 < 128) ∧ (0 ≤ (gI w 2 1) ∧ (gI w 2 1) < 600) ∧ (-128 ≤ x1 ∧ x1 < 128) ∧ (∀ w2 : Wo, w2 = uI w 3 (gI w 2 1).toNat x1 → inr32 ((gI w2 2 1) + 1) ∧ (∀ w4 : Wo, w4 = uI w2 2 1 ((gI w2 2 1) + 1) → Q none w4))))) : Wp m_Tp_add 0 [(0, vr 2), (1, vi x1)] [] (0, 0) w Q := by
  refine wp_ly (fun hly => ?_)
  refine wp_aload_n d_Tp_add_0 (i := 0) rfl 0 rfl ?_
  refine wp_getI d_Tp_add_1 fl_Tp_15 cl_6 rfl (ly_o hly (by decide)) ?_
  refine wp_aload_n d_Tp_add_4 (i := 0) rfl 0 rfl ?_
  refine wp_getP d_Tp_add_5 fl_Tp_9 cl_6 rfl (ly_o hly (by decide)) (ly_r (v := 3) hly (by decide +kernel)) ?_
  refine wp_alen (t := 3) (n := 600) d_Tp_add_8 (ly_o hly (by decide)) (by decide) (by decide) ?_
  refine wp_icmp_ge (tgt := 33) d_Tp_add_9 (by decide) (fun hc => ?_) (fun hc => ?_)
  · replace h := h.1 hc
    exact wp_vret d_Tp_add_33 rfl (by decide) h
  · replace h := h.2 hc
    refine wp_aload_n d_Tp_add_12 (i := 0) rfl 0 rfl ?_
    refine wp_getP d_Tp_add_13 fl_Tp_9 cl_6 rfl (ly_o hly (by decide)) (ly_r (v := 3) hly (by decide +kernel)) ?_
    refine wp_aload_n d_Tp_add_16 (i := 0) rfl 0 rfl ?_
    refine wp_getI d_Tp_add_17 fl_Tp_15 cl_6 rfl (ly_o hly (by decide)) ?_
    refine wp_iload_n d_Tp_add_20 (i := 1) rfl 1 rfl ?_
    obtain ⟨ho, h⟩ := h
    refine wp_i2b d_Tp_add_21 ho ?_
    obtain ⟨hi1, h⟩ := h
    obtain ⟨hz, h⟩ := h
    refine wp_bastore d_Tp_add_22 (ly_a (n := 600) (N := 600) hly (by decide) hi1) hz (fun w2 e3 => ?_)
    replace h := h w2 e3
    refine wp_ly (fun hly => ?_)
    refine wp_aload_n d_Tp_add_23 (i := 0) rfl 0 rfl ?_
    refine wp_dup d_Tp_add_24 rfl ?_
    refine wp_getI d_Tp_add_25 fl_Tp_15 cl_6 rfl (ly_o hly (by decide)) ?_
    refine wp_iconst d_Tp_add_28 (by decide) ?_
    obtain ⟨ho, h⟩ := h
    refine wp_iadd d_Tp_add_29 ho ?_
    refine wp_putI d_Tp_add_30 fl_Tp_15 cl_6 ⟨rfl, rfl⟩ (ly_o hly (by decide)) (fun w4 e5 => ?_)
    replace h := h w4 e5
    refine wp_ly (fun hly => ?_)
    exact wp_vret d_Tp_add_33 rfl (by decide) h
set_option maxRecDepth 20000 in
set_option maxHeartbeats 2000000 in
theorem t_Tp_at_0 {x1 : Int}  {w : Wo} {Q : Option AV → Wo → Prop} (h : ((x1 < 0 → Q (some (vi 0)) w) ∧ (¬ x1 < 0 → (((gI w 2 1) ≤ x1 → Q (some (vi 0)) w) ∧ (¬ (gI w 2 1) ≤ x1 → (0 ≤ x1 ∧ x1 < 600) ∧ Q (some (vi (gI w 3 x1.toNat))) w))))) : Wp m_Tp_at 0 [(0, vr 2), (1, vi x1)] [] (0, 0) w Q := by
  refine wp_ly (fun hly => ?_)
  refine wp_iload_n d_Tp_at_0 (i := 1) rfl 1 rfl ?_
  refine wp_if_lt (tgt := 21) d_Tp_at_1 (by decide) (fun hc => ?_) (fun hc => ?_)
  · replace h := h.1 hc
    refine wp_iconst d_Tp_at_21 (by decide) ?_
    exact wp_iret d_Tp_at_22 rfl (by decide) h
  · replace h := h.2 hc
    refine wp_iload_n d_Tp_at_4 (i := 1) rfl 1 rfl ?_
    refine wp_aload_n d_Tp_at_5 (i := 0) rfl 0 rfl ?_
    refine wp_getI d_Tp_at_6 fl_Tp_15 cl_6 rfl (ly_o hly (by decide)) ?_
    refine wp_icmp_ge (tgt := 21) d_Tp_at_9 (by decide) (fun hc => ?_) (fun hc => ?_)
    · replace h := h.1 hc
      refine wp_iconst d_Tp_at_21 (by decide) ?_
      exact wp_iret d_Tp_at_22 rfl (by decide) h
    · replace h := h.2 hc
      refine wp_aload_n d_Tp_at_12 (i := 0) rfl 0 rfl ?_
      refine wp_getP d_Tp_at_13 fl_Tp_9 cl_6 rfl (ly_o hly (by decide)) (ly_r (v := 3) hly (by decide +kernel)) ?_
      refine wp_iload_n d_Tp_at_16 (i := 1) rfl 1 rfl ?_
      obtain ⟨hi1, h⟩ := h
      refine wp_baload d_Tp_at_17 (ly_a (n := 600) (N := 600) hly (by decide) hi1) ?_
      refine wp_goto (tgt := 22) d_Tp_at_18 (by decide) ?_
      exact wp_iret d_Tp_at_22 rfl (by decide) h
set_option maxRecDepth 20000 in
set_option maxHeartbeats 2000000 in
theorem t_Tp_sortAt_0 {x1 : Int}  {w : Wo} {Q : Option AV → Wo → Prop} (h : MetI m_Tp_at [vr 2, vi x1] w (fun z2 w1 => ((z2 < 97 → Wp m_Tp_sortAt 20 [(2, vi z2)] [] (0, 0) w1 Q) ∧ (¬ z2 < 97 → ((122 < z2 → Wp m_Tp_sortAt 20 [(2, vi z2)] [] (0, 0) w1 Q) ∧ (¬ 122 < z2 → Q (some (vi 1)) w1)))))) : Wp m_Tp_sortAt 0 [(0, vr 2), (1, vi x1)] [] (0, 0) w Q := by
  refine wp_ly (fun hly => ?_)
  refine wp_aload_n d_Tp_sortAt_0 (i := 0) rfl 0 rfl ?_
  refine wp_iload_n d_Tp_sortAt_1 (i := 1) rfl 1 rfl ?_
  refine wp_callV (A := [vi x1]) (S := []) d_Tp_sortAt_2 cv_Tp_sortAt_19 (ly_o hly (by decide)) rfl (Nat.le_of_ble_eq_true rfl) (by decide) (MetS.mono h (fun r w1 hh => ?_))
  obtain ⟨z2, er, h⟩ := hh
  subst er
  refine wp_ly (fun hly => ?_)
  refine wp_istore_n (L' := [(2, vi z2), (0, vr 2), (1, vi x1)]) d_Tp_sortAt_5 (i := 2) rfl rfl (by decide) ?_
  refine wp_iload_n d_Tp_sortAt_6 (i := 2) rfl 0 rfl ?_
  refine wp_bipush d_Tp_sortAt_7 (by decide) (by decide) ?_
  refine wp_icmp_lt (tgt := 20) d_Tp_sortAt_9 (by decide) (fun hc => ?_) (fun hc => ?_)
  · replace h := h.1 hc
    exact wp_pick [0] rfl h
  · replace h := h.2 hc
    refine wp_iload_n d_Tp_sortAt_12 (i := 2) rfl 0 rfl ?_
    refine wp_bipush d_Tp_sortAt_13 (by decide) (by decide) ?_
    refine wp_icmp_gt (tgt := 20) d_Tp_sortAt_15 (by decide) (fun hc => ?_) (fun hc => ?_)
    · replace h := h.1 hc
      exact wp_pick [0] rfl h
    · replace h := h.2 hc
      refine wp_iconst d_Tp_sortAt_18 (by decide) ?_
      exact wp_iret d_Tp_sortAt_19 rfl (by decide) h
set_option maxRecDepth 20000 in
set_option maxHeartbeats 2000000 in
theorem t_Tp_sortAt_20 {x2 : Int}  {w : Wo} {Q : Option AV → Wo → Prop} (h : ((x2 < 65 → ((x2 < 48 → Q (some (vi 0)) w) ∧ (¬ x2 < 48 → ((57 < x2 → Q (some (vi 0)) w) ∧ (¬ 57 < x2 → Q (some (vi 4)) w))))) ∧ (¬ x2 < 65 → ((90 < x2 → ((x2 < 48 → Q (some (vi 0)) w) ∧ (¬ x2 < 48 → ((57 < x2 → Q (some (vi 0)) w) ∧ (¬ 57 < x2 → Q (some (vi 4)) w))))) ∧ (¬ 90 < x2 → Q (some (vi 2)) w))))) : Wp m_Tp_sortAt 20 [(2, vi x2)] [] (0, 0) w Q := by
  refine wp_ly (fun hly => ?_)
  refine wp_iload_n d_Tp_sortAt_20 (i := 2) rfl 0 rfl ?_
  refine wp_bipush d_Tp_sortAt_21 (by decide) (by decide) ?_
  refine wp_icmp_lt (tgt := 34) d_Tp_sortAt_23 (by decide) (fun hc => ?_) (fun hc => ?_)
  · replace h := h.1 hc
    refine wp_iload_n d_Tp_sortAt_34 (i := 2) rfl 0 rfl ?_
    refine wp_bipush d_Tp_sortAt_35 (by decide) (by decide) ?_
    refine wp_icmp_lt (tgt := 50) d_Tp_sortAt_37 (by decide) (fun hc => ?_) (fun hc => ?_)
    · replace h := h.1 hc
      refine wp_iconst d_Tp_sortAt_50 (by decide) ?_
      exact wp_iret d_Tp_sortAt_51 rfl (by decide) h
    · replace h := h.2 hc
      refine wp_iload_n d_Tp_sortAt_40 (i := 2) rfl 0 rfl ?_
      refine wp_bipush d_Tp_sortAt_41 (by decide) (by decide) ?_
      refine wp_icmp_gt (tgt := 50) d_Tp_sortAt_43 (by decide) (fun hc => ?_) (fun hc => ?_)
      · replace h := h.1 hc
        refine wp_iconst d_Tp_sortAt_50 (by decide) ?_
        exact wp_iret d_Tp_sortAt_51 rfl (by decide) h
      · replace h := h.2 hc
        refine wp_iconst d_Tp_sortAt_46 (by decide) ?_
        refine wp_goto (tgt := 51) d_Tp_sortAt_47 (by decide) ?_
        exact wp_iret d_Tp_sortAt_51 rfl (by decide) h
  · replace h := h.2 hc
    refine wp_iload_n d_Tp_sortAt_26 (i := 2) rfl 0 rfl ?_
    refine wp_bipush d_Tp_sortAt_27 (by decide) (by decide) ?_
    refine wp_icmp_gt (tgt := 34) d_Tp_sortAt_29 (by decide) (fun hc => ?_) (fun hc => ?_)
    · replace h := h.1 hc
      refine wp_iload_n d_Tp_sortAt_34 (i := 2) rfl 0 rfl ?_
      refine wp_bipush d_Tp_sortAt_35 (by decide) (by decide) ?_
      refine wp_icmp_lt (tgt := 50) d_Tp_sortAt_37 (by decide) (fun hc => ?_) (fun hc => ?_)
      · replace h := h.1 hc
        refine wp_iconst d_Tp_sortAt_50 (by decide) ?_
        exact wp_iret d_Tp_sortAt_51 rfl (by decide) h
      · replace h := h.2 hc
        refine wp_iload_n d_Tp_sortAt_40 (i := 2) rfl 0 rfl ?_
        refine wp_bipush d_Tp_sortAt_41 (by decide) (by decide) ?_
        refine wp_icmp_gt (tgt := 50) d_Tp_sortAt_43 (by decide) (fun hc => ?_) (fun hc => ?_)
        · replace h := h.1 hc
          refine wp_iconst d_Tp_sortAt_50 (by decide) ?_
          exact wp_iret d_Tp_sortAt_51 rfl (by decide) h
        · replace h := h.2 hc
          refine wp_iconst d_Tp_sortAt_46 (by decide) ?_
          refine wp_goto (tgt := 51) d_Tp_sortAt_47 (by decide) ?_
          exact wp_iret d_Tp_sortAt_51 rfl (by decide) h
    · replace h := h.2 hc
      refine wp_iconst d_Tp_sortAt_32 (by decide) ?_
      exact wp_iret d_Tp_sortAt_33 rfl (by decide) h
set_option maxRecDepth 20000 in
set_option maxHeartbeats 2000000 in
theorem t_Tp_endOfRun_0 {x1 : Int} {x2 : Int}  {w : Wo} {Q : Option AV → Wo → Prop} (h : Wp m_Tp_endOfRun 2 [(0, vr 2), (2, vi x2), (3, vi x1)] [] (0, 0) w Q) : Wp m_Tp_endOfRun 0 [(0, vr 2), (1, vi x1), (2, vi x2)] [] (0, 0) w Q := by
  refine wp_ly (fun hly => ?_)
  refine wp_iload_n d_Tp_endOfRun_0 (i := 1) rfl 1 rfl ?_
  refine wp_istore_n (L' := [(3, vi x1), (0, vr 2), (1, vi x1), (2, vi x2)]) d_Tp_endOfRun_1 (i := 3) rfl rfl (by decide) ?_
  exact wp_pick [1, 3, 0] rfl h
set_option maxRecDepth 20000 in
set_option maxHeartbeats 2000000 in
theorem t_Tp_endOfRun_2 {x2 : Int} {x3 : Int}  {w : Wo} {Q : Option AV → Wo → Prop} (h : (((gI w 2 1) ≤ x3 → Q (some (vi (gI w 2 1))) w) ∧ (¬ (gI w 2 1) ≤ x3 → MetI m_Tp_sortAt [vr 2, vi x3] w (fun z2 w1 => ((¬ (b_iand z2 x2) = 0 → inr32 (x3 + 1) ∧ Wp m_Tp_endOfRun 2 [(0, vr 2), (2, vi x2), (3, vi (x3 + 1))] [] (0, 0) w1 Q) ∧ ((b_iand z2 x2) = 0 → Q (some (vi x3)) w1)))))) : Wp m_Tp_endOfRun 2 [(0, vr 2), (2, vi x2), (3, vi x3)] [] (0, 0) w Q := by
  refine wp_ly (fun hly => ?_)
  refine wp_iload_n d_Tp_endOfRun_2 (i := 3) rfl 2 rfl ?_
  refine wp_aload_n d_Tp_endOfRun_3 (i := 0) rfl 0 rfl ?_
  refine wp_getI d_Tp_endOfRun_4 fl_Tp_15 cl_6 rfl (ly_o hly (by decide)) ?_
  refine wp_icmp_ge (tgt := 28) d_Tp_endOfRun_7 (by decide) (fun hc => ?_) (fun hc => ?_)
  · replace h := h.1 hc
    refine wp_aload_n d_Tp_endOfRun_28 (i := 0) rfl 0 rfl ?_
    refine wp_getI d_Tp_endOfRun_29 fl_Tp_15 cl_6 rfl (ly_o hly (by decide)) ?_
    exact wp_iret d_Tp_endOfRun_32 rfl (by decide) h
  · replace h := h.2 hc
    refine wp_aload_n d_Tp_endOfRun_10 (i := 0) rfl 0 rfl ?_
    refine wp_iload_n d_Tp_endOfRun_11 (i := 3) rfl 2 rfl ?_
    refine wp_callV (A := [vi x3]) (S := []) d_Tp_endOfRun_12 cv_Tp_endOfRun_23 (ly_o hly (by decide)) rfl (Nat.le_of_ble_eq_true rfl) (by decide) (MetS.mono h (fun r w1 hh => ?_))
    obtain ⟨z2, er, h⟩ := hh
    subst er
    refine wp_ly (fun hly => ?_)
    refine wp_iload_n d_Tp_endOfRun_15 (i := 2) rfl 1 rfl ?_
    refine wp_iand d_Tp_endOfRun_16 ?_
    refine wp_if_ne (tgt := 22) d_Tp_endOfRun_17 (by decide) (fun hc => ?_) (fun hc => ?_)
    · replace h := h.1 hc
      obtain ⟨ho, h⟩ := h
      refine wp_iinc (L' := [(3, vi (x3 + 1)), (0, vr 2), (2, vi x2)]) d_Tp_endOfRun_22 2 rfl rfl (by decide) ho ?_
      refine wp_goto (tgt := 2) d_Tp_endOfRun_25 (by decide) ?_
      exact wp_pick [1, 2, 0] rfl h
    · replace h := h.2 hc
      refine wp_iload_n d_Tp_endOfRun_20 (i := 3) rfl 2 rfl ?_
      exact wp_iret d_Tp_endOfRun_21 rfl (by decide) h
set_option maxRecDepth 20000 in
set_option maxHeartbeats 2000000 in
theorem t_Tp_spells_0 {x1 : Int} {x2 : Int} {r3 : Nat} (hr3 : isSt r3) {w : Wo} {Q : Option AV → Wo → Prop} (h : inr32 (x2 - x1) ∧ MetI m_JS_length [vr r3] w (fun z2 w1 => (((x2 - x1) = z2 → Wp m_Tp_spells 15 [(0, vr 2), (1, vi x1), (3, vr r3), (4, vi 0)] [] (0, 0) w1 Q) ∧ (¬ (x2 - x1) = z2 → Q (some (vi 0)) w1)))) : Wp m_Tp_spells 0 [(0, vr 2), (1, vi x1), (2, vi x2), (3, vr r3)] [] (0, 0) w Q := by
  refine wp_ly (fun hly => ?_)
  refine wp_iload_n d_Tp_spells_0 (i := 2) rfl 2 rfl ?_
  refine wp_iload_n d_Tp_spells_1 (i := 1) rfl 1 rfl ?_
  obtain ⟨ho, h⟩ := h
  refine wp_isub d_Tp_spells_2 ho ?_
  refine wp_aload_n d_Tp_spells_3 (i := 3) rfl 3 rfl ?_
  refine wp_callT2 (A := []) (S := [vi (x2 - x1)]) d_Tp_spells_4 ct_Tp_spells_26 hr3 rfl (Nat.le_of_ble_eq_true rfl) (by decide) (MetS.mono h (fun r w1 hh => ?_))
  obtain ⟨z2, er, h⟩ := hh
  subst er
  refine wp_ly (fun hly => ?_)
  refine wp_icmp_eq (tgt := 12) d_Tp_spells_7 (by decide) (fun hc => ?_) (fun hc => ?_)
  · replace h := h.1 hc
    refine wp_iconst d_Tp_spells_12 (by decide) ?_
    refine wp_istore (L' := [(4, vi 0), (0, vr 2), (1, vi x1), (2, vi x2), (3, vr r3)]) d_Tp_spells_13 rfl (by decide) ?_
    exact wp_pick [1, 2, 4, 0] rfl h
  · replace h := h.2 hc
    refine wp_iconst d_Tp_spells_10 (by decide) ?_
    exact wp_zret d_Tp_spells_11 rfl (by decide) (by decide) h
set_option maxRecDepth 20000 in
set_option maxHeartbeats 2000000 in
theorem t_Tp_spells_15 {x1 : Int} {r3 : Nat} {x4 : Int} (hr3 : isSt r3) {w : Wo} {Q : Option AV → Wo → Prop} (h : MetI m_JS_length [vr r3] w (fun z2 w1 => ((z2 ≤ x4 → Q (some (vi 1)) w1) ∧ (¬ z2 ≤ x4 → inr32 (x1 + x4) ∧ MetI m_Tp_at [vr 2, vi (x1 + x4)] w1 (fun z4 w3 => MetI m_JS_charAt [vr r3, vi x4] w3 (fun z6 w5 => ((z4 = z6 → inr32 (x4 + 1) ∧ Wp m_Tp_spells 15 [(0, vr 2), (1, vi x1), (3, vr r3), (4, vi (x4 + 1))] [] (0, 0) w5 Q) ∧ (¬ z4 = z6 → Q (some (vi 0)) w5)))))))) : Wp m_Tp_spells 15 [(0, vr 2), (1, vi x1), (3, vr r3), (4, vi x4)] [] (0, 0) w Q := by
  refine wp_ly (fun hly => ?_)
  refine wp_iload d_Tp_spells_15 3 rfl ?_
  refine wp_aload_n d_Tp_spells_17 (i := 3) rfl 2 rfl ?_
  refine wp_callT2 (A := []) (S := [vi x4]) d_Tp_spells_18 ct_Tp_spells_26 hr3 rfl (Nat.le_of_ble_eq_true rfl) (by decide) (MetS.mono h (fun r w1 hh => ?_))
  obtain ⟨z2, er, h⟩ := hh
  subst er
  refine wp_ly (fun hly => ?_)
  refine wp_icmp_ge (tgt := 49) d_Tp_spells_21 (by decide) (fun hc => ?_) (fun hc => ?_)
  · replace h := h.1 hc
    refine wp_iconst d_Tp_spells_49 (by decide) ?_
    exact wp_zret d_Tp_spells_50 rfl (by decide) (by decide) h
  · replace h := h.2 hc
    refine wp_aload_n d_Tp_spells_24 (i := 0) rfl 0 rfl ?_
    refine wp_iload_n d_Tp_spells_25 (i := 1) rfl 1 rfl ?_
    refine wp_iload d_Tp_spells_26 3 rfl ?_
    obtain ⟨ho, h⟩ := h
    refine wp_iadd d_Tp_spells_28 ho ?_
    refine wp_callV (A := [vi (x1 + x4)]) (S := []) d_Tp_spells_29 cv_Tp_spells_19 (ly_o hly (by decide)) rfl (Nat.le_of_ble_eq_true rfl) (by decide) (MetS.mono h (fun r w3 hh => ?_))
    obtain ⟨z4, er, h⟩ := hh
    subst er
    refine wp_ly (fun hly => ?_)
    refine wp_aload_n d_Tp_spells_32 (i := 3) rfl 2 rfl ?_
    refine wp_iload d_Tp_spells_33 3 rfl ?_
    refine wp_callT2 (A := [vi x4]) (S := [vi z4]) d_Tp_spells_35 ct_Tp_spells_31 hr3 rfl (Nat.le_of_ble_eq_true rfl) (by decide) (MetS.mono h (fun r w5 hh => ?_))
    obtain ⟨z6, er, h⟩ := hh
    subst er
    refine wp_ly (fun hly => ?_)
    refine wp_icmp_eq (tgt := 43) d_Tp_spells_38 (by decide) (fun hc => ?_) (fun hc => ?_)
    · replace h := h.1 hc
      obtain ⟨ho, h⟩ := h
      refine wp_iinc (L' := [(4, vi (x4 + 1)), (0, vr 2), (1, vi x1), (3, vr r3)]) d_Tp_spells_43 3 rfl rfl (by decide) ho ?_
      refine wp_goto (tgt := 15) d_Tp_spells_46 (by decide) ?_
      exact wp_pick [1, 2, 3, 0] rfl h
    · replace h := h.2 hc
      refine wp_iconst d_Tp_spells_41 (by decide) ?_
      exact wp_zret d_Tp_spells_42 rfl (by decide) (by decide) h
set_option maxRecDepth 20000 in
set_option maxHeartbeats 2000000 in
theorem t_Tp_packed_0 {x1 : Int} {x2 : Int}  {w : Wo} {Q : Option AV → Wo → Prop} (h : Wp m_Tp_packed 5 [(0, vr 2), (2, vi x2), (3, vl 0), (5, vi x1)] [] (0, 0) w Q) : Wp m_Tp_packed 0 [(0, vr 2), (1, vi x1), (2, vi x2)] [] (0, 0) w Q := by
  refine wp_ly (fun hly => ?_)
  refine wp_lconst d_Tp_packed_0 (x := 0) (by decide) (by decide) ?_
  refine wp_lstore_n (L' := [(3, vl 0), (0, vr 2), (1, vi x1), (2, vi x2)]) d_Tp_packed_1 (i := 3) rfl rfl (by decide) ?_
  refine wp_iload_n d_Tp_packed_2 (i := 1) rfl 2 rfl ?_
  refine wp_istore (L' := [(5, vi x1), (3, vl 0), (0, vr 2), (1, vi x1), (2, vi x2)]) d_Tp_packed_3 rfl (by decide) ?_
  exact wp_pick [2, 4, 1, 0] rfl h
set_option maxRecDepth 20000 in
set_option maxHeartbeats 2000000 in
theorem t_Tp_packed_5 {x2 : Int} {y3 : Int} {x5 : Int}  {w : Wo} {Q : Option AV → Wo → Prop} (h : ((x2 ≤ x5 → Q (some (vl y3)) w) ∧ (¬ x2 ≤ x5 → MetI m_Tp_at [vr 2, vi x5] w (fun z2 w1 => inr32 (x5 + 1) ∧ Wp m_Tp_packed 5 [(0, vr 2), (2, vi x2), (3, vl (b_lor (b_lshl y3 7) z2)), (5, vi (x5 + 1))] [] (0, 0) w1 Q)))) : Wp m_Tp_packed 5 [(0, vr 2), (2, vi x2), (3, vl y3), (5, vi x5)] [] (0, 0) w Q := by
  refine wp_ly (fun hly => ?_)
  refine wp_iload d_Tp_packed_5 3 rfl ?_
  refine wp_iload_n d_Tp_packed_7 (i := 2) rfl 1 rfl ?_
  refine wp_icmp_ge (tgt := 30) d_Tp_packed_8 (by decide) (fun hc => ?_) (fun hc => ?_)
  · replace h := h.1 hc
    refine wp_lload_n d_Tp_packed_30 (i := 3) rfl 2 rfl ?_
    exact wp_lret d_Tp_packed_31 rfl (by decide) h
  · replace h := h.2 hc
    refine wp_lload_n d_Tp_packed_11 (i := 3) rfl 2 rfl ?_
    refine wp_bipush d_Tp_packed_12 (by decide) (by decide) ?_
    refine wp_lshl d_Tp_packed_14 ?_
    refine wp_aload_n d_Tp_packed_15 (i := 0) rfl 0 rfl ?_
    refine wp_iload d_Tp_packed_16 3 rfl ?_
    refine wp_callV (A := [vi x5]) (S := [vl (b_lshl y3 7)]) d_Tp_packed_18 cv_Tp_packed_19 (ly_o hly (by decide)) rfl (Nat.le_of_ble_eq_true rfl) (by decide) (MetS.mono h (fun r w1 hh => ?_))
    obtain ⟨z2, er, h⟩ := hh
    subst er
    refine wp_ly (fun hly => ?_)
    refine wp_i2l d_Tp_packed_21 ?_
    refine wp_lor d_Tp_packed_22 ?_
    refine wp_lstore_n (L' := [(3, vl (b_lor (b_lshl y3 7) z2)), (0, vr 2), (2, vi x2), (5, vi x5)]) d_Tp_packed_23 (i := 3) rfl rfl (by decide) ?_
    obtain ⟨ho, h⟩ := h
    refine wp_iinc (L' := [(5, vi (x5 + 1)), (3, vl (b_lor (b_lshl y3 7) z2)), (0, vr 2), (2, vi x2)]) d_Tp_packed_24 3 rfl rfl (by decide) ho ?_
    refine wp_goto (tgt := 5) d_Tp_packed_27 (by decide) ?_
    exact wp_pick [2, 3, 1, 0] rfl h
set_option maxRecDepth 20000 in
set_option maxHeartbeats 2000000 in
theorem t_Tp_number_0 {x1 : Int} {x2 : Int}  {w : Wo} {Q : Option AV → Wo → Prop} (h : Wp m_Tp_number 5 [(0, vr 2), (2, vi x2), (3, vl 0), (5, vi x1)] [] (0, 0) w Q) : Wp m_Tp_number 0 [(0, vr 2), (1, vi x1), (2, vi x2)] [] (0, 0) w Q := by
  refine wp_ly (fun hly => ?_)
  refine wp_lconst d_Tp_number_0 (x := 0) (by decide) (by decide) ?_
  refine wp_lstore_n (L' := [(3, vl 0), (0, vr 2), (1, vi x1), (2, vi x2)]) d_Tp_number_1 (i := 3) rfl rfl (by decide) ?_
  refine wp_iload_n d_Tp_number_2 (i := 1) rfl 2 rfl ?_
  refine wp_istore (L' := [(5, vi x1), (3, vl 0), (0, vr 2), (1, vi x1), (2, vi x2)]) d_Tp_number_3 rfl (by decide) ?_
  exact wp_pick [2, 4, 1, 0] rfl h
set_option maxRecDepth 20000 in
set_option maxHeartbeats 2000000 in
theorem t_Tp_number_5 {x2 : Int} {y3 : Int} {x5 : Int}  {w : Wo} {Q : Option AV → Wo → Prop} (h : ((x2 ≤ x5 → Q (some (vl y3)) w) ∧ (¬ x2 ≤ x5 → inr64 (y3 * 10) ∧ MetI m_Tp_at [vr 2, vi x5] w (fun z2 w1 => inr64 ((y3 * 10) + z2) ∧ inr64 (((y3 * 10) + z2) - 48) ∧ inr32 (x5 + 1) ∧ Wp m_Tp_number 5 [(0, vr 2), (2, vi x2), (3, vl (((y3 * 10) + z2) - 48)), (5, vi (x5 + 1))] [] (0, 0) w1 Q)))) : Wp m_Tp_number 5 [(0, vr 2), (2, vi x2), (3, vl y3), (5, vi x5)] [] (0, 0) w Q := by
  refine wp_ly (fun hly => ?_)
  refine wp_iload d_Tp_number_5 3 rfl ?_
  refine wp_iload_n d_Tp_number_7 (i := 2) rfl 1 rfl ?_
  refine wp_icmp_ge (tgt := 35) d_Tp_number_8 (by decide) (fun hc => ?_) (fun hc => ?_)
  · replace h := h.1 hc
    refine wp_lload_n d_Tp_number_35 (i := 3) rfl 2 rfl ?_
    exact wp_lret d_Tp_number_36 rfl (by decide) h
  · replace h := h.2 hc
    refine wp_lload_n d_Tp_number_11 (i := 3) rfl 2 rfl ?_
    refine wp_ldc2 d_Tp_number_12 (x := 10) lc_Tp_35 (by decide) ?_
    obtain ⟨ho, h⟩ := h
    refine wp_lmul d_Tp_number_15 ho ?_
    refine wp_aload_n d_Tp_number_16 (i := 0) rfl 0 rfl ?_
    refine wp_iload d_Tp_number_17 3 rfl ?_
    refine wp_callV (A := [vi x5]) (S := [vl (y3 * 10)]) d_Tp_number_19 cv_Tp_number_19 (ly_o hly (by decide)) rfl (Nat.le_of_ble_eq_true rfl) (by decide) (MetS.mono h (fun r w1 hh => ?_))
    obtain ⟨z2, er, h⟩ := hh
    subst er
    refine wp_ly (fun hly => ?_)
    refine wp_i2l d_Tp_number_22 ?_
    obtain ⟨ho, h⟩ := h
    refine wp_ladd d_Tp_number_23 ho ?_
    refine wp_ldc2 d_Tp_number_24 (x := 48) lc_Tp_37 (by decide) ?_
    obtain ⟨ho, h⟩ := h
    refine wp_lsub d_Tp_number_27 ho ?_
    refine wp_lstore_n (L' := [(3, vl (((y3 * 10) + z2) - 48)), (0, vr 2), (2, vi x2), (5, vi x5)]) d_Tp_number_28 (i := 3) rfl rfl (by decide) ?_
    obtain ⟨ho, h⟩ := h
    refine wp_iinc (L' := [(5, vi (x5 + 1)), (3, vl (((y3 * 10) + z2) - 48)), (0, vr 2), (2, vi x2)]) d_Tp_number_29 3 rfl rfl (by decide) ho ?_
    refine wp_goto (tgt := 5) d_Tp_number_32 (by decide) ?_
    exact wp_pick [2, 3, 1, 0] rfl h

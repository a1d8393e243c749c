set_option maxRecDepth 20000 in
set_option maxHeartbeats 2000000 in
theorem t_Tk_cut_0   {w : Wo} {Q : Option AV → Wo → Prop} (h : (∀ w1 : Wo, w1 = uI w 5 3 0 → Wp m_Tk_cut 9 [(0, vr 5), (1, vr 2), (2, vi 0), (3, vi 0)] [] (0, 0) w1 Q)) : Wp m_Tk_cut 0 [(0, vr 5), (1, vr 2)] [] (0, 0) w Q := by
  refine wp_ly (fun hly => ?_)
  refine wp_aload_n d_Tk_cut_0 (i := 0) rfl 0 rfl ?_
  refine wp_iconst d_Tk_cut_1 (by decide) ?_
  refine wp_putI d_Tk_cut_2 fl_Tk_22 cl_7 ⟨rfl, rfl⟩ (ly_o hly (by decide)) (fun w1 e2 => ?_)
  replace h := h w1 e2
  refine wp_ly (fun hly => ?_)
  refine wp_iconst d_Tk_cut_5 (by decide) ?_
  refine wp_istore_n (L' := [(2, vi 0), (0, vr 5), (1, vr 2)]) d_Tk_cut_6 (i := 2) rfl rfl (by decide) ?_
  refine wp_iconst d_Tk_cut_7 (by decide) ?_
  refine wp_istore_n (L' := [(3, vi 0), (2, vi 0), (0, vr 5), (1, vr 2)]) d_Tk_cut_8 (i := 3) rfl rfl (by decide) ?_
  exact wp_pick [2, 3, 1, 0] rfl h
theorem sw_Tk_cut_37 {y : Int} (h0 : ¬ y = 1) (h1 : ¬ y = 2) (h2 : ¬ y = 4) : y < 1 ∨ 4 < y ∨ y = 3 := by omega
set_option maxRecDepth 20000 in
set_option maxHeartbeats 2000000 in
theorem t_Tk_cut_9 {x2 : Int} {x3 : Int}  {w : Wo} {Q : Option AV → Wo → Prop} (h : (((gI w 2 1) ≤ x3 → MetV m_Tk_add [vr 5, vi 0, vi (gI w 2 1), vl 0] w (fun w1 => Q none w1)) ∧ (¬ (gI w 2 1) ≤ x3 → ((x3 < x2 → inr32 (x3 + 1) ∧ Wp m_Tk_cut 9 [(0, vr 5), (1, vr 2), (2, vi x2), (3, vi (x3 + 1))] [] (0, 0) w Q) ∧ (¬ x3 < x2 → MetI m_Tp_at [vr 2, vi x3] w (fun z3 w2 => ((z3 = 32 → inr32 (x3 + 1) ∧ Wp m_Tk_cut 9 [(0, vr 5), (1, vr 2), (2, vi x2), (3, vi (x3 + 1))] [] (0, 0) w2 Q) ∧ (¬ z3 = 32 → MetI m_Tp_sortAt [vr 2, vi x3] w2 (fun z5 w4 => ((z5 = 1 → MetI m_Tk_cutName [vr 5, vr 2, vi x3] w4 (fun z7 w6 => inr32 (x3 + 1) ∧ Wp m_Tk_cut 9 [(0, vr 5), (1, vr 2), (2, vi z7), (3, vi (x3 + 1))] [] (0, 0) w6 Q)) ∧ (z5 = 2 → MetI m_Tk_cutVariable [vr 5, vr 2, vi x3] w4 (fun z9 w8 => inr32 (x3 + 1) ∧ Wp m_Tk_cut 9 [(0, vr 5), (1, vr 2), (2, vi z9), (3, vi (x3 + 1))] [] (0, 0) w8 Q)) ∧ (z5 = 4 → MetI m_Tk_cutNumber [vr 5, vr 2, vi x3] w4 (fun z11 w10 => inr32 (x3 + 1) ∧ Wp m_Tk_cut 9 [(0, vr 5), (1, vr 2), (2, vi z11), (3, vi (x3 + 1))] [] (0, 0) w10 Q)) ∧ (¬ z5 = 1 → ¬ z5 = 2 → ¬ z5 = 4 → MetI m_Tk_cutSign [vr 5, vr 2, vi x3] w4 (fun z13 w12 => inr32 (x3 + 1) ∧ Wp m_Tk_cut 9 [(0, vr 5), (1, vr 2), (2, vi z13), (3, vi (x3 + 1))] [] (0, 0) w12 Q)))))))))))) : Wp m_Tk_cut 9 [(0, vr 5), (1, vr 2), (2, vi x2), (3, vi x3)] [] (0, 0) w Q := by
  refine wp_ly (fun hly => ?_)
  refine wp_iload_n d_Tk_cut_9 (i := 3) rfl 3 rfl ?_
  refine wp_aload_n d_Tk_cut_10 (i := 1) rfl 1 rfl ?_
  refine wp_getI d_Tk_cut_11 fl_Tk_26 cl_6 rfl (ly_o hly (by decide)) ?_
  refine wp_icmp_ge (tgt := 111) d_Tk_cut_14 (by decide) (fun hc => ?_) (fun hc => ?_)
  · replace h := h.1 hc
    refine wp_aload_n d_Tk_cut_111 (i := 0) rfl 0 rfl ?_
    refine wp_iconst d_Tk_cut_112 (by decide) ?_
    refine wp_aload_n d_Tk_cut_113 (i := 1) rfl 1 rfl ?_
    refine wp_getI d_Tk_cut_114 fl_Tk_26 cl_6 rfl (ly_o hly (by decide)) ?_
    refine wp_lconst d_Tk_cut_117 (x := 0) (by decide) (by decide) ?_
    refine wp_callV (A := [vi 0, vi (gI w 2 1), vl 0]) (S := []) d_Tk_cut_118 cv_Tk_cut_51 (ly_o hly (by decide)) rfl (Nat.le_of_ble_eq_true rfl) (by decide) (MetS.mono h (fun r w1 hh => ?_))
    obtain ⟨er, h⟩ := hh
    subst er
    refine wp_ly (fun hly => ?_)
    exact wp_vret d_Tk_cut_121 rfl (by decide) h
  · replace h := h.2 hc
    refine wp_iload_n d_Tk_cut_17 (i := 3) rfl 3 rfl ?_
    refine wp_iload_n d_Tk_cut_18 (i := 2) rfl 2 rfl ?_
    refine wp_icmp_lt (tgt := 105) d_Tk_cut_19 (by decide) (fun hc => ?_) (fun hc => ?_)
    · replace h := h.1 hc
      obtain ⟨ho, h⟩ := h
      refine wp_iinc (L' := [(3, vi (x3 + 1)), (0, vr 5), (1, vr 2), (2, vi x2)]) d_Tk_cut_105 3 rfl rfl (by decide) ho ?_
      refine wp_goto (tgt := 9) d_Tk_cut_108 (by decide) ?_
      exact wp_pick [1, 2, 3, 0] rfl h
    · replace h := h.2 hc
      refine wp_aload_n d_Tk_cut_22 (i := 1) rfl 1 rfl ?_
      refine wp_iload_n d_Tk_cut_23 (i := 3) rfl 3 rfl ?_
      refine wp_callV (A := [vi x3]) (S := []) d_Tk_cut_24 cv_Tk_cut_31 (ly_o hly (by decide)) rfl (Nat.le_of_ble_eq_true rfl) (by decide) (MetS.mono h (fun r w2 hh => ?_))
      obtain ⟨z3, er, h⟩ := hh
      subst er
      refine wp_ly (fun hly => ?_)
      refine wp_bipush d_Tk_cut_27 (by decide) (by decide) ?_
      refine wp_icmp_eq (tgt := 105) d_Tk_cut_29 (by decide) (fun hc => ?_) (fun hc => ?_)
      · replace h := h.1 hc
        obtain ⟨ho, h⟩ := h
        refine wp_iinc (L' := [(3, vi (x3 + 1)), (0, vr 5), (1, vr 2), (2, vi x2)]) d_Tk_cut_105 3 rfl rfl (by decide) ho ?_
        refine wp_goto (tgt := 9) d_Tk_cut_108 (by decide) ?_
        exact wp_pick [1, 2, 3, 0] rfl h
      · replace h := h.2 hc
        refine wp_aload_n d_Tk_cut_32 (i := 1) rfl 1 rfl ?_
        refine wp_iload_n d_Tk_cut_33 (i := 3) rfl 3 rfl ?_
        refine wp_callV (A := [vi x3]) (S := []) d_Tk_cut_34 cv_Tk_cut_35 (ly_o hly (by decide)) rfl (Nat.le_of_ble_eq_true rfl) (by decide) (MetS.mono h (fun r w4 hh => ?_))
        obtain ⟨z5, er, h⟩ := hh
        subst er
        refine wp_ly (fun hly => ?_)
        by_cases hc0 : z5 = 1
        · replace h := h.1 hc0
          refine wp_tsw d_Tk_cut_37 (by decide) 68 (by rw [hc0]; decide) ?_
          refine wp_aload_n d_Tk_cut_68 (i := 0) rfl 0 rfl ?_
          refine wp_aload_n d_Tk_cut_69 (i := 1) rfl 1 rfl ?_
          refine wp_iload_n d_Tk_cut_70 (i := 3) rfl 3 rfl ?_
          refine wp_callV (A := [vr 2, vi x3]) (S := []) d_Tk_cut_71 cv_Tk_cut_38 (ly_o hly (by decide)) rfl (Nat.le_of_ble_eq_true rfl) (by decide) (MetS.mono h (fun r w6 hh => ?_))
          obtain ⟨z7, er, h⟩ := hh
          subst er
          refine wp_ly (fun hly => ?_)
          refine wp_istore_n (L' := [(2, vi z7), (0, vr 5), (1, vr 2), (3, vi x3)]) d_Tk_cut_74 (i := 2) rfl rfl (by decide) ?_
          refine wp_goto (tgt := 105) d_Tk_cut_75 (by decide) ?_
          obtain ⟨ho, h⟩ := h
          refine wp_iinc (L' := [(3, vi (x3 + 1)), (2, vi z7), (0, vr 5), (1, vr 2)]) d_Tk_cut_105 3 rfl rfl (by decide) ho ?_
          refine wp_goto (tgt := 9) d_Tk_cut_108 (by decide) ?_
          exact wp_pick [2, 3, 1, 0] rfl h
        replace h := h.2
        by_cases hc1 : z5 = 2
        · replace h := h.1 hc1
          refine wp_tsw d_Tk_cut_37 (by decide) 78 (by rw [hc1]; decide) ?_
          refine wp_aload_n d_Tk_cut_78 (i := 0) rfl 0 rfl ?_
          refine wp_aload_n d_Tk_cut_79 (i := 1) rfl 1 rfl ?_
          refine wp_iload_n d_Tk_cut_80 (i := 3) rfl 3 rfl ?_
          refine wp_callV (A := [vr 2, vi x3]) (S := []) d_Tk_cut_81 cv_Tk_cut_42 (ly_o hly (by decide)) rfl (Nat.le_of_ble_eq_true rfl) (by decide) (MetS.mono h (fun r w8 hh => ?_))
          obtain ⟨z9, er, h⟩ := hh
          subst er
          refine wp_ly (fun hly => ?_)
          refine wp_istore_n (L' := [(2, vi z9), (0, vr 5), (1, vr 2), (3, vi x3)]) d_Tk_cut_84 (i := 2) rfl rfl (by decide) ?_
          refine wp_goto (tgt := 105) d_Tk_cut_85 (by decide) ?_
          obtain ⟨ho, h⟩ := h
          refine wp_iinc (L' := [(3, vi (x3 + 1)), (2, vi z9), (0, vr 5), (1, vr 2)]) d_Tk_cut_105 3 rfl rfl (by decide) ho ?_
          refine wp_goto (tgt := 9) d_Tk_cut_108 (by decide) ?_
          exact wp_pick [2, 3, 1, 0] rfl h
        replace h := h.2
        by_cases hc2 : z5 = 4
        · replace h := h.1 hc2
          refine wp_tsw d_Tk_cut_37 (by decide) 88 (by rw [hc2]; decide) ?_
          refine wp_aload_n d_Tk_cut_88 (i := 0) rfl 0 rfl ?_
          refine wp_aload_n d_Tk_cut_89 (i := 1) rfl 1 rfl ?_
          refine wp_iload_n d_Tk_cut_90 (i := 3) rfl 3 rfl ?_
          refine wp_callV (A := [vr 2, vi x3]) (S := []) d_Tk_cut_91 cv_Tk_cut_45 (ly_o hly (by decide)) rfl (Nat.le_of_ble_eq_true rfl) (by decide) (MetS.mono h (fun r w10 hh => ?_))
          obtain ⟨z11, er, h⟩ := hh
          subst er
          refine wp_ly (fun hly => ?_)
          refine wp_istore_n (L' := [(2, vi z11), (0, vr 5), (1, vr 2), (3, vi x3)]) d_Tk_cut_94 (i := 2) rfl rfl (by decide) ?_
          refine wp_goto (tgt := 105) d_Tk_cut_95 (by decide) ?_
          obtain ⟨ho, h⟩ := h
          refine wp_iinc (L' := [(3, vi (x3 + 1)), (2, vi z11), (0, vr 5), (1, vr 2)]) d_Tk_cut_105 3 rfl rfl (by decide) ho ?_
          refine wp_goto (tgt := 9) d_Tk_cut_108 (by decide) ?_
          exact wp_pick [2, 3, 1, 0] rfl h
        replace h := h.2
        replace h := h hc0 hc1 hc2
        have hsw := sw_Tk_cut_37 hc0 hc1 hc2
        refine wp_tsw d_Tk_cut_37 (by decide) 98 (by rcases hsw with hsw | hsw | hsw <;> first | (rw [swT_lo hsw]; decide) | (rw [swT_hi hsw]; decide) | (rw [hsw]; decide)) ?_
        refine wp_aload_n d_Tk_cut_98 (i := 0) rfl 0 rfl ?_
        refine wp_aload_n d_Tk_cut_99 (i := 1) rfl 1 rfl ?_
        refine wp_iload_n d_Tk_cut_100 (i := 3) rfl 3 rfl ?_
        refine wp_callV (A := [vr 2, vi x3]) (S := []) d_Tk_cut_101 cv_Tk_cut_48 (ly_o hly (by decide)) rfl (Nat.le_of_ble_eq_true rfl) (by decide) (MetS.mono h (fun r w12 hh => ?_))
        obtain ⟨z13, er, h⟩ := hh
        subst er
        refine wp_ly (fun hly => ?_)
        refine wp_istore_n (L' := [(2, vi z13), (0, vr 5), (1, vr 2), (3, vi x3)]) d_Tk_cut_104 (i := 2) rfl rfl (by decide) ?_
        obtain ⟨ho, h⟩ := h
        refine wp_iinc (L' := [(3, vi (x3 + 1)), (2, vi z13), (0, vr 5), (1, vr 2)]) d_Tk_cut_105 3 rfl rfl (by decide) ho ?_
        refine wp_goto (tgt := 9) d_Tk_cut_108 (by decide) ?_
        exact wp_pick [2, 3, 1, 0] rfl h
set_option maxRecDepth 20000 in
set_option maxHeartbeats 2000000 in
theorem t_Tk_add_0 {x1 : Int} {x2 : Int} {y3 : Int}  {w : Wo} {Q : Option AV → Wo → Prop} (h : ((601 ≤ (gI w 5 3) → Q none w) ∧ (¬ 601 ≤ (gI w 5 3) → (0 ≤ (gI w 5 3) ∧ (gI w 5 3) < 601) ∧ (∀ w2 : Wo, w2 = uI w 6 (gI w 5 3).toNat x1 → (0 ≤ (gI w2 5 3) ∧ (gI w2 5 3) < 601) ∧ (∀ w5 : Wo, w5 = uI w2 7 (gI w2 5 3).toNat x2 → (0 ≤ (gI w5 5 3) ∧ (gI w5 5 3) < 601) ∧ (∀ w8 : Wo, w8 = uJ w5 8 (gI w5 5 3).toNat y3 → inr32 ((gI w8 5 3) + 1) ∧ (∀ w10 : Wo, w10 = uI w8 5 3 ((gI w8 5 3) + 1) → Q none w10))))))) : Wp m_Tk_add 0 [(0, vr 5), (1, vi x1), (2, vi x2), (3, vl y3)] [] (0, 0) w Q := by
  refine wp_ly (fun hly => ?_)
  refine wp_aload_n d_Tk_add_0 (i := 0) rfl 0 rfl ?_
  refine wp_getI d_Tk_add_1 fl_Tk_22 cl_7 rfl (ly_o hly (by decide)) ?_
  refine wp_aload_n d_Tk_add_4 (i := 0) rfl 0 rfl ?_
  refine wp_getP d_Tk_add_5 fl_Tk_9 cl_7 rfl (ly_o hly (by decide)) (ly_r (v := 6) hly (by decide +kernel)) ?_
  refine wp_alen (t := 1) (n := 601) d_Tk_add_8 (ly_o hly (by decide)) (by decide) (by decide) ?_
  refine wp_icmp_ge (tgt := 52) d_Tk_add_9 (by decide) (fun hc => ?_) (fun hc => ?_)
  · replace h := h.1 hc
    exact wp_vret d_Tk_add_52 rfl (by decide) h
  · replace h := h.2 hc
    refine wp_aload_n d_Tk_add_12 (i := 0) rfl 0 rfl ?_
    refine wp_getP d_Tk_add_13 fl_Tk_9 cl_7 rfl (ly_o hly (by decide)) (ly_r (v := 6) hly (by decide +kernel)) ?_
    refine wp_aload_n d_Tk_add_16 (i := 0) rfl 0 rfl ?_
    refine wp_getI d_Tk_add_17 fl_Tk_22 cl_7 rfl (ly_o hly (by decide)) ?_
    refine wp_iload_n d_Tk_add_20 (i := 1) rfl 1 rfl ?_
    obtain ⟨hi1, h⟩ := h
    refine wp_iastore d_Tk_add_21 (ly_a (n := 601) (N := 601) hly (by decide) hi1) (fun w2 e3 => ?_)
    replace h := h w2 e3
    refine wp_ly (fun hly => ?_)
    refine wp_aload_n d_Tk_add_22 (i := 0) rfl 0 rfl ?_
    refine wp_getP d_Tk_add_23 fl_Tk_15 cl_7 rfl (ly_o hly (by decide)) (ly_r (v := 7) hly (by decide +kernel)) ?_
    refine wp_aload_n d_Tk_add_26 (i := 0) rfl 0 rfl ?_
    refine wp_getI d_Tk_add_27 fl_Tk_22 cl_7 rfl (ly_o hly (by decide)) ?_
    refine wp_iload_n d_Tk_add_30 (i := 2) rfl 2 rfl ?_
    obtain ⟨hi4, h⟩ := h
    refine wp_iastore d_Tk_add_31 (ly_a (n := 601) (N := 601) hly (by decide) hi4) (fun w5 e6 => ?_)
    replace h := h w5 e6
    refine wp_ly (fun hly => ?_)
    refine wp_aload_n d_Tk_add_32 (i := 0) rfl 0 rfl ?_
    refine wp_getP d_Tk_add_33 fl_Tk_18 cl_7 rfl (ly_o hly (by decide)) (ly_r (v := 8) hly (by decide +kernel)) ?_
    refine wp_aload_n d_Tk_add_36 (i := 0) rfl 0 rfl ?_
    refine wp_getI d_Tk_add_37 fl_Tk_22 cl_7 rfl (ly_o hly (by decide)) ?_
    refine wp_lload_n d_Tk_add_40 (i := 3) rfl 3 rfl ?_
    obtain ⟨hi7, h⟩ := h
    refine wp_lastore d_Tk_add_41 (ly_a (n := 601) (N := 601) hly (by decide) hi7) (fun w8 e9 => ?_)
    replace h := h w8 e9
    refine wp_ly (fun hly => ?_)
    refine wp_aload_n d_Tk_add_42 (i := 0) rfl 0 rfl ?_
    refine wp_dup d_Tk_add_43 rfl ?_
    refine wp_getI d_Tk_add_44 fl_Tk_22 cl_7 rfl (ly_o hly (by decide)) ?_
    refine wp_iconst d_Tk_add_47 (by decide) ?_
    obtain ⟨ho, h⟩ := h
    refine wp_iadd d_Tk_add_48 ho ?_
    refine wp_putI d_Tk_add_49 fl_Tk_22 cl_7 ⟨rfl, rfl⟩ (ly_o hly (by decide)) (fun w10 e11 => ?_)
    replace h := h w10 e11
    refine wp_ly (fun hly => ?_)
    exact wp_vret d_Tk_add_52 rfl (by decide) h
set_option maxRecDepth 20000 in
set_option maxHeartbeats 2000000 in
theorem t_Tk_cutName_0 {x2 : Int}  {w : Wo} {Q : Option AV → Wo → Prop} (h : MetI m_Tp_endOfRun [vr 2, vi x2, vi 5] w (fun z2 w1 => MetI m_Tk_totalAt [vr 2, vi x2, vi z2] w1 (fun z4 w3 => inr32 (z2 - x2) ∧ (((z2 - x2) ≤ 6 → ((z4 ≤ 0 → MetI m_Tp_spells [vr 2, vi x2, vi z2, vr 1005] w3 (fun z6 w5 => ((z6 = 0 → MetJ m_Tp_packed [vr 2, vi x2, vi z2] w5 (fun z8 w7 => MetV m_Tk_add [vr 5, vi 2, vi x2, vl z8] w7 (fun w9 => Q (some (vi z2)) w9))) ∧ (¬ z6 = 0 → MetV m_Tk_add [vr 5, vi 16, vi x2, vl 0] w5 (fun w10 => Q (some (vi z2)) w10))))) ∧ (¬ z4 ≤ 0 → MetV m_Tk_add [vr 5, vi 17, vi x2, vl z4] w3 (fun w11 => Q (some (vi z2)) w11)))) ∧ (¬ (z2 - x2) ≤ 6 → MetV m_Tk_add [vr 5, vi 1, vi x2, vl 0] w3 (fun w12 => Q (some (vi z2)) w12)))))) : Wp m_Tk_cutName 0 [(0, vr 5), (1, vr 2), (2, vi x2)] [] (0, 0) w Q := by
  refine wp_ly (fun hly => ?_)
  refine wp_aload_n d_Tk_cutName_0 (i := 1) rfl 1 rfl ?_
  refine wp_iload_n d_Tk_cutName_1 (i := 2) rfl 2 rfl ?_
  refine wp_iconst d_Tk_cutName_2 (by decide) ?_
  refine wp_callV (A := [vi x2, vi 5]) (S := []) d_Tk_cutName_3 cv_Tk_cutName_55 (ly_o hly (by decide)) rfl (Nat.le_of_ble_eq_true rfl) (by decide) (MetS.mono h (fun r w1 hh => ?_))
  obtain ⟨z2, er, h⟩ := hh
  subst er
  refine wp_ly (fun hly => ?_)
  refine wp_istore_n (L' := [(3, vi z2), (0, vr 5), (1, vr 2), (2, vi x2)]) d_Tk_cutName_6 (i := 3) rfl rfl (by decide) ?_
  refine wp_aload_n d_Tk_cutName_7 (i := 1) rfl 2 rfl ?_
  refine wp_iload_n d_Tk_cutName_8 (i := 2) rfl 3 rfl ?_
  refine wp_iload_n d_Tk_cutName_9 (i := 3) rfl 0 rfl ?_
  refine wp_callS (A := [vr 2, vi x2, vi z2]) (S := []) d_Tk_cutName_10 cs_Tk_cutName_59 rfl (Nat.le_of_ble_eq_true rfl) (by decide) (MetS.mono h (fun r w3 hh => ?_))
  obtain ⟨z4, er, h⟩ := hh
  subst er
  refine wp_ly (fun hly => ?_)
  refine wp_istore (L' := [(4, vi z4), (3, vi z2), (0, vr 5), (1, vr 2), (2, vi x2)]) d_Tk_cutName_13 rfl (by decide) ?_
  refine wp_iload_n d_Tk_cutName_15 (i := 3) rfl 1 rfl ?_
  refine wp_iload_n d_Tk_cutName_16 (i := 2) rfl 4 rfl ?_
  obtain ⟨ho, h⟩ := h
  refine wp_isub d_Tk_cutName_17 ho ?_
  refine wp_bipush d_Tk_cutName_18 (by decide) (by decide) ?_
  refine wp_icmp_le (tgt := 33) d_Tk_cutName_20 (by decide) (fun hc => ?_) (fun hc => ?_)
  · replace h := h.1 hc
    refine wp_iload d_Tk_cutName_33 0 rfl ?_
    refine wp_if_le (tgt := 51) d_Tk_cutName_35 (by decide) (fun hc => ?_) (fun hc => ?_)
    · replace h := h.1 hc
      refine wp_aload_n d_Tk_cutName_51 (i := 1) rfl 3 rfl ?_
      refine wp_iload_n d_Tk_cutName_52 (i := 2) rfl 4 rfl ?_
      refine wp_iload_n d_Tk_cutName_53 (i := 3) rfl 1 rfl ?_
      refine wp_ldcS 4 d_Tk_cutName_54 rfl ?_
      refine wp_callV (A := [vi x2, vi z2, vr 1005]) (S := []) d_Tk_cutName_56 cv_Tk_cutName_65 (ly_o hly (by decide)) rfl (Nat.le_of_ble_eq_true rfl) (by decide) (MetS.mono h (fun r w5 hh => ?_))
      obtain ⟨z6, er, h⟩ := hh
      subst er
      refine wp_ly (fun hly => ?_)
      refine wp_if_eq (tgt := 73) d_Tk_cutName_59 (by decide) (fun hc => ?_) (fun hc => ?_)
      · replace h := h.1 hc
        refine wp_aload_n d_Tk_cutName_73 (i := 0) rfl 2 rfl ?_
        refine wp_iconst d_Tk_cutName_74 (by decide) ?_
        refine wp_iload_n d_Tk_cutName_75 (i := 2) rfl 4 rfl ?_
        refine wp_aload_n d_Tk_cutName_76 (i := 1) rfl 3 rfl ?_
        refine wp_iload_n d_Tk_cutName_77 (i := 2) rfl 4 rfl ?_
        refine wp_iload_n d_Tk_cutName_78 (i := 3) rfl 1 rfl ?_
        refine wp_callV (A := [vi x2, vi z2]) (S := [vi x2, vi 2, vr 5]) d_Tk_cutName_79 cv_Tk_cutName_69 (ly_o hly (by decide)) rfl (Nat.le_of_ble_eq_true rfl) (by decide) (MetS.mono h (fun r w7 hh => ?_))
        obtain ⟨z8, er, h⟩ := hh
        subst er
        refine wp_ly (fun hly => ?_)
        refine wp_callV (A := [vi 2, vi x2, vl z8]) (S := []) d_Tk_cutName_82 cv_Tk_cutName_51 (ly_o hly (by decide)) rfl (Nat.le_of_ble_eq_true rfl) (by decide) (MetS.mono h (fun r w9 hh => ?_))
        obtain ⟨er, h⟩ := hh
        subst er
        refine wp_ly (fun hly => ?_)
        refine wp_iload_n d_Tk_cutName_85 (i := 3) rfl 1 rfl ?_
        exact wp_iret d_Tk_cutName_86 rfl (by decide) h
      · replace h := h.2 hc
        refine wp_aload_n d_Tk_cutName_62 (i := 0) rfl 2 rfl ?_
        refine wp_bipush d_Tk_cutName_63 (by decide) (by decide) ?_
        refine wp_iload_n d_Tk_cutName_65 (i := 2) rfl 4 rfl ?_
        refine wp_lconst d_Tk_cutName_66 (x := 0) (by decide) (by decide) ?_
        refine wp_callV (A := [vi 16, vi x2, vl 0]) (S := []) d_Tk_cutName_67 cv_Tk_cutName_51 (ly_o hly (by decide)) rfl (Nat.le_of_ble_eq_true rfl) (by decide) (MetS.mono h (fun r w10 hh => ?_))
        obtain ⟨er, h⟩ := hh
        subst er
        refine wp_ly (fun hly => ?_)
        refine wp_goto (tgt := 85) d_Tk_cutName_70 (by decide) ?_
        refine wp_iload_n d_Tk_cutName_85 (i := 3) rfl 1 rfl ?_
        exact wp_iret d_Tk_cutName_86 rfl (by decide) h
    · replace h := h.2 hc
      refine wp_aload_n d_Tk_cutName_38 (i := 0) rfl 2 rfl ?_
      refine wp_bipush d_Tk_cutName_39 (by decide) (by decide) ?_
      refine wp_iload_n d_Tk_cutName_41 (i := 2) rfl 4 rfl ?_
      refine wp_iload d_Tk_cutName_42 0 rfl ?_
      refine wp_i2l d_Tk_cutName_44 ?_
      refine wp_callV (A := [vi 17, vi x2, vl z4]) (S := []) d_Tk_cutName_45 cv_Tk_cutName_51 (ly_o hly (by decide)) rfl (Nat.le_of_ble_eq_true rfl) (by decide) (MetS.mono h (fun r w11 hh => ?_))
      obtain ⟨er, h⟩ := hh
      subst er
      refine wp_ly (fun hly => ?_)
      refine wp_goto (tgt := 85) d_Tk_cutName_48 (by decide) ?_
      refine wp_iload_n d_Tk_cutName_85 (i := 3) rfl 1 rfl ?_
      exact wp_iret d_Tk_cutName_86 rfl (by decide) h
  · replace h := h.2 hc
    refine wp_aload_n d_Tk_cutName_23 (i := 0) rfl 2 rfl ?_
    refine wp_iconst d_Tk_cutName_24 (by decide) ?_
    refine wp_iload_n d_Tk_cutName_25 (i := 2) rfl 4 rfl ?_
    refine wp_lconst d_Tk_cutName_26 (x := 0) (by decide) (by decide) ?_
    refine wp_callV (A := [vi 1, vi x2, vl 0]) (S := []) d_Tk_cutName_27 cv_Tk_cutName_51 (ly_o hly (by decide)) rfl (Nat.le_of_ble_eq_true rfl) (by decide) (MetS.mono h (fun r w12 hh => ?_))
    obtain ⟨er, h⟩ := hh
    subst er
    refine wp_ly (fun hly => ?_)
    refine wp_goto (tgt := 85) d_Tk_cutName_30 (by decide) ?_
    refine wp_iload_n d_Tk_cutName_85 (i := 3) rfl 1 rfl ?_
    exact wp_iret d_Tk_cutName_86 rfl (by decide) h
set_option maxRecDepth 20000 in
set_option maxHeartbeats 2000000 in
theorem t_Tk_totalAt_0 {x1 : Int} {x2 : Int}  {w : Wo} {Q : Option AV → Wo → Prop} (h : MetI m_Tp_spells [vr 2, vi x1, vi x2, vr 1001] w (fun z2 w1 => ((z2 = 0 → MetI m_Tp_spells [vr 2, vi x1, vi x2, vr 1002] w1 (fun z4 w3 => ((z4 = 0 → MetI m_Tp_spells [vr 2, vi x1, vi x2, vr 1003] w3 (fun z6 w5 => ((z6 = 0 → MetI m_Tp_spells [vr 2, vi x1, vi x2, vr 1004] w5 (fun z8 w7 => ((z8 = 0 → Q (some (vi 0)) w7) ∧ (¬ z8 = 0 → Q (some (vi 4)) w7)))) ∧ (¬ z6 = 0 → Q (some (vi 3)) w5)))) ∧ (¬ z4 = 0 → Q (some (vi 2)) w3)))) ∧ (¬ z2 = 0 → Q (some (vi 1)) w1)))) : Wp m_Tk_totalAt 0 [(0, vr 2), (1, vi x1), (2, vi x2)] [] (0, 0) w Q := by
  refine wp_ly (fun hly => ?_)
  refine wp_aload_n d_Tk_totalAt_0 (i := 0) rfl 0 rfl ?_
  refine wp_iload_n d_Tk_totalAt_1 (i := 1) rfl 1 rfl ?_
  refine wp_iload_n d_Tk_totalAt_2 (i := 2) rfl 2 rfl ?_
  refine wp_ldcS 0 d_Tk_totalAt_3 rfl ?_
  refine wp_callV (A := [vi x1, vi x2, vr 1001]) (S := []) d_Tk_totalAt_5 cv_Tk_totalAt_65 (ly_o hly (by decide)) rfl (Nat.le_of_ble_eq_true rfl) (by decide) (MetS.mono h (fun r w1 hh => ?_))
  obtain ⟨z2, er, h⟩ := hh
  subst er
  refine wp_ly (fun hly => ?_)
  refine wp_if_eq (tgt := 13) d_Tk_totalAt_8 (by decide) (fun hc => ?_) (fun hc => ?_)
  · replace h := h.1 hc
    refine wp_aload_n d_Tk_totalAt_13 (i := 0) rfl 0 rfl ?_
    refine wp_iload_n d_Tk_totalAt_14 (i := 1) rfl 1 rfl ?_
    refine wp_iload_n d_Tk_totalAt_15 (i := 2) rfl 2 rfl ?_
    refine wp_ldcS 1 d_Tk_totalAt_16 rfl ?_
    refine wp_callV (A := [vi x1, vi x2, vr 1002]) (S := []) d_Tk_totalAt_18 cv_Tk_totalAt_65 (ly_o hly (by decide)) rfl (Nat.le_of_ble_eq_true rfl) (by decide) (MetS.mono h (fun r w3 hh => ?_))
    obtain ⟨z4, er, h⟩ := hh
    subst er
    refine wp_ly (fun hly => ?_)
    refine wp_if_eq (tgt := 26) d_Tk_totalAt_21 (by decide) (fun hc => ?_) (fun hc => ?_)
    · replace h := h.1 hc
      refine wp_aload_n d_Tk_totalAt_26 (i := 0) rfl 0 rfl ?_
      refine wp_iload_n d_Tk_totalAt_27 (i := 1) rfl 1 rfl ?_
      refine wp_iload_n d_Tk_totalAt_28 (i := 2) rfl 2 rfl ?_
      refine wp_ldcS 2 d_Tk_totalAt_29 rfl ?_
      refine wp_callV (A := [vi x1, vi x2, vr 1003]) (S := []) d_Tk_totalAt_31 cv_Tk_totalAt_65 (ly_o hly (by decide)) rfl (Nat.le_of_ble_eq_true rfl) (by decide) (MetS.mono h (fun r w5 hh => ?_))
      obtain ⟨z6, er, h⟩ := hh
      subst er
      refine wp_ly (fun hly => ?_)
      refine wp_if_eq (tgt := 39) d_Tk_totalAt_34 (by decide) (fun hc => ?_) (fun hc => ?_)
      · replace h := h.1 hc
        refine wp_aload_n d_Tk_totalAt_39 (i := 0) rfl 0 rfl ?_
        refine wp_iload_n d_Tk_totalAt_40 (i := 1) rfl 1 rfl ?_
        refine wp_iload_n d_Tk_totalAt_41 (i := 2) rfl 2 rfl ?_
        refine wp_ldcS 3 d_Tk_totalAt_42 rfl ?_
        refine wp_callV (A := [vi x1, vi x2, vr 1004]) (S := []) d_Tk_totalAt_44 cv_Tk_totalAt_65 (ly_o hly (by decide)) rfl (Nat.le_of_ble_eq_true rfl) (by decide) (MetS.mono h (fun r w7 hh => ?_))
        obtain ⟨z8, er, h⟩ := hh
        subst er
        refine wp_ly (fun hly => ?_)
        refine wp_if_eq (tgt := 54) d_Tk_totalAt_47 (by decide) (fun hc => ?_) (fun hc => ?_)
        · replace h := h.1 hc
          refine wp_iconst d_Tk_totalAt_54 (by decide) ?_
          exact wp_iret d_Tk_totalAt_55 rfl (by decide) h
        · replace h := h.2 hc
          refine wp_iconst d_Tk_totalAt_50 (by decide) ?_
          refine wp_goto (tgt := 55) d_Tk_totalAt_51 (by decide) ?_
          exact wp_iret d_Tk_totalAt_55 rfl (by decide) h
      · replace h := h.2 hc
        refine wp_iconst d_Tk_totalAt_37 (by decide) ?_
        exact wp_iret d_Tk_totalAt_38 rfl (by decide) h
    · replace h := h.2 hc
      refine wp_iconst d_Tk_totalAt_24 (by decide) ?_
      exact wp_iret d_Tk_totalAt_25 rfl (by decide) h
  · replace h := h.2 hc
    refine wp_iconst d_Tk_totalAt_11 (by decide) ?_
    exact wp_iret d_Tk_totalAt_12 rfl (by decide) h
set_option maxRecDepth 20000 in
set_option maxHeartbeats 2000000 in
theorem t_Tk_cutVariable_0 {x2 : Int}  {w : Wo} {Q : Option AV → Wo → Prop} (h : MetI m_Tp_endOfRun [vr 2, vi x2, vi 7] w (fun z2 w1 => inr32 (z2 - x2) ∧ (((z2 - x2) ≤ 4 → MetJ m_Tp_packed [vr 2, vi x2, vi z2] w1 (fun z4 w3 => MetV m_Tk_add [vr 5, vi 3, vi x2, vl z4] w3 (fun w5 => Q (some (vi z2)) w5))) ∧ (¬ (z2 - x2) ≤ 4 → MetV m_Tk_add [vr 5, vi 1, vi x2, vl 0] w1 (fun w6 => Q (some (vi z2)) w6))))) : Wp m_Tk_cutVariable 0 [(0, vr 5), (1, vr 2), (2, vi x2)] [] (0, 0) w Q := by
  refine wp_ly (fun hly => ?_)
  refine wp_aload_n d_Tk_cutVariable_0 (i := 1) rfl 1 rfl ?_
  refine wp_iload_n d_Tk_cutVariable_1 (i := 2) rfl 2 rfl ?_
  refine wp_bipush d_Tk_cutVariable_2 (by decide) (by decide) ?_
  refine wp_callV (A := [vi x2, vi 7]) (S := []) d_Tk_cutVariable_4 cv_Tk_cutVariable_55 (ly_o hly (by decide)) rfl (Nat.le_of_ble_eq_true rfl) (by decide) (MetS.mono h (fun r w1 hh => ?_))
  obtain ⟨z2, er, h⟩ := hh
  subst er
  refine wp_ly (fun hly => ?_)
  refine wp_istore_n (L' := [(3, vi z2), (0, vr 5), (1, vr 2), (2, vi x2)]) d_Tk_cutVariable_7 (i := 3) rfl rfl (by decide) ?_
  refine wp_iload_n d_Tk_cutVariable_8 (i := 3) rfl 0 rfl ?_
  refine wp_iload_n d_Tk_cutVariable_9 (i := 2) rfl 3 rfl ?_
  obtain ⟨ho, h⟩ := h
  refine wp_isub d_Tk_cutVariable_10 ho ?_
  refine wp_iconst d_Tk_cutVariable_11 (by decide) ?_
  refine wp_icmp_le (tgt := 25) d_Tk_cutVariable_12 (by decide) (fun hc => ?_) (fun hc => ?_)
  · replace h := h.1 hc
    refine wp_aload_n d_Tk_cutVariable_25 (i := 0) rfl 1 rfl ?_
    refine wp_iconst d_Tk_cutVariable_26 (by decide) ?_
    refine wp_iload_n d_Tk_cutVariable_27 (i := 2) rfl 3 rfl ?_
    refine wp_aload_n d_Tk_cutVariable_28 (i := 1) rfl 2 rfl ?_
    refine wp_iload_n d_Tk_cutVariable_29 (i := 2) rfl 3 rfl ?_
    refine wp_iload_n d_Tk_cutVariable_30 (i := 3) rfl 0 rfl ?_
    refine wp_callV (A := [vi x2, vi z2]) (S := [vi x2, vi 3, vr 5]) d_Tk_cutVariable_31 cv_Tk_cutVariable_69 (ly_o hly (by decide)) rfl (Nat.le_of_ble_eq_true rfl) (by decide) (MetS.mono h (fun r w3 hh => ?_))
    obtain ⟨z4, er, h⟩ := hh
    subst er
    refine wp_ly (fun hly => ?_)
    refine wp_callV (A := [vi 3, vi x2, vl z4]) (S := []) d_Tk_cutVariable_34 cv_Tk_cutVariable_51 (ly_o hly (by decide)) rfl (Nat.le_of_ble_eq_true rfl) (by decide) (MetS.mono h (fun r w5 hh => ?_))
    obtain ⟨er, h⟩ := hh
    subst er
    refine wp_ly (fun hly => ?_)
    refine wp_iload_n d_Tk_cutVariable_37 (i := 3) rfl 0 rfl ?_
    exact wp_iret d_Tk_cutVariable_38 rfl (by decide) h
  · replace h := h.2 hc
    refine wp_aload_n d_Tk_cutVariable_15 (i := 0) rfl 1 rfl ?_
    refine wp_iconst d_Tk_cutVariable_16 (by decide) ?_
    refine wp_iload_n d_Tk_cutVariable_17 (i := 2) rfl 3 rfl ?_
    refine wp_lconst d_Tk_cutVariable_18 (x := 0) (by decide) (by decide) ?_
    refine wp_callV (A := [vi 1, vi x2, vl 0]) (S := []) d_Tk_cutVariable_19 cv_Tk_cutVariable_51 (ly_o hly (by decide)) rfl (Nat.le_of_ble_eq_true rfl) (by decide) (MetS.mono h (fun r w6 hh => ?_))
    obtain ⟨er, h⟩ := hh
    subst er
    refine wp_ly (fun hly => ?_)
    refine wp_goto (tgt := 37) d_Tk_cutVariable_22 (by decide) ?_
    refine wp_iload_n d_Tk_cutVariable_37 (i := 3) rfl 0 rfl ?_
    exact wp_iret d_Tk_cutVariable_38 rfl (by decide) h
set_option maxRecDepth 20000 in
set_option maxHeartbeats 2000000 in
theorem t_Tk_cutNumber_0 {x2 : Int}  {w : Wo} {Q : Option AV → Wo → Prop} (h : MetI m_Tp_endOfRun [vr 2, vi x2, vi 4] w (fun z2 w1 => inr32 (z2 - x2) ∧ (((z2 - x2) ≤ 9 → MetJ m_Tp_number [vr 2, vi x2, vi z2] w1 (fun z4 w3 => MetV m_Tk_add [vr 5, vi 4, vi x2, vl z4] w3 (fun w5 => Q (some (vi z2)) w5))) ∧ (¬ (z2 - x2) ≤ 9 → MetV m_Tk_add [vr 5, vi 1, vi x2, vl 0] w1 (fun w6 => Q (some (vi z2)) w6))))) : Wp m_Tk_cutNumber 0 [(0, vr 5), (1, vr 2), (2, vi x2)] [] (0, 0) w Q := by
  refine wp_ly (fun hly => ?_)
  refine wp_aload_n d_Tk_cutNumber_0 (i := 1) rfl 1 rfl ?_
  refine wp_iload_n d_Tk_cutNumber_1 (i := 2) rfl 2 rfl ?_
  refine wp_iconst d_Tk_cutNumber_2 (by decide) ?_
  refine wp_callV (A := [vi x2, vi 4]) (S := []) d_Tk_cutNumber_3 cv_Tk_cutNumber_55 (ly_o hly (by decide)) rfl (Nat.le_of_ble_eq_true rfl) (by decide) (MetS.mono h (fun r w1 hh => ?_))
  obtain ⟨z2, er, h⟩ := hh
  subst er
  refine wp_ly (fun hly => ?_)
  refine wp_istore_n (L' := [(3, vi z2), (0, vr 5), (1, vr 2), (2, vi x2)]) d_Tk_cutNumber_6 (i := 3) rfl rfl (by decide) ?_
  refine wp_iload_n d_Tk_cutNumber_7 (i := 3) rfl 0 rfl ?_
  refine wp_iload_n d_Tk_cutNumber_8 (i := 2) rfl 3 rfl ?_
  obtain ⟨ho, h⟩ := h
  refine wp_isub d_Tk_cutNumber_9 ho ?_
  refine wp_bipush d_Tk_cutNumber_10 (by decide) (by decide) ?_
  refine wp_icmp_le (tgt := 25) d_Tk_cutNumber_12 (by decide) (fun hc => ?_) (fun hc => ?_)
  · replace h := h.1 hc
    refine wp_aload_n d_Tk_cutNumber_25 (i := 0) rfl 1 rfl ?_
    refine wp_iconst d_Tk_cutNumber_26 (by decide) ?_
    refine wp_iload_n d_Tk_cutNumber_27 (i := 2) rfl 3 rfl ?_
    refine wp_aload_n d_Tk_cutNumber_28 (i := 1) rfl 2 rfl ?_
    refine wp_iload_n d_Tk_cutNumber_29 (i := 2) rfl 3 rfl ?_
    refine wp_iload_n d_Tk_cutNumber_30 (i := 3) rfl 0 rfl ?_
    refine wp_callV (A := [vi x2, vi z2]) (S := [vi x2, vi 4, vr 5]) d_Tk_cutNumber_31 cv_Tk_cutNumber_80 (ly_o hly (by decide)) rfl (Nat.le_of_ble_eq_true rfl) (by decide) (MetS.mono h (fun r w3 hh => ?_))
    obtain ⟨z4, er, h⟩ := hh
    subst er
    refine wp_ly (fun hly => ?_)
    refine wp_callV (A := [vi 4, vi x2, vl z4]) (S := []) d_Tk_cutNumber_34 cv_Tk_cutNumber_51 (ly_o hly (by decide)) rfl (Nat.le_of_ble_eq_true rfl) (by decide) (MetS.mono h (fun r w5 hh => ?_))
    obtain ⟨er, h⟩ := hh
    subst er
    refine wp_ly (fun hly => ?_)
    refine wp_iload_n d_Tk_cutNumber_37 (i := 3) rfl 0 rfl ?_
    exact wp_iret d_Tk_cutNumber_38 rfl (by decide) h
  · replace h := h.2 hc
    refine wp_aload_n d_Tk_cutNumber_15 (i := 0) rfl 1 rfl ?_
    refine wp_iconst d_Tk_cutNumber_16 (by decide) ?_
    refine wp_iload_n d_Tk_cutNumber_17 (i := 2) rfl 3 rfl ?_
    refine wp_lconst d_Tk_cutNumber_18 (x := 0) (by decide) (by decide) ?_
    refine wp_callV (A := [vi 1, vi x2, vl 0]) (S := []) d_Tk_cutNumber_19 cv_Tk_cutNumber_51 (ly_o hly (by decide)) rfl (Nat.le_of_ble_eq_true rfl) (by decide) (MetS.mono h (fun r w6 hh => ?_))
    obtain ⟨er, h⟩ := hh
    subst er
    refine wp_ly (fun hly => ?_)
    refine wp_goto (tgt := 37) d_Tk_cutNumber_22 (by decide) ?_
    refine wp_iload_n d_Tk_cutNumber_37 (i := 3) rfl 0 rfl ?_
    exact wp_iret d_Tk_cutNumber_38 rfl (by decide) h
set_option maxRecDepth 20000 in
set_option maxHeartbeats 2000000 in
theorem t_Tk_cutSign_0 {x2 : Int}  {w : Wo} {Q : Option AV → Wo → Prop} (h : MetI m_Tp_at [vr 2, vi x2] w (fun z2 w1 => inr32 (x2 + 1) ∧ MetI m_Tp_at [vr 2, vi (x2 + 1)] w1 (fun z4 w3 => MetI m_Tk_pairKind [vi z2, vi z4] w3 (fun z6 w5 => ((z6 = 1 → MetI m_Tp_at [vr 2, vi x2] w5 (fun z8 w7 => MetI m_Tk_signKind [vi z8] w7 (fun z10 w9 => MetV m_Tk_add [vr 5, vi z10, vi x2, vl 0] w9 (fun w11 => inr32 (x2 + 1) ∧ Q (some (vi (x2 + 1))) w11)))) ∧ (¬ z6 = 1 → MetV m_Tk_add [vr 5, vi z6, vi x2, vl 0] w5 (fun w12 => inr32 (x2 + 2) ∧ Q (some (vi (x2 + 2))) w12))))))) : Wp m_Tk_cutSign 0 [(0, vr 5), (1, vr 2), (2, vi x2)] [] (0, 0) w Q := by
  refine wp_ly (fun hly => ?_)
  refine wp_aload_n d_Tk_cutSign_0 (i := 1) rfl 1 rfl ?_
  refine wp_iload_n d_Tk_cutSign_1 (i := 2) rfl 2 rfl ?_
  refine wp_callV (A := [vi x2]) (S := []) d_Tk_cutSign_2 cv_Tk_cutSign_31 (ly_o hly (by decide)) rfl (Nat.le_of_ble_eq_true rfl) (by decide) (MetS.mono h (fun r w1 hh => ?_))
  obtain ⟨z2, er, h⟩ := hh
  subst er
  refine wp_ly (fun hly => ?_)
  refine wp_aload_n d_Tk_cutSign_5 (i := 1) rfl 1 rfl ?_
  refine wp_iload_n d_Tk_cutSign_6 (i := 2) rfl 2 rfl ?_
  refine wp_iconst d_Tk_cutSign_7 (by decide) ?_
  obtain ⟨ho, h⟩ := h
  refine wp_iadd d_Tk_cutSign_8 ho ?_
  refine wp_callV (A := [vi (x2 + 1)]) (S := [vi z2]) d_Tk_cutSign_9 cv_Tk_cutSign_31 (ly_o hly (by decide)) rfl (Nat.le_of_ble_eq_true rfl) (by decide) (MetS.mono h (fun r w3 hh => ?_))
  obtain ⟨z4, er, h⟩ := hh
  subst er
  refine wp_ly (fun hly => ?_)
  refine wp_callS (A := [vi z2, vi z4]) (S := []) d_Tk_cutSign_12 cs_Tk_cutSign_83 rfl (Nat.le_of_ble_eq_true rfl) (by decide) (MetS.mono h (fun r w5 hh => ?_))
  obtain ⟨z6, er, h⟩ := hh
  subst er
  refine wp_ly (fun hly => ?_)
  refine wp_istore_n (L' := [(3, vi z6), (0, vr 5), (1, vr 2), (2, vi x2)]) d_Tk_cutSign_15 (i := 3) rfl rfl (by decide) ?_
  refine wp_iload_n d_Tk_cutSign_16 (i := 3) rfl 0 rfl ?_
  refine wp_iconst d_Tk_cutSign_17 (by decide) ?_
  refine wp_icmp_eq (tgt := 32) d_Tk_cutSign_18 (by decide) (fun hc => ?_) (fun hc => ?_)
  · replace h := h.1 hc
    refine wp_aload_n d_Tk_cutSign_32 (i := 0) rfl 1 rfl ?_
    refine wp_aload_n d_Tk_cutSign_33 (i := 1) rfl 2 rfl ?_
    refine wp_iload_n d_Tk_cutSign_34 (i := 2) rfl 3 rfl ?_
    refine wp_callV (A := [vi x2]) (S := [vr 5]) d_Tk_cutSign_35 cv_Tk_cutSign_31 (ly_o hly (by decide)) rfl (Nat.le_of_ble_eq_true rfl) (by decide) (MetS.mono h (fun r w7 hh => ?_))
    obtain ⟨z8, er, h⟩ := hh
    subst er
    refine wp_ly (fun hly => ?_)
    refine wp_callS (A := [vi z8]) (S := [vr 5]) d_Tk_cutSign_38 cs_Tk_cutSign_86 rfl (Nat.le_of_ble_eq_true rfl) (by decide) (MetS.mono h (fun r w9 hh => ?_))
    obtain ⟨z10, er, h⟩ := hh
    subst er
    refine wp_ly (fun hly => ?_)
    refine wp_iload_n d_Tk_cutSign_41 (i := 2) rfl 3 rfl ?_
    refine wp_lconst d_Tk_cutSign_42 (x := 0) (by decide) (by decide) ?_
    refine wp_callV (A := [vi z10, vi x2, vl 0]) (S := []) d_Tk_cutSign_43 cv_Tk_cutSign_51 (ly_o hly (by decide)) rfl (Nat.le_of_ble_eq_true rfl) (by decide) (MetS.mono h (fun r w11 hh => ?_))
    obtain ⟨er, h⟩ := hh
    subst er
    refine wp_ly (fun hly => ?_)
    refine wp_iload_n d_Tk_cutSign_46 (i := 2) rfl 3 rfl ?_
    refine wp_iconst d_Tk_cutSign_47 (by decide) ?_
    obtain ⟨ho, h⟩ := h
    refine wp_iadd d_Tk_cutSign_48 ho ?_
    exact wp_iret d_Tk_cutSign_49 rfl (by decide) h
  · replace h := h.2 hc
    refine wp_aload_n d_Tk_cutSign_21 (i := 0) rfl 1 rfl ?_
    refine wp_iload_n d_Tk_cutSign_22 (i := 3) rfl 0 rfl ?_
    refine wp_iload_n d_Tk_cutSign_23 (i := 2) rfl 3 rfl ?_
    refine wp_lconst d_Tk_cutSign_24 (x := 0) (by decide) (by decide) ?_
    refine wp_callV (A := [vi z6, vi x2, vl 0]) (S := []) d_Tk_cutSign_25 cv_Tk_cutSign_51 (ly_o hly (by decide)) rfl (Nat.le_of_ble_eq_true rfl) (by decide) (MetS.mono h (fun r w12 hh => ?_))
    obtain ⟨er, h⟩ := hh
    subst er
    refine wp_ly (fun hly => ?_)
    refine wp_iload_n d_Tk_cutSign_28 (i := 2) rfl 3 rfl ?_
    refine wp_iconst d_Tk_cutSign_29 (by decide) ?_
    obtain ⟨ho, h⟩ := h
    refine wp_iadd d_Tk_cutSign_30 ho ?_
    exact wp_iret d_Tk_cutSign_31 rfl (by decide) h
set_option maxRecDepth 20000 in
set_option maxHeartbeats 2000000 in
theorem t_Tk_pairKind_0 {x0 : Int} {x1 : Int}  {w : Wo} {Q : Option AV → Wo → Prop} (h : ((¬ x0 = 58 → Wp m_Tk_pairKind 15 [(0, vi x0), (1, vi x1)] [] (0, 0) w Q) ∧ (x0 = 58 → ((¬ x1 = 45 → Wp m_Tk_pairKind 15 [(0, vi x0), (1, vi x1)] [] (0, 0) w Q) ∧ (x1 = 45 → Q (some (vi 11)) w))))) : Wp m_Tk_pairKind 0 [(0, vi x0), (1, vi x1)] [] (0, 0) w Q := by
  refine wp_ly (fun hly => ?_)
  refine wp_iload_n d_Tk_pairKind_0 (i := 0) rfl 0 rfl ?_
  refine wp_bipush d_Tk_pairKind_1 (by decide) (by decide) ?_
  refine wp_icmp_ne (tgt := 15) d_Tk_pairKind_3 (by decide) (fun hc => ?_) (fun hc => ?_)
  · replace h := h.1 hc
    exact h
  · replace h := h.2 hc
    refine wp_iload_n d_Tk_pairKind_6 (i := 1) rfl 1 rfl ?_
    refine wp_bipush d_Tk_pairKind_7 (by decide) (by decide) ?_
    refine wp_icmp_ne (tgt := 15) d_Tk_pairKind_9 (by decide) (fun hc => ?_) (fun hc => ?_)
    · replace h := h.1 hc
      exact h
    · replace h := h.2 hc
      refine wp_bipush d_Tk_pairKind_12 (by decide) (by decide) ?_
      exact wp_iret d_Tk_pairKind_14 rfl (by decide) h
set_option maxRecDepth 20000 in
set_option maxHeartbeats 2000000 in
theorem t_Tk_pairKind_15 {x0 : Int} {x1 : Int}  {w : Wo} {Q : Option AV → Wo → Prop} (h : ((x0 = 33 → ((¬ x1 = 61 → Q (some (vi 1)) w) ∧ (x1 = 61 → Q (some (vi 13)) w))) ∧ (¬ x0 = 33 → ((x0 = 60 → ((¬ x1 = 61 → Q (some (vi 1)) w) ∧ (x1 = 61 → Q (some (vi 13)) w))) ∧ (¬ x0 = 60 → ((¬ x0 = 62 → Q (some (vi 1)) w) ∧ (x0 = 62 → ((¬ x1 = 61 → Q (some (vi 1)) w) ∧ (x1 = 61 → Q (some (vi 13)) w))))))))) : Wp m_Tk_pairKind 15 [(0, vi x0), (1, vi x1)] [] (0, 0) w Q := by
  refine wp_ly (fun hly => ?_)
  refine wp_iload_n d_Tk_pairKind_15 (i := 0) rfl 0 rfl ?_
  refine wp_bipush d_Tk_pairKind_16 (by decide) (by decide) ?_
  refine wp_icmp_eq (tgt := 33) d_Tk_pairKind_18 (by decide) (fun hc => ?_) (fun hc => ?_)
  · replace h := h.1 hc
    refine wp_iconst d_Tk_pairKind_33 (by decide) ?_
    refine wp_goto (tgt := 38) d_Tk_pairKind_34 (by decide) ?_
    refine wp_istore_n (L' := [(2, vi 1), (0, vi x0), (1, vi x1)]) d_Tk_pairKind_38 (i := 2) rfl rfl (by decide) ?_
    refine wp_iload_n d_Tk_pairKind_39 (i := 2) rfl 0 rfl ?_
    refine wp_if_eq (tgt := 54) d_Tk_pairKind_40 (by decide) (fun hc => absurd hc (by decide)) (fun _ => ?_)
    refine wp_iload_n d_Tk_pairKind_43 (i := 1) rfl 2 rfl ?_
    refine wp_bipush d_Tk_pairKind_44 (by decide) (by decide) ?_
    refine wp_icmp_ne (tgt := 54) d_Tk_pairKind_46 (by decide) (fun hc => ?_) (fun hc => ?_)
    · replace h := h.1 hc
      refine wp_iconst d_Tk_pairKind_54 (by decide) ?_
      exact wp_iret d_Tk_pairKind_55 rfl (by decide) h
    · replace h := h.2 hc
      refine wp_bipush d_Tk_pairKind_49 (by decide) (by decide) ?_
      refine wp_goto (tgt := 55) d_Tk_pairKind_51 (by decide) ?_
      exact wp_iret d_Tk_pairKind_55 rfl (by decide) h
  · replace h := h.2 hc
    refine wp_iload_n d_Tk_pairKind_21 (i := 0) rfl 0 rfl ?_
    refine wp_bipush d_Tk_pairKind_22 (by decide) (by decide) ?_
    refine wp_icmp_eq (tgt := 33) d_Tk_pairKind_24 (by decide) (fun hc => ?_) (fun hc => ?_)
    · replace h := h.1 hc
      refine wp_iconst d_Tk_pairKind_33 (by decide) ?_
      refine wp_goto (tgt := 38) d_Tk_pairKind_34 (by decide) ?_
      refine wp_istore_n (L' := [(2, vi 1), (0, vi x0), (1, vi x1)]) d_Tk_pairKind_38 (i := 2) rfl rfl (by decide) ?_
      refine wp_iload_n d_Tk_pairKind_39 (i := 2) rfl 0 rfl ?_
      refine wp_if_eq (tgt := 54) d_Tk_pairKind_40 (by decide) (fun hc => absurd hc (by decide)) (fun _ => ?_)
      refine wp_iload_n d_Tk_pairKind_43 (i := 1) rfl 2 rfl ?_
      refine wp_bipush d_Tk_pairKind_44 (by decide) (by decide) ?_
      refine wp_icmp_ne (tgt := 54) d_Tk_pairKind_46 (by decide) (fun hc => ?_) (fun hc => ?_)
      · replace h := h.1 hc
        refine wp_iconst d_Tk_pairKind_54 (by decide) ?_
        exact wp_iret d_Tk_pairKind_55 rfl (by decide) h
      · replace h := h.2 hc
        refine wp_bipush d_Tk_pairKind_49 (by decide) (by decide) ?_
        refine wp_goto (tgt := 55) d_Tk_pairKind_51 (by decide) ?_
        exact wp_iret d_Tk_pairKind_55 rfl (by decide) h
    · replace h := h.2 hc
      refine wp_iload_n d_Tk_pairKind_27 (i := 0) rfl 0 rfl ?_
      refine wp_bipush d_Tk_pairKind_28 (by decide) (by decide) ?_
      refine wp_icmp_ne (tgt := 37) d_Tk_pairKind_30 (by decide) (fun hc => ?_) (fun hc => ?_)
      · replace h := h.1 hc
        refine wp_iconst d_Tk_pairKind_37 (by decide) ?_
        refine wp_istore_n (L' := [(2, vi 0), (0, vi x0), (1, vi x1)]) d_Tk_pairKind_38 (i := 2) rfl rfl (by decide) ?_
        refine wp_iload_n d_Tk_pairKind_39 (i := 2) rfl 0 rfl ?_
        refine wp_if_eq (tgt := 54) d_Tk_pairKind_40 (by decide) (fun _ => ?_) (fun hc => absurd hc (by decide))
        refine wp_iconst d_Tk_pairKind_54 (by decide) ?_
        exact wp_iret d_Tk_pairKind_55 rfl (by decide) h
      · replace h := h.2 hc
        refine wp_iconst d_Tk_pairKind_33 (by decide) ?_
        refine wp_goto (tgt := 38) d_Tk_pairKind_34 (by decide) ?_
        refine wp_istore_n (L' := [(2, vi 1), (0, vi x0), (1, vi x1)]) d_Tk_pairKind_38 (i := 2) rfl rfl (by decide) ?_
        refine wp_iload_n d_Tk_pairKind_39 (i := 2) rfl 0 rfl ?_
        refine wp_if_eq (tgt := 54) d_Tk_pairKind_40 (by decide) (fun hc => absurd hc (by decide)) (fun _ => ?_)
        refine wp_iload_n d_Tk_pairKind_43 (i := 1) rfl 2 rfl ?_
        refine wp_bipush d_Tk_pairKind_44 (by decide) (by decide) ?_
        refine wp_icmp_ne (tgt := 54) d_Tk_pairKind_46 (by decide) (fun hc => ?_) (fun hc => ?_)
        · replace h := h.1 hc
          refine wp_iconst d_Tk_pairKind_54 (by decide) ?_
          exact wp_iret d_Tk_pairKind_55 rfl (by decide) h
        · replace h := h.2 hc
          refine wp_bipush d_Tk_pairKind_49 (by decide) (by decide) ?_
          refine wp_goto (tgt := 55) d_Tk_pairKind_51 (by decide) ?_
          exact wp_iret d_Tk_pairKind_55 rfl (by decide) h
set_option maxRecDepth 20000 in
set_option maxHeartbeats 2000000 in
theorem t_Tk_signKind_0 {x0 : Int}  {w : Wo} {Q : Option AV → Wo → Prop} (h : ((x0 = 33 → Q (some (vi 9)) w) ∧ (x0 = 37 → Q (some (vi 15)) w) ∧ (x0 = 40 → Q (some (vi 5)) w) ∧ (x0 = 41 → Q (some (vi 6)) w) ∧ (x0 = 42 → Q (some (vi 15)) w) ∧ (x0 = 43 → Q (some (vi 15)) w) ∧ (x0 = 44 → Q (some (vi 7)) w) ∧ (x0 = 45 → Q (some (vi 14)) w) ∧ (x0 = 46 → Q (some (vi 8)) w) ∧ (x0 = 47 → Q (some (vi 15)) w) ∧ (x0 = 60 → Q (some (vi 13)) w) ∧ (x0 = 61 → Q (some (vi 12)) w) ∧ (x0 = 62 → Q (some (vi 13)) w) ∧ (x0 = 95 → Q (some (vi 10)) w) ∧ (¬ x0 = 33 → ¬ x0 = 37 → ¬ x0 = 40 → ¬ x0 = 41 → ¬ x0 = 42 → ¬ x0 = 43 → ¬ x0 = 44 → ¬ x0 = 45 → ¬ x0 = 46 → ¬ x0 = 47 → ¬ x0 = 60 → ¬ x0 = 61 → ¬ x0 = 62 → ¬ x0 = 95 → Q (some (vi 1)) w))) : Wp m_Tk_signKind 0 [(0, vi x0)] [] (0, 0) w Q := by
  refine wp_ly (fun hly => ?_)
  refine wp_iload_n d_Tk_signKind_0 (i := 0) rfl 0 rfl ?_
  by_cases hc0 : x0 = 33
  · replace h := h.1 hc0
    refine wp_lsw d_Tk_signKind_1 (by decide) 135 (by rw [hc0]; decide) ?_
    refine wp_bipush d_Tk_signKind_135 (by decide) (by decide) ?_
    exact wp_iret d_Tk_signKind_137 rfl (by decide) h
  replace h := h.2
  by_cases hc1 : x0 = 37
  · replace h := h.1 hc1
    refine wp_lsw d_Tk_signKind_1 (by decide) 150 (by rw [hc1]; decide) ?_
    refine wp_bipush d_Tk_signKind_150 (by decide) (by decide) ?_
    exact wp_iret d_Tk_signKind_152 rfl (by decide) h
  replace h := h.2
  by_cases hc2 : x0 = 40
  · replace h := h.1 hc2
    refine wp_lsw d_Tk_signKind_1 (by decide) 124 (by rw [hc2]; decide) ?_
    refine wp_iconst d_Tk_signKind_124 (by decide) ?_
    exact wp_iret d_Tk_signKind_125 rfl (by decide) h
  replace h := h.2
  by_cases hc3 : x0 = 41
  · replace h := h.1 hc3
    refine wp_lsw d_Tk_signKind_1 (by decide) 126 (by rw [hc3]; decide) ?_
    refine wp_bipush d_Tk_signKind_126 (by decide) (by decide) ?_
    exact wp_iret d_Tk_signKind_128 rfl (by decide) h
  replace h := h.2
  by_cases hc4 : x0 = 42
  · replace h := h.1 hc4
    refine wp_lsw d_Tk_signKind_1 (by decide) 150 (by rw [hc4]; decide) ?_
    refine wp_bipush d_Tk_signKind_150 (by decide) (by decide) ?_
    exact wp_iret d_Tk_signKind_152 rfl (by decide) h
  replace h := h.2
  by_cases hc5 : x0 = 43
  · replace h := h.1 hc5
    refine wp_lsw d_Tk_signKind_1 (by decide) 150 (by rw [hc5]; decide) ?_
    refine wp_bipush d_Tk_signKind_150 (by decide) (by decide) ?_
    exact wp_iret d_Tk_signKind_152 rfl (by decide) h
  replace h := h.2
  by_cases hc6 : x0 = 44
  · replace h := h.1 hc6
    refine wp_lsw d_Tk_signKind_1 (by decide) 129 (by rw [hc6]; decide) ?_
    refine wp_bipush d_Tk_signKind_129 (by decide) (by decide) ?_
    exact wp_iret d_Tk_signKind_131 rfl (by decide) h
  replace h := h.2
  by_cases hc7 : x0 = 45
  · replace h := h.1 hc7
    refine wp_lsw d_Tk_signKind_1 (by decide) 147 (by rw [hc7]; decide) ?_
    refine wp_bipush d_Tk_signKind_147 (by decide) (by decide) ?_
    exact wp_iret d_Tk_signKind_149 rfl (by decide) h
  replace h := h.2
  by_cases hc8 : x0 = 46
  · replace h := h.1 hc8
    refine wp_lsw d_Tk_signKind_1 (by decide) 132 (by rw [hc8]; decide) ?_
    refine wp_bipush d_Tk_signKind_132 (by decide) (by decide) ?_
    exact wp_iret d_Tk_signKind_134 rfl (by decide) h
  replace h := h.2
  by_cases hc9 : x0 = 47
  · replace h := h.1 hc9
    refine wp_lsw d_Tk_signKind_1 (by decide) 150 (by rw [hc9]; decide) ?_
    refine wp_bipush d_Tk_signKind_150 (by decide) (by decide) ?_
    exact wp_iret d_Tk_signKind_152 rfl (by decide) h
  replace h := h.2
  by_cases hc10 : x0 = 60
  · replace h := h.1 hc10
    refine wp_lsw d_Tk_signKind_1 (by decide) 144 (by rw [hc10]; decide) ?_
    refine wp_bipush d_Tk_signKind_144 (by decide) (by decide) ?_
    exact wp_iret d_Tk_signKind_146 rfl (by decide) h
  replace h := h.2
  by_cases hc11 : x0 = 61
  · replace h := h.1 hc11
    refine wp_lsw d_Tk_signKind_1 (by decide) 141 (by rw [hc11]; decide) ?_
    refine wp_bipush d_Tk_signKind_141 (by decide) (by decide) ?_
    exact wp_iret d_Tk_signKind_143 rfl (by decide) h
  replace h := h.2
  by_cases hc12 : x0 = 62
  · replace h := h.1 hc12
    refine wp_lsw d_Tk_signKind_1 (by decide) 144 (by rw [hc12]; decide) ?_
    refine wp_bipush d_Tk_signKind_144 (by decide) (by decide) ?_
    exact wp_iret d_Tk_signKind_146 rfl (by decide) h
  replace h := h.2
  by_cases hc13 : x0 = 95
  · replace h := h.1 hc13
    refine wp_lsw d_Tk_signKind_1 (by decide) 138 (by rw [hc13]; decide) ?_
    refine wp_bipush d_Tk_signKind_138 (by decide) (by decide) ?_
    exact wp_iret d_Tk_signKind_140 rfl (by decide) h
  replace h := h.2
  replace h := h hc0 hc1 hc2 hc3 hc4 hc5 hc6 hc7 hc8 hc9 hc10 hc11 hc12 hc13
  refine wp_lsw d_Tk_signKind_1 (by decide) 153 (by show (_ : Int) + Op.lookupswitch.offset [(33, 134), (37, 149), (40, 123), (41, 125), (42, 149), (43, 149), (44, 128), (45, 146), (46, 131), (47, 149), (60, 143), (61, 140), (62, 143), (95, 137)] _ x0 = _; rw [Op.lookupswitch.offset_cons, if_neg (fun z => hc0 z.symm), Op.lookupswitch.offset_cons, if_neg (fun z => hc1 z.symm), Op.lookupswitch.offset_cons, if_neg (fun z => hc2 z.symm), Op.lookupswitch.offset_cons, if_neg (fun z => hc3 z.symm), Op.lookupswitch.offset_cons, if_neg (fun z => hc4 z.symm), Op.lookupswitch.offset_cons, if_neg (fun z => hc5 z.symm), Op.lookupswitch.offset_cons, if_neg (fun z => hc6 z.symm), Op.lookupswitch.offset_cons, if_neg (fun z => hc7 z.symm), Op.lookupswitch.offset_cons, if_neg (fun z => hc8 z.symm), Op.lookupswitch.offset_cons, if_neg (fun z => hc9 z.symm), Op.lookupswitch.offset_cons, if_neg (fun z => hc10 z.symm), Op.lookupswitch.offset_cons, if_neg (fun z => hc11 z.symm), Op.lookupswitch.offset_cons, if_neg (fun z => hc12 z.symm), Op.lookupswitch.offset_cons, if_neg (fun z => hc13 z.symm)]; rfl) ?_
  refine wp_iconst d_Tk_signKind_153 (by decide) ?_
  exact wp_iret d_Tk_signKind_154 rfl (by decide) h

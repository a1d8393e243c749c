set_option maxRecDepth 20000 in
set_option maxHeartbeats 2000000 in
theorem t_D_type_0 {y1 : Int} {x3 : Int}  {w : Wo} {Q : Option AV → Wo → Prop} (h : ((x3 < 1 → Q (some (vi 0)) w) ∧ (¬ x3 < 1 → ((8 < x3 → Q (some (vi 0)) w) ∧ (¬ 8 < x3 → inr32 ((gI w 2 1) + x3) ∧ ((((gI w 2 1) + x3) ≤ 600 → Wp m_D_type 31 [(0, vr 1), (1, vl y1), (3, vi x3), (4, vi 0)] [] (0, 0) w Q) ∧ (¬ ((gI w 2 1) + x3) ≤ 600 → Q (some (vi 0)) w))))))) : Wp m_D_type 0 [(0, vr 1), (1, vl y1), (3, vi x3)] [] (0, 0) w Q := by
  refine wp_ly (fun hly => ?_)
  refine wp_iload_n d_D_type_0 (i := 3) rfl 2 rfl ?_
  refine wp_iconst d_D_type_1 (by decide) ?_
  refine wp_icmp_lt (tgt := 26) d_D_type_2 (by decide) (fun hc => ?_) (fun hc => ?_)
  · replace h := h.1 hc
    refine wp_iconst d_D_type_26 (by decide) ?_
    exact wp_zret d_D_type_27 rfl (by decide) (by decide) h
  · replace h := h.2 hc
    refine wp_iload_n d_D_type_5 (i := 3) rfl 2 rfl ?_
    refine wp_bipush d_D_type_6 (by decide) (by decide) ?_
    refine wp_icmp_gt (tgt := 26) d_D_type_8 (by decide) (fun hc => ?_) (fun hc => ?_)
    · replace h := h.1 hc
      refine wp_iconst d_D_type_26 (by decide) ?_
      exact wp_zret d_D_type_27 rfl (by decide) (by decide) h
    · replace h := h.2 hc
      refine wp_aload_n d_D_type_11 (i := 0) rfl 0 rfl ?_
      refine wp_getP d_D_type_12 fl_D_10 cl_8 rfl (ly_o hly (by decide)) (ly_r (v := 2) hly (by decide +kernel)) ?_
      refine wp_getI d_D_type_15 fl_D_33 cl_6 rfl (ly_o hly (by decide)) ?_
      refine wp_iload_n d_D_type_18 (i := 3) rfl 2 rfl ?_
      obtain ⟨ho, h⟩ := h
      refine wp_iadd d_D_type_19 ho ?_
      refine wp_sipush d_D_type_20 (by decide) (by decide) ?_
      refine wp_icmp_le (tgt := 28) d_D_type_23 (by decide) (fun hc => ?_) (fun hc => ?_)
      · replace h := h.1 hc
        refine wp_iconst d_D_type_28 (by decide) ?_
        refine wp_istore (L' := [(4, vi 0), (0, vr 1), (1, vl y1), (3, vi x3)]) d_D_type_29 rfl (by decide) ?_
        exact wp_pick [1, 2, 3, 0] rfl h
      · replace h := h.2 hc
        refine wp_iconst d_D_type_26 (by decide) ?_
        exact wp_zret d_D_type_27 rfl (by decide) (by decide) h
set_option maxRecDepth 20000 in
set_option maxHeartbeats 2000000 in
theorem t_D_type_31 {y1 : Int} {x3 : Int} {x4 : Int}  {w : Wo} {Q : Option AV → Wo → Prop} (h : ((x3 ≤ x4 → inr32 (x3 - 1) ∧ Wp m_D_type 72 [(0, vr 1), (1, vl y1), (4, vi (x3 - 1))] [] (0, 0) w Q) ∧ (¬ x3 ≤ x4 → MetI m_D_byteOf [vl y1, vi x4] w (fun z2 w1 => ((z2 < 32 → Q (some (vi 0)) w1) ∧ (¬ z2 < 32 → ((z2 ≤ 126 → inr32 (x4 + 1) ∧ Wp m_D_type 31 [(0, vr 1), (1, vl y1), (3, vi x3), (4, vi (x4 + 1))] [] (0, 0) w1 Q) ∧ (¬ z2 ≤ 126 → Q (some (vi 0)) w1)))))))) : Wp m_D_type 31 [(0, vr 1), (1, vl y1), (3, vi x3), (4, vi x4)] [] (0, 0) w Q := by
  refine wp_ly (fun hly => ?_)
  refine wp_iload d_D_type_31 3 rfl ?_
  refine wp_iload_n d_D_type_33 (i := 3) rfl 2 rfl ?_
  refine wp_icmp_ge (tgt := 67) d_D_type_34 (by decide) (fun hc => ?_) (fun hc => ?_)
  · replace h := h.1 hc
    refine wp_iload_n d_D_type_67 (i := 3) rfl 2 rfl ?_
    refine wp_iconst d_D_type_68 (by decide) ?_
    obtain ⟨ho, h⟩ := h
    refine wp_isub d_D_type_69 ho ?_
    refine wp_istore (L' := [(4, vi (x3 - 1)), (0, vr 1), (1, vl y1), (3, vi x3)]) d_D_type_70 rfl (by decide) ?_
    exact wp_pick [1, 2, 0] rfl h
  · replace h := h.2 hc
    refine wp_lload_n d_D_type_37 (i := 1) rfl 1 rfl ?_
    refine wp_iload d_D_type_38 3 rfl ?_
    refine wp_callS (A := [vl y1, vi x4]) (S := []) d_D_type_40 cs_D_type_37 rfl (Nat.le_of_ble_eq_true rfl) (by decide) (MetS.mono h (fun r w1 hh => ?_))
    obtain ⟨z2, er, h⟩ := hh
    subst er
    refine wp_ly (fun hly => ?_)
    refine wp_istore (L' := [(5, vi z2), (0, vr 1), (1, vl y1), (3, vi x3), (4, vi x4)]) d_D_type_43 rfl (by decide) ?_
    refine wp_iload d_D_type_45 0 rfl ?_
    refine wp_bipush d_D_type_47 (by decide) (by decide) ?_
    refine wp_icmp_lt (tgt := 59) d_D_type_49 (by decide) (fun hc => ?_) (fun hc => ?_)
    · replace h := h.1 hc
      refine wp_iconst d_D_type_59 (by decide) ?_
      exact wp_zret d_D_type_60 rfl (by decide) (by decide) h
    · replace h := h.2 hc
      refine wp_iload d_D_type_52 0 rfl ?_
      refine wp_bipush d_D_type_54 (by decide) (by decide) ?_
      refine wp_icmp_le (tgt := 61) d_D_type_56 (by decide) (fun hc => ?_) (fun hc => ?_)
      · replace h := h.1 hc
        obtain ⟨ho, h⟩ := h
        refine wp_iinc (L' := [(4, vi (x4 + 1)), (5, vi z2), (0, vr 1), (1, vl y1), (3, vi x3)]) d_D_type_61 4 rfl rfl (by decide) ho ?_
        refine wp_goto (tgt := 31) d_D_type_64 (by decide) ?_
        exact wp_pick [2, 3, 4, 0] rfl h
      · replace h := h.2 hc
        refine wp_iconst d_D_type_59 (by decide) ?_
        exact wp_zret d_D_type_60 rfl (by decide) (by decide) h
set_option maxRecDepth 20000 in
set_option maxHeartbeats 2000000 in
theorem t_D_type_72 {y1 : Int} {x4 : Int}  {w : Wo} {Q : Option AV → Wo → Prop} (h : ((x4 < 0 → Q (some (vi 1)) w) ∧ (¬ x4 < 0 → MetI m_D_byteOf [vl y1, vi x4] w (fun z2 w1 => MetV m_Tp_add [vr 2, vi z2] w1 (fun w3 => inr32 (x4 + (-1)) ∧ Wp m_D_type 72 [(0, vr 1), (1, vl y1), (4, vi (x4 + (-1)))] [] (0, 0) w3 Q))))) : Wp m_D_type 72 [(0, vr 1), (1, vl y1), (4, vi x4)] [] (0, 0) w Q := by
  refine wp_ly (fun hly => ?_)
  refine wp_iload d_D_type_72 2 rfl ?_
  refine wp_if_lt (tgt := 96) d_D_type_74 (by decide) (fun hc => ?_) (fun hc => ?_)
  · replace h := h.1 hc
    refine wp_iconst d_D_type_96 (by decide) ?_
    exact wp_zret d_D_type_97 rfl (by decide) (by decide) h
  · replace h := h.2 hc
    refine wp_aload_n d_D_type_77 (i := 0) rfl 0 rfl ?_
    refine wp_getP d_D_type_78 fl_D_10 cl_8 rfl (ly_o hly (by decide)) (ly_r (v := 2) hly (by decide +kernel)) ?_
    refine wp_lload_n d_D_type_81 (i := 1) rfl 1 rfl ?_
    refine wp_iload d_D_type_82 2 rfl ?_
    refine wp_callS (A := [vl y1, vi x4]) (S := [vr 2]) d_D_type_84 cs_D_type_37 rfl (Nat.le_of_ble_eq_true rfl) (by decide) (MetS.mono h (fun r w1 hh => ?_))
    obtain ⟨z2, er, h⟩ := hh
    subst er
    refine wp_ly (fun hly => ?_)
    refine wp_callV (A := [vi z2]) (S := []) d_D_type_87 cv_D_type_41 (ly_o hly (by decide)) rfl (Nat.le_of_ble_eq_true rfl) (by decide) (MetS.mono h (fun r w3 hh => ?_))
    obtain ⟨er, h⟩ := hh
    subst er
    refine wp_ly (fun hly => ?_)
    obtain ⟨ho, h⟩ := h
    refine wp_iinc (L' := [(4, vi (x4 + (-1))), (0, vr 1), (1, vl y1)]) d_D_type_90 2 rfl rfl (by decide) ho ?_
    refine wp_goto (tgt := 72) d_D_type_93 (by decide) ?_
    exact wp_pick [1, 2, 0] rfl h
set_option maxRecDepth 20000 in
set_option maxHeartbeats 2000000 in
theorem t_D_program_0   {w : Wo} {Q : Option AV → Wo → Prop} (h : MetI m_Rd_read [vr 4, vr 2, vr (gP w 1 3)] w (fun z3 w2 => (∀ w4 : Wo, w4 = uI w2 2 1 0 → ((¬ z3 = 0 → (∀ w8 : Wo, w8 = uP w4 1 2 (gP w4 1 3) → (∀ w10 : Wo, w10 = uP w8 1 3 (gP w4 1 2) → Q (some (vi (gI w10 ((gP w10 1 2) + 1) 0))) w10))) ∧ (z3 = 0 → Q (some (vr 28)) w4))))) : Wp m_D_program 0 [(0, vr 1)] [] (0, 0) w Q := by
  refine wp_ly (fun hly => ?_)
  refine wp_aload_n d_D_program_0 (i := 0) rfl 0 rfl ?_
  refine wp_getP d_D_program_1 fl_D_19 cl_8 rfl (ly_o hly (by decide)) (ly_r (v := 4) hly (by decide +kernel)) ?_
  refine wp_aload_n d_D_program_4 (i := 0) rfl 0 rfl ?_
  refine wp_getP d_D_program_5 fl_D_10 cl_8 rfl (ly_o hly (by decide)) (ly_r (v := 2) hly (by decide +kernel)) ?_
  refine wp_aload_n d_D_program_8 (i := 0) rfl 0 rfl ?_
  have hb1 := ly_draft hly
  refine wp_getP d_D_program_9 fl_D_30 cl_8 rfl (ly_o hly (by decide)) rfl ?_
  refine wp_callV (A := [vr 2, vr (gP w 1 3)]) (S := []) d_D_program_12 cv_D_program_45 (ly_o hly (by decide)) rfl (Nat.le_of_ble_eq_true rfl) (by decide) (MetS.mono h (fun r w2 hh => ?_))
  obtain ⟨z3, er, h⟩ := hh
  subst er
  refine wp_ly (fun hly => ?_)
  refine wp_istore_n (L' := [(1, vi z3), (0, vr 1)]) d_D_program_15 (i := 1) rfl rfl (by decide) ?_
  refine wp_aload_n d_D_program_16 (i := 0) rfl 1 rfl ?_
  refine wp_getP d_D_program_17 fl_D_10 cl_8 rfl (ly_o hly (by decide)) (ly_r (v := 2) hly (by decide +kernel)) ?_
  refine wp_iconst d_D_program_20 (by decide) ?_
  refine wp_putI d_D_program_21 fl_D_33 cl_6 ⟨rfl, rfl⟩ (ly_o hly (by decide)) (fun w4 e5 => ?_)
  replace h := h w4 e5
  refine wp_ly (fun hly => ?_)
  refine wp_iload_n d_D_program_24 (i := 1) rfl 0 rfl ?_
  refine wp_if_ne (tgt := 38) d_D_program_25 (by decide) (fun hc => ?_) (fun hc => ?_)
  · replace h := h.1 hc
    refine wp_aload_n d_D_program_38 (i := 0) rfl 1 rfl ?_
    have hb6 := ly_book hly
    refine wp_getP d_D_program_39 fl_D_26 cl_8 rfl (ly_o hly (by decide)) rfl ?_
    refine wp_astore_n (L' := [(2, vr (gP w4 1 2)), (1, vi z3), (0, vr 1)]) d_D_program_42 (i := 2) rfl rfl (by decide) ?_
    refine wp_aload_n d_D_program_43 (i := 0) rfl 2 rfl ?_
    refine wp_aload_n d_D_program_44 (i := 0) rfl 2 rfl ?_
    have hb7 := ly_draft hly
    refine wp_getP d_D_program_45 fl_D_30 cl_8 rfl (ly_o hly (by decide)) rfl ?_
    refine wp_putP d_D_program_48 fl_D_26 (Or.inl rfl) (Or.inl rfl) cl_8 ⟨rfl, by first | exact Or.inl ⟨_, rfl⟩ | exact Or.inr ⟨_, rfl⟩⟩ (ly_o hly (by decide)) (fun _ hl => ly_pbook hl hb7) (fun w8 e9 => ?_)
    replace h := h w8 e9
    refine wp_ly (fun hly => ?_)
    refine wp_aload_n d_D_program_51 (i := 0) rfl 2 rfl ?_
    refine wp_aload_n d_D_program_52 (i := 2) rfl 0 rfl ?_
    refine wp_putP d_D_program_53 fl_D_30 (Or.inl rfl) (Or.inl rfl) cl_8 ⟨rfl, by first | exact Or.inl ⟨_, rfl⟩ | exact Or.inr ⟨_, rfl⟩⟩ (ly_o hly (by decide)) (fun _ hl => ly_pdraft hl hb6) (fun w10 e11 => ?_)
    replace h := h w10 e11
    refine wp_ly (fun hly => ?_)
    refine wp_aload_n d_D_program_56 (i := 0) rfl 2 rfl ?_
    have hb12 := ly_book hly
    refine wp_getP d_D_program_57 fl_D_26 cl_8 rfl (ly_o hly (by decide)) rfl ?_
    refine wp_getP d_D_program_60 fl_D_56 cl_0 rfl (ly_o hly (bk_o hb12)) (bk_r0 hly hb12) ?_
    refine wp_getI d_D_program_63 fl_D_60 cl_5 rfl (ly_o hly (rl_o (bk_m0 hb12))) ?_
    exact wp_iret d_D_program_66 rfl (by decide) h
  · replace h := h.2 hc
    exact wp_throw rfl (by decide) h
set_option maxRecDepth 20000 in
set_option maxHeartbeats 2000000 in
theorem t_D_fault_0 {x1 : Int}  {w : Wo} {Q : Option AV → Wo → Prop} (h : ((x1 = 0 → Q (some (vi (gI w 4 4))) w) ∧ (x1 = 1 → Q (some (vi (gI w 4 5))) w) ∧ (¬ x1 = 0 → ¬ x1 = 1 → Q (some (vi (-1))) w))) : Wp m_D_fault 0 [(0, vr 1), (1, vi x1)] [] (0, 0) w Q := by
  refine wp_ly (fun hly => ?_)
  refine wp_iload_n d_D_fault_0 (i := 1) rfl 1 rfl ?_
  by_cases hc0 : x1 = 0
  · replace h := h.1 hc0
    refine wp_lsw d_D_fault_1 (by decide) 28 (by rw [hc0]; decide) ?_
    refine wp_aload_n d_D_fault_28 (i := 0) rfl 0 rfl ?_
    refine wp_getP d_D_fault_29 fl_D_19 cl_8 rfl (ly_o hly (by decide)) (ly_r (v := 4) hly (by decide +kernel)) ?_
    refine wp_getI d_D_fault_32 fl_D_65 cl_4 rfl (ly_o hly (by decide)) ?_
    exact wp_iret d_D_fault_35 rfl (by decide) h
  replace h := h.2
  by_cases hc1 : x1 = 1
  · replace h := h.1 hc1
    refine wp_lsw d_D_fault_1 (by decide) 36 (by rw [hc1]; decide) ?_
    refine wp_aload_n d_D_fault_36 (i := 0) rfl 0 rfl ?_
    refine wp_getP d_D_fault_37 fl_D_19 cl_8 rfl (ly_o hly (by decide)) (ly_r (v := 4) hly (by decide +kernel)) ?_
    refine wp_getI d_D_fault_40 fl_D_68 cl_4 rfl (ly_o hly (by decide)) ?_
    exact wp_iret d_D_fault_43 rfl (by decide) h
  replace h := h.2
  replace h := h hc0 hc1
  refine wp_lsw d_D_fault_1 (by decide) 44 (by show (_ : Int) + Op.lookupswitch.offset [(0, 27), (1, 35)] _ x1 = _; rw [Op.lookupswitch.offset_cons, if_neg (fun z => hc0 z.symm), Op.lookupswitch.offset_cons, if_neg (fun z => hc1 z.symm)]; rfl) ?_
  refine wp_iconst d_D_fault_44 (by decide) ?_
  exact wp_iret d_D_fault_45 rfl (by decide) h
set_option maxRecDepth 20000 in
set_option maxHeartbeats 2000000 in
theorem t_D_predicates_0   {w : Wo} {Q : Option AV → Wo → Prop} (h : Q (some (vi (gI w (gP w 1 2) 1))) w) : Wp m_D_predicates 0 [(0, vr 1)] [] (0, 0) w Q := by
  refine wp_ly (fun hly => ?_)
  refine wp_aload_n d_D_predicates_0 (i := 0) rfl 0 rfl ?_
  have hb1 := ly_book hly
  refine wp_getP d_D_predicates_1 fl_D_26 cl_8 rfl (ly_o hly (by decide)) rfl ?_
  refine wp_getI d_D_predicates_4 fl_D_71 cl_0 rfl (ly_o hly (bk_o hb1)) ?_
  exact wp_iret d_D_predicates_7 rfl (by decide) h
theorem sw_D_predicate_18 {y : Int} (h0 : ¬ y = 0) (h1 : ¬ y = 1) (h2 : ¬ y = 2) (h3 : ¬ y = 3) (h4 : ¬ y = 4) : y < 0 ∨ 4 < y := by omega
set_option maxRecDepth 20000 in
set_option maxHeartbeats 2000000 in
theorem t_D_predicate_0 {x1 : Int} {x2 : Int}  {w : Wo} {Q : Option AV → Wo → Prop} (h : ((x1 < 0 → Q (some (vi (-1))) w) ∧ (¬ x1 < 0 → ((x1 < (gI w (gP w 1 2) 1) → ((x2 = 0 → (0 ≤ x1 ∧ x1 < 16) ∧ Q (some (vi (gI w ((gP w 1 2) + 14) x1.toNat))) w) ∧ (x2 = 1 → (0 ≤ x1 ∧ x1 < 16) ∧ Q (some (vi (gI w ((gP w 1 2) + 17) x1.toNat))) w) ∧ (x2 = 2 → (0 ≤ x1 ∧ x1 < 16) ∧ Q (some (vi (gI w ((gP w 1 2) + 15) x1.toNat))) w) ∧ (x2 = 3 → (0 ≤ x1 ∧ x1 < 16) ∧ Q (some (vi (gI w ((gP w 1 2) + 16) x1.toNat))) w) ∧ (x2 = 4 → (0 ≤ x1 ∧ x1 < 16) ∧ MetI m_D_letters [vl (gJ w ((gP w 1 2) + 13) x1.toNat)] w (fun z13 w12 => Q (some (vi z13)) w12)) ∧ (¬ x2 = 0 → ¬ x2 = 1 → ¬ x2 = 2 → ¬ x2 = 3 → ¬ x2 = 4 → ((100 ≤ x2 → (0 ≤ x1 ∧ x1 < 16) ∧ inr32 (x2 - 100) ∧ MetI m_D_letter [vl (gJ w ((gP w 1 2) + 13) x1.toNat), vi (x2 - 100)] w (fun z17 w16 => Q (some (vi z17)) w16)) ∧ (¬ 100 ≤ x2 → Q (some (vi (-1))) w))))) ∧ (¬ x1 < (gI w (gP w 1 2) 1) → Q (some (vi (-1))) w))))) : Wp m_D_predicate 0 [(0, vr 1), (1, vi x1), (2, vi x2)] [] (0, 0) w Q := by
  refine wp_ly (fun hly => ?_)
  refine wp_iload_n d_D_predicate_0 (i := 1) rfl 1 rfl ?_
  refine wp_if_lt (tgt := 15) d_D_predicate_1 (by decide) (fun hc => ?_) (fun hc => ?_)
  · replace h := h.1 hc
    refine wp_iconst d_D_predicate_15 (by decide) ?_
    exact wp_iret d_D_predicate_16 rfl (by decide) h
  · replace h := h.2 hc
    refine wp_iload_n d_D_predicate_4 (i := 1) rfl 1 rfl ?_
    refine wp_aload_n d_D_predicate_5 (i := 0) rfl 0 rfl ?_
    have hb1 := ly_book hly
    refine wp_getP d_D_predicate_6 fl_D_26 cl_8 rfl (ly_o hly (by decide)) rfl ?_
    refine wp_getI d_D_predicate_9 fl_D_71 cl_0 rfl (ly_o hly (bk_o hb1)) ?_
    refine wp_icmp_lt (tgt := 17) d_D_predicate_12 (by decide) (fun hc => ?_) (fun hc => ?_)
    · replace h := h.1 hc
      refine wp_iload_n d_D_predicate_17 (i := 2) rfl 2 rfl ?_
      by_cases hc0 : x2 = 0
      · replace h := h.1 hc0
        refine wp_tsw d_D_predicate_18 (by decide) 52 (by rw [hc0]; decide) ?_
        refine wp_aload_n d_D_predicate_52 (i := 0) rfl 0 rfl ?_
        have hb2 := ly_book hly
        refine wp_getP d_D_predicate_53 fl_D_26 cl_8 rfl (ly_o hly (by decide)) rfl ?_
        refine wp_getP d_D_predicate_56 fl_D_72 cl_0 rfl (ly_o hly (bk_o hb2)) (bk_r3 hly hb2) ?_
        refine wp_iload_n d_D_predicate_59 (i := 1) rfl 1 rfl ?_
        obtain ⟨hi3, h⟩ := h
        refine wp_iaload d_D_predicate_60 (ly_a (n := 16) (N := 16) hly (bk_a3 hb2) hi3) ?_
        exact wp_iret d_D_predicate_61 rfl (by decide) h
      replace h := h.2
      by_cases hc1 : x2 = 1
      · replace h := h.1 hc1
        refine wp_tsw d_D_predicate_18 (by decide) 62 (by rw [hc1]; decide) ?_
        refine wp_aload_n d_D_predicate_62 (i := 0) rfl 0 rfl ?_
        have hb4 := ly_book hly
        refine wp_getP d_D_predicate_63 fl_D_26 cl_8 rfl (ly_o hly (by decide)) rfl ?_
        refine wp_getP d_D_predicate_66 fl_D_76 cl_0 rfl (ly_o hly (bk_o hb4)) (bk_r6 hly hb4) ?_
        refine wp_iload_n d_D_predicate_69 (i := 1) rfl 1 rfl ?_
        obtain ⟨hi5, h⟩ := h
        refine wp_iaload d_D_predicate_70 (ly_a (n := 16) (N := 16) hly (bk_a6 hb4) hi5) ?_
        exact wp_iret d_D_predicate_71 rfl (by decide) h
      replace h := h.2
      by_cases hc2 : x2 = 2
      · replace h := h.1 hc2
        refine wp_tsw d_D_predicate_18 (by decide) 72 (by rw [hc2]; decide) ?_
        refine wp_aload_n d_D_predicate_72 (i := 0) rfl 0 rfl ?_
        have hb6 := ly_book hly
        refine wp_getP d_D_predicate_73 fl_D_26 cl_8 rfl (ly_o hly (by decide)) rfl ?_
        refine wp_getP d_D_predicate_76 fl_D_79 cl_0 rfl (ly_o hly (bk_o hb6)) (bk_r4 hly hb6) ?_
        refine wp_iload_n d_D_predicate_79 (i := 1) rfl 1 rfl ?_
        obtain ⟨hi7, h⟩ := h
        refine wp_iaload d_D_predicate_80 (ly_a (n := 16) (N := 16) hly (bk_a4 hb6) hi7) ?_
        exact wp_iret d_D_predicate_81 rfl (by decide) h
      replace h := h.2
      by_cases hc3 : x2 = 3
      · replace h := h.1 hc3
        refine wp_tsw d_D_predicate_18 (by decide) 82 (by rw [hc3]; decide) ?_
        refine wp_aload_n d_D_predicate_82 (i := 0) rfl 0 rfl ?_
        have hb8 := ly_book hly
        refine wp_getP d_D_predicate_83 fl_D_26 cl_8 rfl (ly_o hly (by decide)) rfl ?_
        refine wp_getP d_D_predicate_86 fl_D_82 cl_0 rfl (ly_o hly (bk_o hb8)) (bk_r5 hly hb8) ?_
        refine wp_iload_n d_D_predicate_89 (i := 1) rfl 1 rfl ?_
        obtain ⟨hi9, h⟩ := h
        refine wp_iaload d_D_predicate_90 (ly_a (n := 16) (N := 16) hly (bk_a5 hb8) hi9) ?_
        exact wp_iret d_D_predicate_91 rfl (by decide) h
      replace h := h.2
      by_cases hc4 : x2 = 4
      · replace h := h.1 hc4
        refine wp_tsw d_D_predicate_18 (by decide) 92 (by rw [hc4]; decide) ?_
        refine wp_aload_n d_D_predicate_92 (i := 0) rfl 0 rfl ?_
        have hb10 := ly_book hly
        refine wp_getP d_D_predicate_93 fl_D_26 cl_8 rfl (ly_o hly (by decide)) rfl ?_
        refine wp_getP d_D_predicate_96 fl_D_85 cl_0 rfl (ly_o hly (bk_o hb10)) (bk_r2 hly hb10) ?_
        refine wp_iload_n d_D_predicate_99 (i := 1) rfl 1 rfl ?_
        obtain ⟨hi11, h⟩ := h
        refine wp_laload d_D_predicate_100 (ly_a (n := 16) (N := 16) hly (bk_a2 hb10) hi11) ?_
        refine wp_callS (A := [vl (gJ w ((gP w 1 2) + 13) x1.toNat)]) (S := []) d_D_predicate_101 cs_D_predicate_89 rfl (Nat.le_of_ble_eq_true rfl) (by decide) (MetS.mono h (fun r w12 hh => ?_))
        obtain ⟨z13, er, h⟩ := hh
        subst er
        refine wp_ly (fun hly => ?_)
        exact wp_iret d_D_predicate_104 rfl (by decide) h
      replace h := h.2
      replace h := h hc0 hc1 hc2 hc3 hc4
      have hsw := sw_D_predicate_18 hc0 hc1 hc2 hc3 hc4
      refine wp_tsw d_D_predicate_18 (by decide) 105 (by rcases hsw with hsw | hsw <;> first | (rw [swT_lo hsw]; decide) | (rw [swT_hi hsw]; decide) | (rw [hsw]; decide)) ?_
      refine wp_iload_n d_D_predicate_105 (i := 2) rfl 2 rfl ?_
      refine wp_bipush d_D_predicate_106 (by decide) (by decide) ?_
      refine wp_icmp_ge (tgt := 115) d_D_predicate_108 (by decide) (fun hc => ?_) (fun hc => ?_)
      · replace h := h.1 hc
        refine wp_aload_n d_D_predicate_115 (i := 0) rfl 0 rfl ?_
        have hb14 := ly_book hly
        refine wp_getP d_D_predicate_116 fl_D_26 cl_8 rfl (ly_o hly (by decide)) rfl ?_
        refine wp_getP d_D_predicate_119 fl_D_85 cl_0 rfl (ly_o hly (bk_o hb14)) (bk_r2 hly hb14) ?_
        refine wp_iload_n d_D_predicate_122 (i := 1) rfl 1 rfl ?_
        obtain ⟨hi15, h⟩ := h
        refine wp_laload d_D_predicate_123 (ly_a (n := 16) (N := 16) hly (bk_a2 hb14) hi15) ?_
        refine wp_iload_n d_D_predicate_124 (i := 2) rfl 2 rfl ?_
        refine wp_bipush d_D_predicate_125 (by decide) (by decide) ?_
        obtain ⟨ho, h⟩ := h
        refine wp_isub d_D_predicate_127 ho ?_
        refine wp_callS (A := [vl (gJ w ((gP w 1 2) + 13) x1.toNat), vi (x2 - 100)]) (S := []) d_D_predicate_128 cs_D_predicate_93 rfl (Nat.le_of_ble_eq_true rfl) (by decide) (MetS.mono h (fun r w16 hh => ?_))
        obtain ⟨z17, er, h⟩ := hh
        subst er
        refine wp_ly (fun hly => ?_)
        exact wp_iret d_D_predicate_131 rfl (by decide) h
      · replace h := h.2 hc
        refine wp_iconst d_D_predicate_111 (by decide) ?_
        refine wp_goto (tgt := 131) d_D_predicate_112 (by decide) ?_
        exact wp_iret d_D_predicate_131 rfl (by decide) h
    · replace h := h.2 hc
      refine wp_iconst d_D_predicate_15 (by decide) ?_
      exact wp_iret d_D_predicate_16 rfl (by decide) h
set_option maxRecDepth 20000 in
set_option maxHeartbeats 2000000 in
theorem t_D_hangs_0 {x1 : Int} {x2 : Int}  {w : Wo} {Q : Option AV → Wo → Prop} (h : ((x1 < 0 → Q (some (vi 0)) w) ∧ (¬ x1 < 0 → (((gI w (gP w 1 2) 1) ≤ x1 → Q (some (vi 0)) w) ∧ (¬ (gI w (gP w 1 2) 1) ≤ x1 → ((x2 < 0 → Q (some (vi 0)) w) ∧ (¬ x2 < 0 → (((gI w (gP w 1 2) 1) ≤ x2 → Q (some (vi 0)) w) ∧ (¬ (gI w (gP w 1 2) 1) ≤ x2 → MetI m_Bk_reaches [vr (gP w 1 2), vi x1, vi x2] w (fun z5 w4 => ((z5 = 0 → Q (some (vi 0)) w4) ∧ (¬ z5 = 0 → Q (some (vi 1)) w4)))))))))))) : Wp m_D_hangs 0 [(0, vr 1), (1, vi x1), (2, vi x2)] [] (0, 0) w Q := by
  refine wp_ly (fun hly => ?_)
  refine wp_iload_n d_D_hangs_0 (i := 1) rfl 1 rfl ?_
  refine wp_if_lt (tgt := 46) d_D_hangs_1 (by decide) (fun hc => ?_) (fun hc => ?_)
  · replace h := h.1 hc
    refine wp_iconst d_D_hangs_46 (by decide) ?_
    exact wp_zret d_D_hangs_47 rfl (by decide) (by decide) h
  · replace h := h.2 hc
    refine wp_iload_n d_D_hangs_4 (i := 1) rfl 1 rfl ?_
    refine wp_aload_n d_D_hangs_5 (i := 0) rfl 0 rfl ?_
    have hb1 := ly_book hly
    refine wp_getP d_D_hangs_6 fl_D_26 cl_8 rfl (ly_o hly (by decide)) rfl ?_
    refine wp_getI d_D_hangs_9 fl_D_71 cl_0 rfl (ly_o hly (bk_o hb1)) ?_
    refine wp_icmp_ge (tgt := 46) d_D_hangs_12 (by decide) (fun hc => ?_) (fun hc => ?_)
    · replace h := h.1 hc
      refine wp_iconst d_D_hangs_46 (by decide) ?_
      exact wp_zret d_D_hangs_47 rfl (by decide) (by decide) h
    · replace h := h.2 hc
      refine wp_iload_n d_D_hangs_15 (i := 2) rfl 2 rfl ?_
      refine wp_if_lt (tgt := 46) d_D_hangs_16 (by decide) (fun hc => ?_) (fun hc => ?_)
      · replace h := h.1 hc
        refine wp_iconst d_D_hangs_46 (by decide) ?_
        exact wp_zret d_D_hangs_47 rfl (by decide) (by decide) h
      · replace h := h.2 hc
        refine wp_iload_n d_D_hangs_19 (i := 2) rfl 2 rfl ?_
        refine wp_aload_n d_D_hangs_20 (i := 0) rfl 0 rfl ?_
        have hb2 := ly_book hly
        refine wp_getP d_D_hangs_21 fl_D_26 cl_8 rfl (ly_o hly (by decide)) rfl ?_
        refine wp_getI d_D_hangs_24 fl_D_71 cl_0 rfl (ly_o hly (bk_o hb2)) ?_
        refine wp_icmp_ge (tgt := 46) d_D_hangs_27 (by decide) (fun hc => ?_) (fun hc => ?_)
        · replace h := h.1 hc
          refine wp_iconst d_D_hangs_46 (by decide) ?_
          exact wp_zret d_D_hangs_47 rfl (by decide) (by decide) h
        · replace h := h.2 hc
          refine wp_aload_n d_D_hangs_30 (i := 0) rfl 0 rfl ?_
          have hb3 := ly_book hly
          refine wp_getP d_D_hangs_31 fl_D_26 cl_8 rfl (ly_o hly (by decide)) rfl ?_
          refine wp_iload_n d_D_hangs_34 (i := 1) rfl 1 rfl ?_
          refine wp_iload_n d_D_hangs_35 (i := 2) rfl 2 rfl ?_
          refine wp_callV (A := [vi x1, vi x2]) (S := []) d_D_hangs_36 cv_D_hangs_96 (ly_o hly (bk_o hb3)) rfl (Nat.le_of_ble_eq_true rfl) (by decide) (MetS.mono h (fun r w4 hh => ?_))
          obtain ⟨z5, er, h⟩ := hh
          subst er
          refine wp_ly (fun hly => ?_)
          refine wp_if_eq (tgt := 46) d_D_hangs_39 (by decide) (fun hc => ?_) (fun hc => ?_)
          · replace h := h.1 hc
            refine wp_iconst d_D_hangs_46 (by decide) ?_
            exact wp_zret d_D_hangs_47 rfl (by decide) (by decide) h
          · replace h := h.2 hc
            refine wp_iconst d_D_hangs_42 (by decide) ?_
            refine wp_goto (tgt := 47) d_D_hangs_43 (by decide) ?_
            exact wp_zret d_D_hangs_47 rfl (by decide) (by decide) h
theorem sw_D_rule_31 {y : Int} (h0 : ¬ y = 0) (h1 : ¬ y = 1) (h2 : ¬ y = 2) (h3 : ¬ y = 3) (h4 : ¬ y = 4) : y < 0 ∨ 4 < y := by omega
set_option maxRecDepth 20000 in
set_option maxHeartbeats 2000000 in
theorem t_D_rule_0 {x1 : Int} {x2 : Int}  {w : Wo} {Q : Option AV → Wo → Prop} (h : ((x1 < 0 → Q (some (vr 20)) w) ∧ (¬ x1 < 0 → ((x1 < (gI w ((gP w 1 2) + 1) 0) → ((x2 = 0 → (0 ≤ x1 ∧ x1 < 30) ∧ Q (some (vi (gI w (((gP w 1 2) + 1) + 1) x1.toNat))) w) ∧ (x2 = 1 → (0 ≤ x1 ∧ x1 < 30) ∧ Q (some (vi (gI w (((gP w 1 2) + 1) + 2) x1.toNat))) w) ∧ (x2 = 2 → (0 ≤ x1 ∧ x1 < 30) ∧ Q (some (vi (gI w (((gP w 1 2) + 1) + 3) x1.toNat))) w) ∧ (x2 = 3 → (0 ≤ x1 ∧ x1 < 30) ∧ Q (some (vi (gI w (((gP w 1 2) + 1) + 4) x1.toNat))) w) ∧ (x2 = 4 → MetI m_Bk_circles [vr (gP w 1 2), vi x1] w (fun z8 w7 => Q (some (vi z8)) w7)) ∧ (¬ x2 = 0 → ¬ x2 = 1 → ¬ x2 = 2 → ¬ x2 = 3 → ¬ x2 = 4 → Q (some (vr 101)) w))) ∧ (¬ x1 < (gI w ((gP w 1 2) + 1) 0) → Q (some (vr 20)) w))))) : Wp m_D_rule 0 [(0, vr 1), (1, vi x1), (2, vi x2)] [] (0, 0) w Q := by
  refine wp_ly (fun hly => ?_)
  refine wp_aload_n d_D_rule_0 (i := 0) rfl 0 rfl ?_
  have hb1 := ly_book hly
  refine wp_getP d_D_rule_1 fl_D_26 cl_8 rfl (ly_o hly (by decide)) rfl ?_
  refine wp_getP d_D_rule_4 fl_D_56 cl_0 rfl (ly_o hly (bk_o hb1)) (bk_r0 hly hb1) ?_
  refine wp_astore_n (L' := [(3, vr ((gP w 1 2) + 1)), (0, vr 1), (1, vi x1), (2, vi x2)]) d_D_rule_7 (i := 3) rfl rfl (by decide) ?_
  refine wp_iload_n d_D_rule_8 (i := 1) rfl 2 rfl ?_
  refine wp_if_lt (tgt := 20) d_D_rule_9 (by decide) (fun hc => ?_) (fun hc => ?_)
  · replace h := h.1 hc
    exact wp_throw rfl (by decide) h
  · replace h := h.2 hc
    refine wp_iload_n d_D_rule_12 (i := 1) rfl 2 rfl ?_
    refine wp_aload_n d_D_rule_13 (i := 3) rfl 0 rfl ?_
    refine wp_getI d_D_rule_14 fl_D_60 cl_5 rfl (ly_o hly (rl_o (bk_m0 hb1))) ?_
    refine wp_icmp_lt (tgt := 30) d_D_rule_17 (by decide) (fun hc => ?_) (fun hc => ?_)
    · replace h := h.1 hc
      refine wp_iload_n d_D_rule_30 (i := 2) rfl 3 rfl ?_
      by_cases hc0 : x2 = 0
      · replace h := h.1 hc0
        refine wp_tsw d_D_rule_31 (by decide) 64 (by rw [hc0]; decide) ?_
        refine wp_aload_n d_D_rule_64 (i := 3) rfl 0 rfl ?_
        refine wp_getP d_D_rule_65 fl_D_105 cl_5 rfl (ly_o hly (rl_o (bk_m0 hb1))) (rl_r1 hly (bk_m0 hb1)) ?_
        refine wp_iload_n d_D_rule_68 (i := 1) rfl 2 rfl ?_
        obtain ⟨hi2, h⟩ := h
        refine wp_iaload d_D_rule_69 (ly_a (n := 30) (N := 30) hly (rl_a1 (bk_m0 hb1)) hi2) ?_
        exact wp_iret d_D_rule_70 rfl (by decide) h
      replace h := h.2
      by_cases hc1 : x2 = 1
      · replace h := h.1 hc1
        refine wp_tsw d_D_rule_31 (by decide) 71 (by rw [hc1]; decide) ?_
        refine wp_aload_n d_D_rule_71 (i := 3) rfl 0 rfl ?_
        refine wp_getP d_D_rule_72 fl_D_108 cl_5 rfl (ly_o hly (rl_o (bk_m0 hb1))) (rl_r2 hly (bk_m0 hb1)) ?_
        refine wp_iload_n d_D_rule_75 (i := 1) rfl 2 rfl ?_
        obtain ⟨hi3, h⟩ := h
        refine wp_iaload d_D_rule_76 (ly_a (n := 30) (N := 30) hly (rl_a2 (bk_m0 hb1)) hi3) ?_
        exact wp_iret d_D_rule_77 rfl (by decide) h
      replace h := h.2
      by_cases hc2 : x2 = 2
      · replace h := h.1 hc2
        refine wp_tsw d_D_rule_31 (by decide) 78 (by rw [hc2]; decide) ?_
        refine wp_aload_n d_D_rule_78 (i := 3) rfl 0 rfl ?_
        refine wp_getP d_D_rule_79 fl_D_109 cl_5 rfl (ly_o hly (rl_o (bk_m0 hb1))) (rl_r3 hly (bk_m0 hb1)) ?_
        refine wp_iload_n d_D_rule_82 (i := 1) rfl 2 rfl ?_
        obtain ⟨hi4, h⟩ := h
        refine wp_iaload d_D_rule_83 (ly_a (n := 30) (N := 30) hly (rl_a3 (bk_m0 hb1)) hi4) ?_
        exact wp_iret d_D_rule_84 rfl (by decide) h
      replace h := h.2
      by_cases hc3 : x2 = 3
      · replace h := h.1 hc3
        refine wp_tsw d_D_rule_31 (by decide) 85 (by rw [hc3]; decide) ?_
        refine wp_aload_n d_D_rule_85 (i := 3) rfl 0 rfl ?_
        refine wp_getP d_D_rule_86 fl_D_112 cl_5 rfl (ly_o hly (rl_o (bk_m0 hb1))) (rl_r4 hly (bk_m0 hb1)) ?_
        refine wp_iload_n d_D_rule_89 (i := 1) rfl 2 rfl ?_
        obtain ⟨hi5, h⟩ := h
        refine wp_iaload d_D_rule_90 (ly_a (n := 30) (N := 30) hly (rl_a4 (bk_m0 hb1)) hi5) ?_
        exact wp_iret d_D_rule_91 rfl (by decide) h
      replace h := h.2
      by_cases hc4 : x2 = 4
      · replace h := h.1 hc4
        refine wp_tsw d_D_rule_31 (by decide) 92 (by rw [hc4]; decide) ?_
        refine wp_aload_n d_D_rule_92 (i := 0) rfl 1 rfl ?_
        have hb6 := ly_book hly
        refine wp_getP d_D_rule_93 fl_D_26 cl_8 rfl (ly_o hly (by decide)) rfl ?_
        refine wp_iload_n d_D_rule_96 (i := 1) rfl 2 rfl ?_
        refine wp_callV (A := [vi x1]) (S := []) d_D_rule_97 cv_D_rule_115 (ly_o hly (bk_o hb6)) rfl (Nat.le_of_ble_eq_true rfl) (by decide) (MetS.mono h (fun r w7 hh => ?_))
        obtain ⟨z8, er, h⟩ := hh
        subst er
        refine wp_ly (fun hly => ?_)
        exact wp_iret d_D_rule_100 rfl (by decide) h
      replace h := h.2
      replace h := h hc0 hc1 hc2 hc3 hc4
      have hsw := sw_D_rule_31 hc0 hc1 hc2 hc3 hc4
      refine wp_tsw d_D_rule_31 (by decide) 101 (by rcases hsw with hsw | hsw <;> first | (rw [swT_lo hsw]; decide) | (rw [swT_hi hsw]; decide) | (rw [hsw]; decide)) ?_
      exact wp_throw rfl (by decide) h
    · replace h := h.2 hc
      exact wp_throw rfl (by decide) h
theorem sw_D_literal_71 {y : Int} (h0 : ¬ y = 0) (h1 : ¬ y = 1) (h2 : ¬ y = 2) (h3 : ¬ y = 3) (h4 : ¬ y = 4) : y < 0 ∨ 4 < y := by omega
set_option maxRecDepth 20000 in
set_option maxHeartbeats 2000000 in
theorem t_D_literal_0 {x1 : Int} {x2 : Int} {x3 : Int}  {w : Wo} {Q : Option AV → Wo → Prop} (h : ((x1 < 0 → Q (some (vr 37)) w) ∧ (¬ x1 < 0 → (((gI w ((gP w 1 2) + 1) 0) ≤ x1 → Q (some (vr 37)) w) ∧ (¬ (gI w ((gP w 1 2) + 1) 0) ≤ x1 → ((x2 < 0 → Q (some (vr 37)) w) ∧ (¬ x2 < 0 → (0 ≤ x1 ∧ x1 < 30) ∧ ((x2 < (gI w (((gP w 1 2) + 1) + 2) x1.toNat) → inr32 (x1 * 6) ∧ inr32 ((x1 * 6) + x2) ∧ inr32 (x1 * 6) ∧ (0 ≤ ((x1 * 6) + x2) ∧ ((x1 * 6) + x2) < 180) ∧ inr32 ((x1 * 6) + (gI w (((gP w 1 2) + 1) + 9) ((x1 * 6) + x2).toNat)) ∧ ((x3 = 0 → (0 ≤ ((x1 * 6) + x2) ∧ ((x1 * 6) + x2) < 180) ∧ Q (some (vi (gI w (((gP w 1 2) + 1) + 9) ((x1 * 6) + x2).toNat))) w) ∧ (x3 = 1 → (0 ≤ ((x1 * 6) + (gI w (((gP w 1 2) + 1) + 9) ((x1 * 6) + x2).toNat)) ∧ ((x1 * 6) + (gI w (((gP w 1 2) + 1) + 9) ((x1 * 6) + x2).toNat)) < 180) ∧ Q (some (vi (gI w (((gP w 1 2) + 1) + 6) ((x1 * 6) + (gI w (((gP w 1 2) + 1) + 9) ((x1 * 6) + x2).toNat)).toNat))) w) ∧ (x3 = 2 → (0 ≤ ((x1 * 6) + (gI w (((gP w 1 2) + 1) + 9) ((x1 * 6) + x2).toNat)) ∧ ((x1 * 6) + (gI w (((gP w 1 2) + 1) + 9) ((x1 * 6) + x2).toNat)) < 180) ∧ Q (some (vi (gI w (((gP w 1 2) + 1) + 7) ((x1 * 6) + (gI w (((gP w 1 2) + 1) + 9) ((x1 * 6) + x2).toNat)).toNat))) w) ∧ (x3 = 3 → (0 ≤ ((x1 * 6) + x2) ∧ ((x1 * 6) + x2) < 180) ∧ Q (some (vi (gI w (((gP w 1 2) + 1) + 10) ((x1 * 6) + x2).toNat))) w) ∧ (x3 = 4 → (0 ≤ ((x1 * 6) + x2) ∧ ((x1 * 6) + x2) < 180) ∧ Q (some (vi (gI w (((gP w 1 2) + 1) + 11) ((x1 * 6) + x2).toNat))) w) ∧ (¬ x3 = 0 → ¬ x3 = 1 → ¬ x3 = 2 → ¬ x3 = 3 → ¬ x3 = 4 → Q (some (vr 149)) w))) ∧ (¬ x2 < (gI w (((gP w 1 2) + 1) + 2) x1.toNat) → Q (some (vr 37)) w))))))))) : Wp m_D_literal 0 [(0, vr 1), (1, vi x1), (2, vi x2), (3, vi x3)] [] (0, 0) w Q := by
  refine wp_ly (fun hly => ?_)
  refine wp_aload_n d_D_literal_0 (i := 0) rfl 0 rfl ?_
  have hb1 := ly_book hly
  refine wp_getP d_D_literal_1 fl_D_26 cl_8 rfl (ly_o hly (by decide)) rfl ?_
  refine wp_getP d_D_literal_4 fl_D_56 cl_0 rfl (ly_o hly (bk_o hb1)) (bk_r0 hly hb1) ?_
  refine wp_astore (L' := [(4, vr ((gP w 1 2) + 1)), (0, vr 1), (1, vi x1), (2, vi x2), (3, vi x3)]) d_D_literal_7 rfl (by decide) ?_
  refine wp_iload_n d_D_literal_9 (i := 1) rfl 2 rfl ?_
  refine wp_if_lt (tgt := 37) d_D_literal_10 (by decide) (fun hc => ?_) (fun hc => ?_)
  · replace h := h.1 hc
    exact wp_throw rfl (by decide) h
  · replace h := h.2 hc
    refine wp_iload_n d_D_literal_13 (i := 1) rfl 2 rfl ?_
    refine wp_aload d_D_literal_14 0 rfl ?_
    refine wp_getI d_D_literal_16 fl_D_60 cl_5 rfl (ly_o hly (rl_o (bk_m0 hb1))) ?_
    refine wp_icmp_ge (tgt := 37) d_D_literal_19 (by decide) (fun hc => ?_) (fun hc => ?_)
    · replace h := h.1 hc
      exact wp_throw rfl (by decide) h
    · replace h := h.2 hc
      refine wp_iload_n d_D_literal_22 (i := 2) rfl 3 rfl ?_
      refine wp_if_lt (tgt := 37) d_D_literal_23 (by decide) (fun hc => ?_) (fun hc => ?_)
      · replace h := h.1 hc
        exact wp_throw rfl (by decide) h
      · replace h := h.2 hc
        refine wp_iload_n d_D_literal_26 (i := 2) rfl 3 rfl ?_
        refine wp_aload d_D_literal_27 0 rfl ?_
        refine wp_getP d_D_literal_29 fl_D_108 cl_5 rfl (ly_o hly (rl_o (bk_m0 hb1))) (rl_r2 hly (bk_m0 hb1)) ?_
        refine wp_iload_n d_D_literal_32 (i := 1) rfl 2 rfl ?_
        obtain ⟨hi2, h⟩ := h
        refine wp_iaload d_D_literal_33 (ly_a (n := 30) (N := 30) hly (rl_a2 (bk_m0 hb1)) hi2) ?_
        refine wp_icmp_lt (tgt := 47) d_D_literal_34 (by decide) (fun hc => ?_) (fun hc => ?_)
        · replace h := h.1 hc
          refine wp_iload_n d_D_literal_47 (i := 1) rfl 2 rfl ?_
          refine wp_bipush d_D_literal_48 (by decide) (by decide) ?_
          obtain ⟨ho, h⟩ := h
          refine wp_imul d_D_literal_50 ho ?_
          refine wp_iload_n d_D_literal_51 (i := 2) rfl 3 rfl ?_
          obtain ⟨ho, h⟩ := h
          refine wp_iadd d_D_literal_52 ho ?_
          refine wp_istore (L' := [(5, vi ((x1 * 6) + x2)), (4, vr ((gP w 1 2) + 1)), (0, vr 1), (1, vi x1), (2, vi x2), (3, vi x3)]) d_D_literal_53 rfl (by decide) ?_
          refine wp_iload_n d_D_literal_55 (i := 1) rfl 3 rfl ?_
          refine wp_bipush d_D_literal_56 (by decide) (by decide) ?_
          obtain ⟨ho, h⟩ := h
          refine wp_imul d_D_literal_58 ho ?_
          refine wp_aload d_D_literal_59 1 rfl ?_
          refine wp_getP d_D_literal_61 fl_D_123 cl_5 rfl (ly_o hly (rl_o (bk_m0 hb1))) (rl_r9 hly (bk_m0 hb1)) ?_
          refine wp_iload d_D_literal_64 0 rfl ?_
          obtain ⟨hi3, h⟩ := h
          refine wp_iaload d_D_literal_66 (ly_a (n := 180) (N := 180) hly (rl_a9 (bk_m0 hb1)) hi3) ?_
          obtain ⟨ho, h⟩ := h
          refine wp_iadd d_D_literal_67 ho ?_
          refine wp_istore (L' := [(6, vi ((x1 * 6) + (gI w (((gP w 1 2) + 1) + 9) ((x1 * 6) + x2).toNat))), (5, vi ((x1 * 6) + x2)), (4, vr ((gP w 1 2) + 1)), (0, vr 1), (1, vi x1), (2, vi x2), (3, vi x3)]) d_D_literal_68 rfl (by decide) ?_
          refine wp_iload_n d_D_literal_70 (i := 3) rfl 6 rfl ?_
          by_cases hc0 : x3 = 0
          · replace h := h.1 hc0
            refine wp_tsw d_D_literal_71 (by decide) 104 (by rw [hc0]; decide) ?_
            refine wp_aload d_D_literal_104 2 rfl ?_
            refine wp_getP d_D_literal_106 fl_D_123 cl_5 rfl (ly_o hly (rl_o (bk_m0 hb1))) (rl_r9 hly (bk_m0 hb1)) ?_
            refine wp_iload d_D_literal_109 1 rfl ?_
            obtain ⟨hi4, h⟩ := h
            refine wp_iaload d_D_literal_111 (ly_a (n := 180) (N := 180) hly (rl_a9 (bk_m0 hb1)) hi4) ?_
            exact wp_iret d_D_literal_112 rfl (by decide) h
          replace h := h.2
          by_cases hc1 : x3 = 1
          · replace h := h.1 hc1
            refine wp_tsw d_D_literal_71 (by decide) 113 (by rw [hc1]; decide) ?_
            refine wp_aload d_D_literal_113 2 rfl ?_
            refine wp_getP d_D_literal_115 fl_D_126 cl_5 rfl (ly_o hly (rl_o (bk_m0 hb1))) (rl_r6 hly (bk_m0 hb1)) ?_
            refine wp_iload d_D_literal_118 0 rfl ?_
            obtain ⟨hi5, h⟩ := h
            refine wp_iaload d_D_literal_120 (ly_a (n := 180) (N := 180) hly (rl_a6 (bk_m0 hb1)) hi5) ?_
            exact wp_iret d_D_literal_121 rfl (by decide) h
          replace h := h.2
          by_cases hc2 : x3 = 2
          · replace h := h.1 hc2
            refine wp_tsw d_D_literal_71 (by decide) 122 (by rw [hc2]; decide) ?_
            refine wp_aload d_D_literal_122 2 rfl ?_
            refine wp_getP d_D_literal_124 fl_D_129 cl_5 rfl (ly_o hly (rl_o (bk_m0 hb1))) (rl_r7 hly (bk_m0 hb1)) ?_
            refine wp_iload d_D_literal_127 0 rfl ?_
            obtain ⟨hi6, h⟩ := h
            refine wp_iaload d_D_literal_129 (ly_a (n := 180) (N := 180) hly (rl_a7 (bk_m0 hb1)) hi6) ?_
            exact wp_iret d_D_literal_130 rfl (by decide) h
          replace h := h.2
          by_cases hc3 : x3 = 3
          · replace h := h.1 hc3
            refine wp_tsw d_D_literal_71 (by decide) 131 (by rw [hc3]; decide) ?_
            refine wp_aload d_D_literal_131 2 rfl ?_
            refine wp_getP d_D_literal_133 fl_D_132 cl_5 rfl (ly_o hly (rl_o (bk_m0 hb1))) (rl_r10 hly (bk_m0 hb1)) ?_
            refine wp_iload d_D_literal_136 1 rfl ?_
            obtain ⟨hi7, h⟩ := h
            refine wp_iaload d_D_literal_138 (ly_a (n := 180) (N := 180) hly (rl_a10 (bk_m0 hb1)) hi7) ?_
            exact wp_iret d_D_literal_139 rfl (by decide) h
          replace h := h.2
          by_cases hc4 : x3 = 4
          · replace h := h.1 hc4
            refine wp_tsw d_D_literal_71 (by decide) 140 (by rw [hc4]; decide) ?_
            refine wp_aload d_D_literal_140 2 rfl ?_
            refine wp_getP d_D_literal_142 fl_D_135 cl_5 rfl (ly_o hly (rl_o (bk_m0 hb1))) (rl_r11 hly (bk_m0 hb1)) ?_
            refine wp_iload d_D_literal_145 1 rfl ?_
            obtain ⟨hi8, h⟩ := h
            refine wp_iaload d_D_literal_147 (ly_a (n := 180) (N := 180) hly (rl_a11 (bk_m0 hb1)) hi8) ?_
            exact wp_iret d_D_literal_148 rfl (by decide) h
          replace h := h.2
          replace h := h hc0 hc1 hc2 hc3 hc4
          have hsw := sw_D_literal_71 hc0 hc1 hc2 hc3 hc4
          refine wp_tsw d_D_literal_71 (by decide) 149 (by rcases hsw with hsw | hsw <;> first | (rw [swT_lo hsw]; decide) | (rw [swT_hi hsw]; decide) | (rw [hsw]; decide)) ?_
          exact wp_throw rfl (by decide) h
        · replace h := h.2 hc
          exact wp_throw rfl (by decide) h
set_option maxRecDepth 20000 in
set_option maxHeartbeats 2000000 in
theorem t_D_byteOf_0 {y0 : Int} {x2 : Int}  {w : Wo} {Q : Option AV → Wo → Prop} (h : inr32 (8 * x2) ∧ Q (some (vi (b_iand (b_l2i (b_lushr y0 (8 * x2))) 255))) w) : Wp m_D_byteOf 0 [(0, vl y0), (2, vi x2)] [] (0, 0) w Q := by
  refine wp_ly (fun hly => ?_)
  refine wp_lload_n d_D_byteOf_0 (i := 0) rfl 0 rfl ?_
  refine wp_bipush d_D_byteOf_1 (by decide) (by decide) ?_
  refine wp_iload_n d_D_byteOf_3 (i := 2) rfl 1 rfl ?_
  obtain ⟨ho, h⟩ := h
  refine wp_imul d_D_byteOf_4 ho ?_
  refine wp_lushr d_D_byteOf_5 ?_
  refine wp_l2i d_D_byteOf_6 ?_
  refine wp_sipush d_D_byteOf_7 (by decide) (by decide) ?_
  refine wp_iand d_D_byteOf_10 ?_
  exact wp_iret d_D_byteOf_11 rfl (by decide) h
set_option maxRecDepth 20000 in
set_option maxHeartbeats 2000000 in
theorem t_D_letters_0 {y0 : Int}  {w : Wo} {Q : Option AV → Wo → Prop} (h : Wp m_D_letters 2 [(0, vl y0), (2, vi 0)] [] (0, 0) w Q) : Wp m_D_letters 0 [(0, vl y0)] [] (0, 0) w Q := by
  refine wp_ly (fun hly => ?_)
  refine wp_iconst d_D_letters_0 (by decide) ?_
  refine wp_istore_n (L' := [(2, vi 0), (0, vl y0)]) d_D_letters_1 (i := 2) rfl rfl (by decide) ?_
  exact wp_pick [1, 0] rfl h
set_option maxRecDepth 20000 in
set_option maxHeartbeats 2000000 in
theorem t_D_letters_2 {y0 : Int} {x2 : Int}  {w : Wo} {Q : Option AV → Wo → Prop} (h : ((6 ≤ x2 → Q (some (vi x2)) w) ∧ (¬ 6 ≤ x2 → inr32 (7 * x2) ∧ (((b_lcmp (b_lshr y0 (7 * x2)) 0) = 0 → Q (some (vi x2)) w) ∧ (¬ (b_lcmp (b_lshr y0 (7 * x2)) 0) = 0 → inr32 (x2 + 1) ∧ Wp m_D_letters 2 [(0, vl y0), (2, vi (x2 + 1))] [] (0, 0) w Q))))) : Wp m_D_letters 2 [(0, vl y0), (2, vi x2)] [] (0, 0) w Q := by
  refine wp_ly (fun hly => ?_)
  refine wp_iload_n d_D_letters_2 (i := 2) rfl 1 rfl ?_
  refine wp_bipush d_D_letters_3 (by decide) (by decide) ?_
  refine wp_icmp_ge (tgt := 25) d_D_letters_5 (by decide) (fun hc => ?_) (fun hc => ?_)
  · replace h := h.1 hc
    refine wp_iload_n d_D_letters_25 (i := 2) rfl 1 rfl ?_
    exact wp_iret d_D_letters_26 rfl (by decide) h
  · replace h := h.2 hc
    refine wp_lload_n d_D_letters_8 (i := 0) rfl 0 rfl ?_
    refine wp_bipush d_D_letters_9 (by decide) (by decide) ?_
    refine wp_iload_n d_D_letters_11 (i := 2) rfl 1 rfl ?_
    obtain ⟨ho, h⟩ := h
    refine wp_imul d_D_letters_12 ho ?_
    refine wp_lshr d_D_letters_13 ?_
    refine wp_lconst d_D_letters_14 (x := 0) (by decide) (by decide) ?_
    refine wp_lcmp d_D_letters_15 ?_
    refine wp_if_eq (tgt := 25) d_D_letters_16 (by decide) (fun hc => ?_) (fun hc => ?_)
    · replace h := h.1 hc
      refine wp_iload_n d_D_letters_25 (i := 2) rfl 1 rfl ?_
      exact wp_iret d_D_letters_26 rfl (by decide) h
    · replace h := h.2 hc
      obtain ⟨ho, h⟩ := h
      refine wp_iinc (L' := [(2, vi (x2 + 1)), (0, vl y0)]) d_D_letters_19 1 rfl rfl (by decide) ho ?_
      refine wp_goto (tgt := 2) d_D_letters_22 (by decide) ?_
      exact wp_pick [1, 0] rfl h
set_option maxRecDepth 20000 in
set_option maxHeartbeats 2000000 in
theorem t_D_letter_0 {y0 : Int} {x2 : Int}  {w : Wo} {Q : Option AV → Wo → Prop} (h : MetI m_D_letters [vl y0] w (fun z2 w1 => inr32 (z2 - 1) ∧ inr32 ((z2 - 1) - x2) ∧ ((x2 < 0 → Q (some (vi (-1))) w1) ∧ (¬ x2 < 0 → ((0 ≤ ((z2 - 1) - x2) → inr32 (7 * ((z2 - 1) - x2)) ∧ Q (some (vi (b_iand (b_l2i (b_lshr y0 (7 * ((z2 - 1) - x2)))) 127))) w1) ∧ (¬ 0 ≤ ((z2 - 1) - x2) → Q (some (vi (-1))) w1)))))) : Wp m_D_letter 0 [(0, vl y0), (2, vi x2)] [] (0, 0) w Q := by
  refine wp_ly (fun hly => ?_)
  refine wp_lload_n d_D_letter_0 (i := 0) rfl 0 rfl ?_
  refine wp_callS (A := [vl y0]) (S := []) d_D_letter_1 cs_D_letter_89 rfl (Nat.le_of_ble_eq_true rfl) (by decide) (MetS.mono h (fun r w1 hh => ?_))
  obtain ⟨z2, er, h⟩ := hh
  subst er
  refine wp_ly (fun hly => ?_)
  refine wp_iconst d_D_letter_4 (by decide) ?_
  obtain ⟨ho, h⟩ := h
  refine wp_isub d_D_letter_5 ho ?_
  refine wp_iload_n d_D_letter_6 (i := 2) rfl 1 rfl ?_
  obtain ⟨ho, h⟩ := h
  refine wp_isub d_D_letter_7 ho ?_
  refine wp_istore_n (L' := [(3, vi ((z2 - 1) - x2)), (0, vl y0), (2, vi x2)]) d_D_letter_8 (i := 3) rfl rfl (by decide) ?_
  refine wp_iload_n d_D_letter_9 (i := 2) rfl 2 rfl ?_
  refine wp_if_lt (tgt := 17) d_D_letter_10 (by decide) (fun hc => ?_) (fun hc => ?_)
  · replace h := h.1 hc
    refine wp_iconst d_D_letter_17 (by decide) ?_
    exact wp_iret d_D_letter_18 rfl (by decide) h
  · replace h := h.2 hc
    refine wp_iload_n d_D_letter_13 (i := 3) rfl 0 rfl ?_
    refine wp_if_ge (tgt := 19) d_D_letter_14 (by decide) (fun hc => ?_) (fun hc => ?_)
    · replace h := h.1 hc
      refine wp_lload_n d_D_letter_19 (i := 0) rfl 1 rfl ?_
      refine wp_bipush d_D_letter_20 (by decide) (by decide) ?_
      refine wp_iload_n d_D_letter_22 (i := 3) rfl 0 rfl ?_
      obtain ⟨ho, h⟩ := h
      refine wp_imul d_D_letter_23 ho ?_
      refine wp_lshr d_D_letter_24 ?_
      refine wp_l2i d_D_letter_25 ?_
      refine wp_bipush d_D_letter_26 (by decide) (by decide) ?_
      refine wp_iand d_D_letter_28 ?_
      exact wp_iret d_D_letter_29 rfl (by decide) h
    · replace h := h.2 hc
      refine wp_iconst d_D_letter_17 (by decide) ?_
      exact wp_iret d_D_letter_18 rfl (by decide) h

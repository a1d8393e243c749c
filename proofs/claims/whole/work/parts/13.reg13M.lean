set_option maxRecDepth 20000 in
set_option maxHeartbeats 2000000 in
theorem t_M_plan_153 {x1 : Int} {x2 : Int} {x3 : Int} {x5 : Int} {x6 : Int} {x7 : Int}  {w : Wo} {Q : Option AV → Wo → Prop} (h : ((x6 ≤ x7 → (0 ≤ x3 ∧ x3 < 6) ∧ (∀ w2 : Wo, w2 = uI w 114 x3.toNat x2 → inr32 (x3 + 1) ∧ Wp m_M_plan 46 [(0, vr 78), (1, vi x1), (2, vi x2), (3, vi (x3 + 1))] [] (0, 0) w2 Q)) ∧ (¬ x6 ≤ x7 → inr32 (4 * x5) ∧ inr32 ((4 * x5) + x7) ∧ (0 ≤ ((4 * x5) + x7) ∧ ((4 * x5) + x7) < 1464) ∧ ((¬ (gI w 98 ((4 * x5) + x7).toNat) = 1 → inr32 (x7 + 1) ∧ Wp m_M_plan 153 [(0, vr 78), (1, vi x1), (2, vi x2), (3, vi x3), (5, vi x5), (6, vi x6), (7, vi (x7 + 1))] [] (0, 0) w Q) ∧ ((gI w 98 ((4 * x5) + x7).toNat) = 1 → inr32 (4 * x5) ∧ inr32 ((4 * x5) + x7) ∧ (0 ≤ ((4 * x5) + x7) ∧ ((4 * x5) + x7) < 1464) ∧ (0 ≤ (b_l2i (gJ w 99 ((4 * x5) + x7).toNat)) ∧ (b_l2i (gJ w 99 ((4 * x5) + x7).toNat)) < 9) ∧ (((gI w 115 (b_l2i (gJ w 99 ((4 * x5) + x7).toNat)).toNat) = 0 → inr32 (4 * x5) ∧ inr32 ((4 * x5) + x7) ∧ (0 ≤ ((4 * x5) + x7) ∧ ((4 * x5) + x7) < 1464) ∧ (0 ≤ (b_l2i (gJ w 99 ((4 * x5) + x7).toNat)) ∧ (b_l2i (gJ w 99 ((4 * x5) + x7).toNat)) < 9) ∧ (∀ w9 : Wo, w9 = uI w 115 (b_l2i (gJ w 99 ((4 * x5) + x7).toNat)).toNat 1 → inr32 (x2 + 1) ∧ inr32 (x7 + 1) ∧ Wp m_M_plan 153 [(0, vr 78), (1, vi x1), (2, vi (x2 + 1)), (3, vi x3), (5, vi x5), (6, vi x6), (7, vi (x7 + 1))] [] (0, 0) w9 Q)) ∧ (¬ (gI w 115 (b_l2i (gJ w 99 ((4 * x5) + x7).toNat)).toNat) = 0 → inr32 (x7 + 1) ∧ Wp m_M_plan 153 [(0, vr 78), (1, vi x1), (2, vi x2), (3, vi x3), (5, vi x5), (6, vi x6), (7, vi (x7 + 1))] [] (0, 0) w Q))))))) : Wp m_M_plan 153 [(0, vr 78), (1, vi x1), (2, vi x2), (3, vi x3), (5, vi x5), (6, vi x6), (7, vi x7)] [] (0, 0) w Q := by
  refine wp_ly (fun hly => ?_)
  refine wp_iload d_M_plan_153 6 rfl ?_
  refine wp_iload d_M_plan_155 5 rfl ?_
  refine wp_icmp_ge (tgt := 228) d_M_plan_157 (by decide) (fun hc => ?_) (fun hc => ?_)
  · replace h := h.1 hc
    refine wp_aload_n d_M_plan_228 (i := 0) rfl 0 rfl ?_
    refine wp_getP d_M_plan_229 fl_M_117 cl_9 rfl (ly_o hly (by decide)) (ly_r (v := 114) hly (by decide +kernel)) ?_
    refine wp_iload_n d_M_plan_232 (i := 3) rfl 3 rfl ?_
    refine wp_iload_n d_M_plan_233 (i := 2) rfl 2 rfl ?_
    obtain ⟨hi1, h⟩ := h
    refine wp_iastore d_M_plan_234 (ly_a (n := 6) (N := 6) hly (by decide) hi1) (fun w2 e3 => ?_)
    replace h := h w2 e3
    refine wp_ly (fun hly => ?_)
    obtain ⟨ho, h⟩ := h
    refine wp_iinc (L' := [(3, vi (x3 + 1)), (0, vr 78), (1, vi x1), (2, vi x2), (5, vi x5), (6, vi x6), (7, vi x7)]) d_M_plan_235 3 rfl rfl (by decide) ho ?_
    refine wp_goto (tgt := 46) d_M_plan_238 (by decide) ?_
    exact wp_pick [1, 2, 3, 0] rfl h
  · replace h := h.2 hc
    refine wp_aload_n d_M_plan_160 (i := 0) rfl 0 rfl ?_
    refine wp_getP d_M_plan_161 fl_M_68 cl_9 rfl (ly_o hly (by decide)) (ly_r (v := 98) hly (by decide +kernel)) ?_
    refine wp_iconst d_M_plan_164 (by decide) ?_
    refine wp_iload d_M_plan_165 4 rfl ?_
    obtain ⟨ho, h⟩ := h
    refine wp_imul d_M_plan_167 ho ?_
    refine wp_iload d_M_plan_168 6 rfl ?_
    obtain ⟨ho, h⟩ := h
    refine wp_iadd d_M_plan_170 ho ?_
    obtain ⟨hi4, h⟩ := h
    refine wp_iaload d_M_plan_171 (ly_a (n := 1464) (N := 1464) hly (by decide) hi4) ?_
    refine wp_iconst d_M_plan_172 (by decide) ?_
    refine wp_icmp_ne (tgt := 222) d_M_plan_173 (by decide) (fun hc => ?_) (fun hc => ?_)
    · replace h := h.1 hc
      obtain ⟨ho, h⟩ := h
      refine wp_iinc (L' := [(7, vi (x7 + 1)), (0, vr 78), (1, vi x1), (2, vi x2), (3, vi x3), (5, vi x5), (6, vi x6)]) d_M_plan_222 6 rfl rfl (by decide) ho ?_
      refine wp_goto (tgt := 153) d_M_plan_225 (by decide) ?_
      exact wp_pick [1, 2, 3, 4, 5, 6, 0] rfl h
    · replace h := h.2 hc
      refine wp_aload_n d_M_plan_176 (i := 0) rfl 0 rfl ?_
      refine wp_getP d_M_plan_177 fl_M_120 cl_9 rfl (ly_o hly (by decide)) (ly_r (v := 115) hly (by decide +kernel)) ?_
      refine wp_aload_n d_M_plan_180 (i := 0) rfl 0 rfl ?_
      refine wp_getP d_M_plan_181 fl_M_71 cl_9 rfl (ly_o hly (by decide)) (ly_r (v := 99) hly (by decide +kernel)) ?_
      refine wp_iconst d_M_plan_184 (by decide) ?_
      refine wp_iload d_M_plan_185 4 rfl ?_
      obtain ⟨ho, h⟩ := h
      refine wp_imul d_M_plan_187 ho ?_
      refine wp_iload d_M_plan_188 6 rfl ?_
      obtain ⟨ho, h⟩ := h
      refine wp_iadd d_M_plan_190 ho ?_
      obtain ⟨hi5, h⟩ := h
      refine wp_laload d_M_plan_191 (ly_a (n := 1464) (N := 1464) hly (by decide) hi5) ?_
      refine wp_l2i d_M_plan_192 ?_
      obtain ⟨hi6, h⟩ := h
      refine wp_zaload d_M_plan_193 (ly_a (n := 9) (N := 9) hly (by decide) hi6) ?_
      refine wp_if_eq (tgt := 200) d_M_plan_194 (by decide) (fun hc => ?_) (fun hc => ?_)
      · replace h := h.1 hc
        refine wp_aload_n d_M_plan_200 (i := 0) rfl 0 rfl ?_
        refine wp_getP d_M_plan_201 fl_M_120 cl_9 rfl (ly_o hly (by decide)) (ly_r (v := 115) hly (by decide +kernel)) ?_
        refine wp_aload_n d_M_plan_204 (i := 0) rfl 0 rfl ?_
        refine wp_getP d_M_plan_205 fl_M_71 cl_9 rfl (ly_o hly (by decide)) (ly_r (v := 99) hly (by decide +kernel)) ?_
        refine wp_iconst d_M_plan_208 (by decide) ?_
        refine wp_iload d_M_plan_209 4 rfl ?_
        obtain ⟨ho, h⟩ := h
        refine wp_imul d_M_plan_211 ho ?_
        refine wp_iload d_M_plan_212 6 rfl ?_
        obtain ⟨ho, h⟩ := h
        refine wp_iadd d_M_plan_214 ho ?_
        obtain ⟨hi7, h⟩ := h
        refine wp_laload d_M_plan_215 (ly_a (n := 1464) (N := 1464) hly (by decide) hi7) ?_
        refine wp_l2i d_M_plan_216 ?_
        refine wp_iconst d_M_plan_217 (by decide) ?_
        obtain ⟨hi8, h⟩ := h
        refine wp_zastore d_M_plan_218 (ly_a (n := 9) (N := 9) hly (by decide) hi8) (by decide) (fun w9 e10 => ?_)
        replace h := h w9 e10
        refine wp_ly (fun hly => ?_)
        obtain ⟨ho, h⟩ := h
        refine wp_iinc (L' := [(2, vi (x2 + 1)), (0, vr 78), (1, vi x1), (3, vi x3), (5, vi x5), (6, vi x6), (7, vi x7)]) d_M_plan_219 2 rfl rfl (by decide) ho ?_
        obtain ⟨ho, h⟩ := h
        refine wp_iinc (L' := [(7, vi (x7 + 1)), (2, vi (x2 + 1)), (0, vr 78), (1, vi x1), (3, vi x3), (5, vi x5), (6, vi x6)]) d_M_plan_222 6 rfl rfl (by decide) ho ?_
        refine wp_goto (tgt := 153) d_M_plan_225 (by decide) ?_
        exact wp_pick [2, 3, 1, 4, 5, 6, 0] rfl h
      · replace h := h.2 hc
        refine wp_goto (tgt := 222) d_M_plan_197 (by decide) ?_
        obtain ⟨ho, h⟩ := h
        refine wp_iinc (L' := [(7, vi (x7 + 1)), (0, vr 78), (1, vi x1), (2, vi x2), (3, vi x3), (5, vi x5), (6, vi x6)]) d_M_plan_222 6 rfl rfl (by decide) ho ?_
        refine wp_goto (tgt := 153) d_M_plan_225 (by decide) ?_
        exact wp_pick [1, 2, 3, 4, 5, 6, 0] rfl h
set_option maxRecDepth 20000 in
set_option maxHeartbeats 2000000 in
theorem t_M_predicates_0   {w : Wo} {Q : Option AV → Wo → Prop} (h : (∀ w1 : Wo, w1 = uI w 78 0 0 → (0 ≤ (gI w1 78 11) ∧ (gI w1 78 11) < 2) ∧ Q (some (vi (gI w1 84 (gI w1 78 11).toNat))) w1)) : Wp m_M_predicates 0 [(0, vr 78)] [] (0, 0) w Q := by
  refine wp_ly (fun hly => ?_)
  refine wp_aload_n d_M_predicates_0 (i := 0) rfl 0 rfl ?_
  refine wp_iconst d_M_predicates_1 (by decide) ?_
  refine wp_putI d_M_predicates_2 fl_M_126 cl_9 ⟨rfl, rfl⟩ (ly_o hly (by decide)) (fun w1 e2 => ?_)
  replace h := h w1 e2
  refine wp_ly (fun hly => ?_)
  refine wp_aload_n d_M_predicates_5 (i := 0) rfl 0 rfl ?_
  refine wp_getP d_M_predicates_6 fl_M_26 cl_9 rfl (ly_o hly (by decide)) (ly_r (v := 84) hly (by decide +kernel)) ?_
  refine wp_aload_n d_M_predicates_9 (i := 0) rfl 0 rfl ?_
  refine wp_getI d_M_predicates_10 fl_M_308 cl_9 rfl (ly_o hly (by decide)) ?_
  obtain ⟨hi3, h⟩ := h
  refine wp_iaload d_M_predicates_13 (ly_a (n := 2) (N := 2) hly (by decide) hi3) ?_
  exact wp_iret d_M_predicates_14 rfl (by decide) h
set_option maxRecDepth 20000 in
set_option maxHeartbeats 2000000 in
theorem t_M_letters_0 {y0 : Int}  {w : Wo} {Q : Option AV → Wo → Prop} (h : Wp m_M_letters 4 [(2, vi 0), (3, vl y0)] [] (0, 0) w Q) : Wp m_M_letters 0 [(0, vl y0)] [] (0, 0) w Q := by
  refine wp_ly (fun hly => ?_)
  refine wp_iconst d_M_letters_0 (by decide) ?_
  refine wp_istore_n (L' := [(2, vi 0), (0, vl y0)]) d_M_letters_1 (i := 2) rfl rfl (by decide) ?_
  refine wp_lload_n d_M_letters_2 (i := 0) rfl 1 rfl ?_
  refine wp_lstore_n (L' := [(3, vl y0), (2, vi 0), (0, vl y0)]) d_M_letters_3 (i := 3) rfl rfl (by decide) ?_
  exact wp_pick [1, 0] rfl h
set_option maxRecDepth 20000 in
set_option maxHeartbeats 2000000 in
theorem t_M_letters_4 {x2 : Int} {y3 : Int}  {w : Wo} {Q : Option AV → Wo → Prop} (h : (((b_lcmp y3 0) ≤ 0 → Q (some (vi x2)) w) ∧ (¬ (b_lcmp y3 0) ≤ 0 → inr32 (x2 + 1) ∧ Wp m_M_letters 4 [(2, vi (x2 + 1)), (3, vl (b_lshr y3 8))] [] (0, 0) w Q))) : Wp m_M_letters 4 [(2, vi x2), (3, vl y3)] [] (0, 0) w Q := by
  refine wp_ly (fun hly => ?_)
  refine wp_lload_n d_M_letters_4 (i := 3) rfl 1 rfl ?_
  refine wp_lconst d_M_letters_5 (x := 0) (by decide) (by decide) ?_
  refine wp_lcmp d_M_letters_6 ?_
  refine wp_if_le (tgt := 21) d_M_letters_7 (by decide) (fun hc => ?_) (fun hc => ?_)
  · replace h := h.1 hc
    refine wp_iload_n d_M_letters_21 (i := 2) rfl 0 rfl ?_
    exact wp_iret d_M_letters_22 rfl (by decide) h
  · replace h := h.2 hc
    obtain ⟨ho, h⟩ := h
    refine wp_iinc (L' := [(2, vi (x2 + 1)), (3, vl y3)]) d_M_letters_10 0 rfl rfl (by decide) ho ?_
    refine wp_lload_n d_M_letters_13 (i := 3) rfl 1 rfl ?_
    refine wp_bipush d_M_letters_14 (by decide) (by decide) ?_
    refine wp_lshr d_M_letters_16 ?_
    refine wp_lstore_n (L' := [(3, vl (b_lshr y3 8)), (2, vi (x2 + 1))]) d_M_letters_17 (i := 3) rfl rfl (by decide) ?_
    refine wp_goto (tgt := 4) d_M_letters_18 (by decide) ?_
    exact wp_pick [1, 0] rfl h
set_option maxRecDepth 20000 in
set_option maxHeartbeats 2000000 in
theorem t_M_predicate_0 {x1 : Int} {x2 : Int}  {w : Wo} {Q : Option AV → Wo → Prop} (h : (∀ w1 : Wo, w1 = uI w 78 0 0 → ((x1 < 0 → Q (some (vi (-1))) w1) ∧ (¬ x1 < 0 → (0 ≤ (gI w1 78 11) ∧ (gI w1 78 11) < 2) ∧ ((x1 < (gI w1 84 (gI w1 78 11).toNat) → inr32 (16 * (gI w1 78 11)) ∧ inr32 ((16 * (gI w1 78 11)) + x1) ∧ (0 ≤ ((16 * (gI w1 78 11)) + x1) ∧ ((16 * (gI w1 78 11)) + x1) < 32) ∧ MetI m_M_letters [vl (gJ w1 85 ((16 * (gI w1 78 11)) + x1).toNat)] w1 (fun z6 w5 => ((x2 < 100 → Wp m_M_predicate 85 [(0, vr 78), (1, vi x1), (2, vi x2), (3, vi 0), (6, vi z6)] [] (0, 0) w5 Q) ∧ (¬ x2 < 100 → inr32 (100 + z6) ∧ (((100 + z6) ≤ x2 → Wp m_M_predicate 85 [(0, vr 78), (1, vi x1), (2, vi x2), (3, vi 0), (6, vi z6)] [] (0, 0) w5 Q) ∧ (¬ (100 + z6) ≤ x2 → inr32 (z6 - 1) ∧ inr32 ((z6 - 1) - x2) ∧ inr32 (((z6 - 1) - x2) + 100) ∧ inr32 (8 * (((z6 - 1) - x2) + 100)) ∧ Q (some (vi (b_l2i (b_land (b_lshr (gJ w1 85 ((16 * (gI w1 78 11)) + x1).toNat) (8 * (((z6 - 1) - x2) + 100))) 255)))) w5)))))) ∧ (¬ x1 < (gI w1 84 (gI w1 78 11).toNat) → Q (some (vi (-1))) w1)))))) : Wp m_M_predicate 0 [(0, vr 78), (1, vi x1), (2, vi x2)] [] (0, 0) w Q := by
  refine wp_ly (fun hly => ?_)
  refine wp_aload_n d_M_predicate_0 (i := 0) rfl 0 rfl ?_
  refine wp_iconst d_M_predicate_1 (by decide) ?_
  refine wp_putI d_M_predicate_2 fl_M_126 cl_9 ⟨rfl, rfl⟩ (ly_o hly (by decide)) (fun w1 e2 => ?_)
  replace h := h w1 e2
  refine wp_ly (fun hly => ?_)
  refine wp_iload_n d_M_predicate_5 (i := 1) rfl 1 rfl ?_
  refine wp_if_lt (tgt := 22) d_M_predicate_6 (by decide) (fun hc => ?_) (fun hc => ?_)
  · replace h := h.1 hc
    refine wp_iconst d_M_predicate_22 (by decide) ?_
    exact wp_iret d_M_predicate_23 rfl (by decide) h
  · replace h := h.2 hc
    refine wp_iload_n d_M_predicate_9 (i := 1) rfl 1 rfl ?_
    refine wp_aload_n d_M_predicate_10 (i := 0) rfl 0 rfl ?_
    refine wp_getP d_M_predicate_11 fl_M_26 cl_9 rfl (ly_o hly (by decide)) (ly_r (v := 84) hly (by decide +kernel)) ?_
    refine wp_aload_n d_M_predicate_14 (i := 0) rfl 0 rfl ?_
    refine wp_getI d_M_predicate_15 fl_M_308 cl_9 rfl (ly_o hly (by decide)) ?_
    obtain ⟨hi3, h⟩ := h
    refine wp_iaload d_M_predicate_18 (ly_a (n := 2) (N := 2) hly (by decide) hi3) ?_
    refine wp_icmp_lt (tgt := 24) d_M_predicate_19 (by decide) (fun hc => ?_) (fun hc => ?_)
    · replace h := h.1 hc
      refine wp_iconst d_M_predicate_24 (by decide) ?_
      refine wp_istore_n (L' := [(3, vi 0), (0, vr 78), (1, vi x1), (2, vi x2)]) d_M_predicate_25 (i := 3) rfl rfl (by decide) ?_
      refine wp_aload_n d_M_predicate_26 (i := 0) rfl 1 rfl ?_
      refine wp_getP d_M_predicate_27 fl_M_29 cl_9 rfl (ly_o hly (by decide)) (ly_r (v := 85) hly (by decide +kernel)) ?_
      refine wp_bipush d_M_predicate_30 (by decide) (by decide) ?_
      refine wp_aload_n d_M_predicate_32 (i := 0) rfl 1 rfl ?_
      refine wp_getI d_M_predicate_33 fl_M_308 cl_9 rfl (ly_o hly (by decide)) ?_
      obtain ⟨ho, h⟩ := h
      refine wp_imul d_M_predicate_36 ho ?_
      refine wp_iload_n d_M_predicate_37 (i := 1) rfl 2 rfl ?_
      obtain ⟨ho, h⟩ := h
      refine wp_iadd d_M_predicate_38 ho ?_
      obtain ⟨hi4, h⟩ := h
      refine wp_laload d_M_predicate_39 (ly_a (n := 32) (N := 32) hly (by decide) hi4) ?_
      refine wp_lstore (L' := [(4, vl (gJ w1 85 ((16 * (gI w1 78 11)) + x1).toNat)), (3, vi 0), (0, vr 78), (1, vi x1), (2, vi x2)]) d_M_predicate_40 rfl (by decide) ?_
      refine wp_lload d_M_predicate_42 0 rfl ?_
      refine wp_callS (A := [vl (gJ w1 85 ((16 * (gI w1 78 11)) + x1).toNat)]) (S := []) d_M_predicate_44 cs_M_predicate_338 rfl (Nat.le_of_ble_eq_true rfl) (by decide) (MetS.mono h (fun r w5 hh => ?_))
      obtain ⟨z6, er, h⟩ := hh
      subst er
      refine wp_ly (fun hly => ?_)
      refine wp_istore (L' := [(6, vi z6), (4, vl (gJ w1 85 ((16 * (gI w1 78 11)) + x1).toNat)), (3, vi 0), (0, vr 78), (1, vi x1), (2, vi x2)]) d_M_predicate_47 rfl (by decide) ?_
      refine wp_iload_n d_M_predicate_49 (i := 2) rfl 5 rfl ?_
      refine wp_bipush d_M_predicate_50 (by decide) (by decide) ?_
      refine wp_icmp_lt (tgt := 85) d_M_predicate_52 (by decide) (fun hc => ?_) (fun hc => ?_)
      · replace h := h.1 hc
        exact wp_pick [3, 4, 5, 2, 0] rfl h
      · replace h := h.2 hc
        refine wp_iload_n d_M_predicate_55 (i := 2) rfl 5 rfl ?_
        refine wp_bipush d_M_predicate_56 (by decide) (by decide) ?_
        refine wp_iload d_M_predicate_58 0 rfl ?_
        obtain ⟨ho, h⟩ := h
        refine wp_iadd d_M_predicate_60 ho ?_
        refine wp_icmp_ge (tgt := 85) d_M_predicate_61 (by decide) (fun hc => ?_) (fun hc => ?_)
        · replace h := h.1 hc
          exact wp_pick [3, 4, 5, 2, 0] rfl h
        · replace h := h.2 hc
          refine wp_lload d_M_predicate_64 1 rfl ?_
          refine wp_bipush d_M_predicate_66 (by decide) (by decide) ?_
          refine wp_iload d_M_predicate_68 0 rfl ?_
          refine wp_iconst d_M_predicate_70 (by decide) ?_
          obtain ⟨ho, h⟩ := h
          refine wp_isub d_M_predicate_71 ho ?_
          refine wp_iload_n d_M_predicate_72 (i := 2) rfl 5 rfl ?_
          obtain ⟨ho, h⟩ := h
          refine wp_isub d_M_predicate_73 ho ?_
          refine wp_bipush d_M_predicate_74 (by decide) (by decide) ?_
          obtain ⟨ho, h⟩ := h
          refine wp_iadd d_M_predicate_76 ho ?_
          obtain ⟨ho, h⟩ := h
          refine wp_imul d_M_predicate_77 ho ?_
          refine wp_lshr d_M_predicate_78 ?_
          refine wp_ldc2 d_M_predicate_79 (x := 255) lc_M_133 (by decide) ?_
          refine wp_land d_M_predicate_82 ?_
          refine wp_l2i d_M_predicate_83 ?_
          exact wp_iret d_M_predicate_84 rfl (by decide) h
    · replace h := h.2 hc
      refine wp_iconst d_M_predicate_22 (by decide) ?_
      exact wp_iret d_M_predicate_23 rfl (by decide) h
theorem sw_M_predicate_86 {y : Int} (h0 : ¬ y = 0) (h1 : ¬ y = 1) (h2 : ¬ y = 2) (h3 : ¬ y = 3) (h4 : ¬ y = 4) : y < 0 ∨ 4 < y := by omega
set_option maxRecDepth 20000 in
set_option maxHeartbeats 2000000 in
theorem t_M_predicate_85 {x1 : Int} {x2 : Int} {x3 : Int} {x6 : Int}  {w : Wo} {Q : Option AV → Wo → Prop} (h : ((x2 = 0 → inr32 (16 * (gI w 78 11)) ∧ inr32 ((16 * (gI w 78 11)) + x1) ∧ (0 ≤ ((16 * (gI w 78 11)) + x1) ∧ ((16 * (gI w 78 11)) + x1) < 32) ∧ Q (some (vi (gI w 86 ((16 * (gI w 78 11)) + x1).toNat))) w) ∧ (x2 = 1 → inr32 (16 * (gI w 78 11)) ∧ inr32 ((16 * (gI w 78 11)) + x1) ∧ (0 ≤ ((16 * (gI w 78 11)) + x1) ∧ ((16 * (gI w 78 11)) + x1) < 32) ∧ Q (some (vi (gI w 87 ((16 * (gI w 78 11)) + x1).toNat))) w) ∧ (x2 = 2 → inr32 (30 * (gI w 78 11)) ∧ Wp m_M_predicate 159 [(0, vr 78), (1, vi x1), (3, vi x3), (7, vi (30 * (gI w 78 11)))] [] (0, 0) w Q) ∧ (x2 = 3 → inr32 (200 * (gI w 78 11)) ∧ Wp m_M_predicate 218 [(0, vr 78), (1, vi x1), (3, vi x3), (7, vi (200 * (gI w 78 11)))] [] (0, 0) w Q) ∧ (x2 = 4 → Q (some (vi x6)) w) ∧ (¬ x2 = 0 → ¬ x2 = 1 → ¬ x2 = 2 → ¬ x2 = 3 → ¬ x2 = 4 → Q (some (vi (-1))) w))) : Wp m_M_predicate 85 [(0, vr 78), (1, vi x1), (2, vi x2), (3, vi x3), (6, vi x6)] [] (0, 0) w Q := by
  refine wp_ly (fun hly => ?_)
  refine wp_iload_n d_M_predicate_85 (i := 2) rfl 2 rfl ?_
  by_cases hc0 : x2 = 0
  · replace h := h.1 hc0
    refine wp_tsw d_M_predicate_86 (by decide) 120 (by rw [hc0]; decide) ?_
    refine wp_aload_n d_M_predicate_120 (i := 0) rfl 0 rfl ?_
    refine wp_getP d_M_predicate_121 fl_M_32 cl_9 rfl (ly_o hly (by decide)) (ly_r (v := 86) hly (by decide +kernel)) ?_
    refine wp_bipush d_M_predicate_124 (by decide) (by decide) ?_
    refine wp_aload_n d_M_predicate_126 (i := 0) rfl 0 rfl ?_
    refine wp_getI d_M_predicate_127 fl_M_308 cl_9 rfl (ly_o hly (by decide)) ?_
    obtain ⟨ho, h⟩ := h
    refine wp_imul d_M_predicate_130 ho ?_
    refine wp_iload_n d_M_predicate_131 (i := 1) rfl 1 rfl ?_
    obtain ⟨ho, h⟩ := h
    refine wp_iadd d_M_predicate_132 ho ?_
    obtain ⟨hi1, h⟩ := h
    refine wp_iaload d_M_predicate_133 (ly_a (n := 32) (N := 32) hly (by decide) hi1) ?_
    exact wp_iret d_M_predicate_134 rfl (by decide) h
  replace h := h.2
  by_cases hc1 : x2 = 1
  · replace h := h.1 hc1
    refine wp_tsw d_M_predicate_86 (by decide) 135 (by rw [hc1]; decide) ?_
    refine wp_aload_n d_M_predicate_135 (i := 0) rfl 0 rfl ?_
    refine wp_getP d_M_predicate_136 fl_M_35 cl_9 rfl (ly_o hly (by decide)) (ly_r (v := 87) hly (by decide +kernel)) ?_
    refine wp_bipush d_M_predicate_139 (by decide) (by decide) ?_
    refine wp_aload_n d_M_predicate_141 (i := 0) rfl 0 rfl ?_
    refine wp_getI d_M_predicate_142 fl_M_308 cl_9 rfl (ly_o hly (by decide)) ?_
    obtain ⟨ho, h⟩ := h
    refine wp_imul d_M_predicate_145 ho ?_
    refine wp_iload_n d_M_predicate_146 (i := 1) rfl 1 rfl ?_
    obtain ⟨ho, h⟩ := h
    refine wp_iadd d_M_predicate_147 ho ?_
    obtain ⟨hi2, h⟩ := h
    refine wp_iaload d_M_predicate_148 (ly_a (n := 32) (N := 32) hly (by decide) hi2) ?_
    exact wp_iret d_M_predicate_149 rfl (by decide) h
  replace h := h.2
  by_cases hc2 : x2 = 2
  · replace h := h.1 hc2
    refine wp_tsw d_M_predicate_86 (by decide) 150 (by rw [hc2]; decide) ?_
    refine wp_bipush d_M_predicate_150 (by decide) (by decide) ?_
    refine wp_aload_n d_M_predicate_152 (i := 0) rfl 0 rfl ?_
    refine wp_getI d_M_predicate_153 fl_M_308 cl_9 rfl (ly_o hly (by decide)) ?_
    obtain ⟨ho, h⟩ := h
    refine wp_imul d_M_predicate_156 ho ?_
    refine wp_istore (L' := [(7, vi (30 * (gI w 78 11))), (0, vr 78), (1, vi x1), (2, vi x2), (3, vi x3), (6, vi x6)]) d_M_predicate_157 rfl (by decide) ?_
    exact wp_pick [1, 2, 4, 0] rfl h
  replace h := h.2
  by_cases hc3 : x2 = 3
  · replace h := h.1 hc3
    refine wp_tsw d_M_predicate_86 (by decide) 208 (by rw [hc3]; decide) ?_
    refine wp_sipush d_M_predicate_208 (by decide) (by decide) ?_
    refine wp_aload_n d_M_predicate_211 (i := 0) rfl 0 rfl ?_
    refine wp_getI d_M_predicate_212 fl_M_308 cl_9 rfl (ly_o hly (by decide)) ?_
    obtain ⟨ho, h⟩ := h
    refine wp_imul d_M_predicate_215 ho ?_
    refine wp_istore (L' := [(7, vi (200 * (gI w 78 11))), (0, vr 78), (1, vi x1), (2, vi x2), (3, vi x3), (6, vi x6)]) d_M_predicate_216 rfl (by decide) ?_
    exact wp_pick [1, 2, 4, 0] rfl h
  replace h := h.2
  by_cases hc4 : x2 = 4
  · replace h := h.1 hc4
    refine wp_tsw d_M_predicate_86 (by decide) 268 (by rw [hc4]; decide) ?_
    refine wp_iload d_M_predicate_268 4 rfl ?_
    exact wp_iret d_M_predicate_270 rfl (by decide) h
  replace h := h.2
  replace h := h hc0 hc1 hc2 hc3 hc4
  have hsw := sw_M_predicate_86 hc0 hc1 hc2 hc3 hc4
  refine wp_tsw d_M_predicate_86 (by decide) 271 (by rcases hsw with hsw | hsw <;> first | (rw [swT_lo hsw]; decide) | (rw [swT_hi hsw]; decide) | (rw [hsw]; decide)) ?_
  refine wp_iconst d_M_predicate_271 (by decide) ?_
  exact wp_iret d_M_predicate_272 rfl (by decide) h
set_option maxRecDepth 20000 in
set_option maxHeartbeats 2000000 in
theorem t_M_predicate_159 {x1 : Int} {x3 : Int} {x7 : Int}  {w : Wo} {Q : Option AV → Wo → Prop} (h : inr32 (30 * (gI w 78 11)) ∧ (0 ≤ (gI w 78 11) ∧ (gI w 78 11) < 2) ∧ inr32 ((30 * (gI w 78 11)) + (gI w 88 (gI w 78 11).toNat)) ∧ ((((30 * (gI w 78 11)) + (gI w 88 (gI w 78 11).toNat)) ≤ x7 → Q (some (vi x3)) w) ∧ (¬ ((30 * (gI w 78 11)) + (gI w 88 (gI w 78 11).toNat)) ≤ x7 → (0 ≤ x7 ∧ x7 < 61) ∧ ((¬ (gI w 89 x7.toNat) = x1 → inr32 (x3 + 0) ∧ inr32 (x7 + 1) ∧ Wp m_M_predicate 159 [(0, vr 78), (1, vi x1), (3, vi (x3 + 0)), (7, vi (x7 + 1))] [] (0, 0) w Q) ∧ ((gI w 89 x7.toNat) = x1 → inr32 (x3 + 1) ∧ inr32 (x7 + 1) ∧ Wp m_M_predicate 159 [(0, vr 78), (1, vi x1), (3, vi (x3 + 1)), (7, vi (x7 + 1))] [] (0, 0) w Q))))) : Wp m_M_predicate 159 [(0, vr 78), (1, vi x1), (3, vi x3), (7, vi x7)] [] (0, 0) w Q := by
  refine wp_ly (fun hly => ?_)
  refine wp_iload d_M_predicate_159 3 rfl ?_
  refine wp_bipush d_M_predicate_161 (by decide) (by decide) ?_
  refine wp_aload_n d_M_predicate_163 (i := 0) rfl 0 rfl ?_
  refine wp_getI d_M_predicate_164 fl_M_308 cl_9 rfl (ly_o hly (by decide)) ?_
  obtain ⟨ho, h⟩ := h
  refine wp_imul d_M_predicate_167 ho ?_
  refine wp_aload_n d_M_predicate_168 (i := 0) rfl 0 rfl ?_
  refine wp_getP d_M_predicate_169 fl_M_38 cl_9 rfl (ly_o hly (by decide)) (ly_r (v := 88) hly (by decide +kernel)) ?_
  refine wp_aload_n d_M_predicate_172 (i := 0) rfl 0 rfl ?_
  refine wp_getI d_M_predicate_173 fl_M_308 cl_9 rfl (ly_o hly (by decide)) ?_
  obtain ⟨hi1, h⟩ := h
  refine wp_iaload d_M_predicate_176 (ly_a (n := 2) (N := 2) hly (by decide) hi1) ?_
  obtain ⟨ho, h⟩ := h
  refine wp_iadd d_M_predicate_177 ho ?_
  refine wp_icmp_ge (tgt := 206) d_M_predicate_178 (by decide) (fun hc => ?_) (fun hc => ?_)
  · replace h := h.1 hc
    refine wp_iload_n d_M_predicate_206 (i := 3) rfl 2 rfl ?_
    exact wp_iret d_M_predicate_207 rfl (by decide) h
  · replace h := h.2 hc
    refine wp_iload_n d_M_predicate_181 (i := 3) rfl 2 rfl ?_
    refine wp_aload_n d_M_predicate_182 (i := 0) rfl 0 rfl ?_
    refine wp_getP d_M_predicate_183 fl_M_41 cl_9 rfl (ly_o hly (by decide)) (ly_r (v := 89) hly (by decide +kernel)) ?_
    refine wp_iload d_M_predicate_186 3 rfl ?_
    obtain ⟨hi2, h⟩ := h
    refine wp_iaload d_M_predicate_188 (ly_a (n := 61) (N := 61) hly (by decide) hi2) ?_
    refine wp_iload_n d_M_predicate_189 (i := 1) rfl 1 rfl ?_
    refine wp_icmp_ne (tgt := 197) d_M_predicate_190 (by decide) (fun hc => ?_) (fun hc => ?_)
    · replace h := h.1 hc
      refine wp_iconst d_M_predicate_197 (by decide) ?_
      obtain ⟨ho, h⟩ := h
      refine wp_iadd d_M_predicate_198 ho ?_
      refine wp_istore_n (L' := [(3, vi (x3 + 0)), (0, vr 78), (1, vi x1), (7, vi x7)]) d_M_predicate_199 (i := 3) rfl rfl (by decide) ?_
      obtain ⟨ho, h⟩ := h
      refine wp_iinc (L' := [(7, vi (x7 + 1)), (3, vi (x3 + 0)), (0, vr 78), (1, vi x1)]) d_M_predicate_200 3 rfl rfl (by decide) ho ?_
      refine wp_goto (tgt := 159) d_M_predicate_203 (by decide) ?_
      exact wp_pick [2, 3, 1, 0] rfl h
    · replace h := h.2 hc
      refine wp_iconst d_M_predicate_193 (by decide) ?_
      refine wp_goto (tgt := 198) d_M_predicate_194 (by decide) ?_
      obtain ⟨ho, h⟩ := h
      refine wp_iadd d_M_predicate_198 ho ?_
      refine wp_istore_n (L' := [(3, vi (x3 + 1)), (0, vr 78), (1, vi x1), (7, vi x7)]) d_M_predicate_199 (i := 3) rfl rfl (by decide) ?_
      obtain ⟨ho, h⟩ := h
      refine wp_iinc (L' := [(7, vi (x7 + 1)), (3, vi (x3 + 1)), (0, vr 78), (1, vi x1)]) d_M_predicate_200 3 rfl rfl (by decide) ho ?_
      refine wp_goto (tgt := 159) d_M_predicate_203 (by decide) ?_
      exact wp_pick [2, 3, 1, 0] rfl h
set_option maxRecDepth 20000 in
set_option maxHeartbeats 2000000 in
theorem t_M_predicate_218 {x1 : Int} {x3 : Int} {x7 : Int}  {w : Wo} {Q : Option AV → Wo → Prop} (h : inr32 (200 * (gI w 78 11)) ∧ (0 ≤ (gI w 78 11) ∧ (gI w 78 11) < 2) ∧ inr32 ((200 * (gI w 78 11)) + (gI w 100 (gI w 78 11).toNat)) ∧ ((((200 * (gI w 78 11)) + (gI w 100 (gI w 78 11).toNat)) ≤ x7 → Q (some (vi x3)) w) ∧ (¬ ((200 * (gI w 78 11)) + (gI w 100 (gI w 78 11).toNat)) ≤ x7 → (0 ≤ x7 ∧ x7 < 400) ∧ ((¬ (gI w 101 x7.toNat) = x1 → inr32 (x3 + 0) ∧ inr32 (x7 + 1) ∧ Wp m_M_predicate 218 [(0, vr 78), (1, vi x1), (3, vi (x3 + 0)), (7, vi (x7 + 1))] [] (0, 0) w Q) ∧ ((gI w 101 x7.toNat) = x1 → inr32 (x3 + 1) ∧ inr32 (x7 + 1) ∧ Wp m_M_predicate 218 [(0, vr 78), (1, vi x1), (3, vi (x3 + 1)), (7, vi (x7 + 1))] [] (0, 0) w Q))))) : Wp m_M_predicate 218 [(0, vr 78), (1, vi x1), (3, vi x3), (7, vi x7)] [] (0, 0) w Q := by
  refine wp_ly (fun hly => ?_)
  refine wp_iload d_M_predicate_218 3 rfl ?_
  refine wp_sipush d_M_predicate_220 (by decide) (by decide) ?_
  refine wp_aload_n d_M_predicate_223 (i := 0) rfl 0 rfl ?_
  refine wp_getI d_M_predicate_224 fl_M_308 cl_9 rfl (ly_o hly (by decide)) ?_
  obtain ⟨ho, h⟩ := h
  refine wp_imul d_M_predicate_227 ho ?_
  refine wp_aload_n d_M_predicate_228 (i := 0) rfl 0 rfl ?_
  refine wp_getP d_M_predicate_229 fl_M_74 cl_9 rfl (ly_o hly (by decide)) (ly_r (v := 100) hly (by decide +kernel)) ?_
  refine wp_aload_n d_M_predicate_232 (i := 0) rfl 0 rfl ?_
  refine wp_getI d_M_predicate_233 fl_M_308 cl_9 rfl (ly_o hly (by decide)) ?_
  obtain ⟨hi1, h⟩ := h
  refine wp_iaload d_M_predicate_236 (ly_a (n := 2) (N := 2) hly (by decide) hi1) ?_
  obtain ⟨ho, h⟩ := h
  refine wp_iadd d_M_predicate_237 ho ?_
  refine wp_icmp_ge (tgt := 266) d_M_predicate_238 (by decide) (fun hc => ?_) (fun hc => ?_)
  · replace h := h.1 hc
    refine wp_iload_n d_M_predicate_266 (i := 3) rfl 2 rfl ?_
    exact wp_iret d_M_predicate_267 rfl (by decide) h
  · replace h := h.2 hc
    refine wp_iload_n d_M_predicate_241 (i := 3) rfl 2 rfl ?_
    refine wp_aload_n d_M_predicate_242 (i := 0) rfl 0 rfl ?_
    refine wp_getP d_M_predicate_243 fl_M_77 cl_9 rfl (ly_o hly (by decide)) (ly_r (v := 101) hly (by decide +kernel)) ?_
    refine wp_iload d_M_predicate_246 3 rfl ?_
    obtain ⟨hi2, h⟩ := h
    refine wp_iaload d_M_predicate_248 (ly_a (n := 400) (N := 400) hly (by decide) hi2) ?_
    refine wp_iload_n d_M_predicate_249 (i := 1) rfl 1 rfl ?_
    refine wp_icmp_ne (tgt := 257) d_M_predicate_250 (by decide) (fun hc => ?_) (fun hc => ?_)
    · replace h := h.1 hc
      refine wp_iconst d_M_predicate_257 (by decide) ?_
      obtain ⟨ho, h⟩ := h
      refine wp_iadd d_M_predicate_258 ho ?_
      refine wp_istore_n (L' := [(3, vi (x3 + 0)), (0, vr 78), (1, vi x1), (7, vi x7)]) d_M_predicate_259 (i := 3) rfl rfl (by decide) ?_
      obtain ⟨ho, h⟩ := h
      refine wp_iinc (L' := [(7, vi (x7 + 1)), (3, vi (x3 + 0)), (0, vr 78), (1, vi x1)]) d_M_predicate_260 3 rfl rfl (by decide) ho ?_
      refine wp_goto (tgt := 218) d_M_predicate_263 (by decide) ?_
      exact wp_pick [2, 3, 1, 0] rfl h
    · replace h := h.2 hc
      refine wp_iconst d_M_predicate_253 (by decide) ?_
      refine wp_goto (tgt := 258) d_M_predicate_254 (by decide) ?_
      obtain ⟨ho, h⟩ := h
      refine wp_iadd d_M_predicate_258 ho ?_
      refine wp_istore_n (L' := [(3, vi (x3 + 1)), (0, vr 78), (1, vi x1), (7, vi x7)]) d_M_predicate_259 (i := 3) rfl rfl (by decide) ?_
      obtain ⟨ho, h⟩ := h
      refine wp_iinc (L' := [(7, vi (x7 + 1)), (3, vi (x3 + 1)), (0, vr 78), (1, vi x1)]) d_M_predicate_260 3 rfl rfl (by decide) ho ?_
      refine wp_goto (tgt := 218) d_M_predicate_263 (by decide) ?_
      exact wp_pick [2, 3, 1, 0] rfl h
set_option maxRecDepth 20000 in
set_option maxHeartbeats 2000000 in
theorem t_M_hangs_0 {x1 : Int} {x2 : Int}  {w : Wo} {Q : Option AV → Wo → Prop} (h : (∀ w1 : Wo, w1 = uI w 78 0 0 → ((x1 < 0 → Q (some (vi 0)) w1) ∧ (¬ x1 < 0 → (0 ≤ (gI w1 78 11) ∧ (gI w1 78 11) < 2) ∧ (((gI w1 84 (gI w1 78 11).toNat) ≤ x1 → Q (some (vi 0)) w1) ∧ (¬ (gI w1 84 (gI w1 78 11).toNat) ≤ x1 → ((x2 < 0 → Q (some (vi 0)) w1) ∧ (¬ x2 < 0 → (0 ≤ (gI w1 78 11) ∧ (gI w1 78 11) < 2) ∧ (((gI w1 84 (gI w1 78 11).toNat) ≤ x2 → Q (some (vi 0)) w1) ∧ (¬ (gI w1 84 (gI w1 78 11).toNat) ≤ x2 → inr32 (16 * x1) ∧ inr32 ((16 * x1) + x2) ∧ (0 ≤ ((16 * x1) + x2) ∧ ((16 * x1) + x2) < 256) ∧ (((gI w1 111 ((16 * x1) + x2).toNat) = 0 → Q (some (vi 0)) w1) ∧ (¬ (gI w1 111 ((16 * x1) + x2).toNat) = 0 → Q (some (vi 1)) w1)))))))))))) : Wp m_M_hangs 0 [(0, vr 78), (1, vi x1), (2, vi x2)] [] (0, 0) w Q := by
  refine wp_ly (fun hly => ?_)
  refine wp_aload_n d_M_hangs_0 (i := 0) rfl 0 rfl ?_
  refine wp_iconst d_M_hangs_1 (by decide) ?_
  refine wp_putI d_M_hangs_2 fl_M_126 cl_9 ⟨rfl, rfl⟩ (ly_o hly (by decide)) (fun w1 e2 => ?_)
  replace h := h w1 e2
  refine wp_ly (fun hly => ?_)
  refine wp_iload_n d_M_hangs_5 (i := 1) rfl 1 rfl ?_
  refine wp_if_lt (tgt := 57) d_M_hangs_6 (by decide) (fun hc => ?_) (fun hc => ?_)
  · replace h := h.1 hc
    refine wp_iconst d_M_hangs_57 (by decide) ?_
    exact wp_zret d_M_hangs_58 rfl (by decide) (by decide) h
  · replace h := h.2 hc
    refine wp_iload_n d_M_hangs_9 (i := 1) rfl 1 rfl ?_
    refine wp_aload_n d_M_hangs_10 (i := 0) rfl 0 rfl ?_
    refine wp_getP d_M_hangs_11 fl_M_26 cl_9 rfl (ly_o hly (by decide)) (ly_r (v := 84) hly (by decide +kernel)) ?_
    refine wp_aload_n d_M_hangs_14 (i := 0) rfl 0 rfl ?_
    refine wp_getI d_M_hangs_15 fl_M_308 cl_9 rfl (ly_o hly (by decide)) ?_
    obtain ⟨hi3, h⟩ := h
    refine wp_iaload d_M_hangs_18 (ly_a (n := 2) (N := 2) hly (by decide) hi3) ?_
    refine wp_icmp_ge (tgt := 57) d_M_hangs_19 (by decide) (fun hc => ?_) (fun hc => ?_)
    · replace h := h.1 hc
      refine wp_iconst d_M_hangs_57 (by decide) ?_
      exact wp_zret d_M_hangs_58 rfl (by decide) (by decide) h
    · replace h := h.2 hc
      refine wp_iload_n d_M_hangs_22 (i := 2) rfl 2 rfl ?_
      refine wp_if_lt (tgt := 57) d_M_hangs_23 (by decide) (fun hc => ?_) (fun hc => ?_)
      · replace h := h.1 hc
        refine wp_iconst d_M_hangs_57 (by decide) ?_
        exact wp_zret d_M_hangs_58 rfl (by decide) (by decide) h
      · replace h := h.2 hc
        refine wp_iload_n d_M_hangs_26 (i := 2) rfl 2 rfl ?_
        refine wp_aload_n d_M_hangs_27 (i := 0) rfl 0 rfl ?_
        refine wp_getP d_M_hangs_28 fl_M_26 cl_9 rfl (ly_o hly (by decide)) (ly_r (v := 84) hly (by decide +kernel)) ?_
        refine wp_aload_n d_M_hangs_31 (i := 0) rfl 0 rfl ?_
        refine wp_getI d_M_hangs_32 fl_M_308 cl_9 rfl (ly_o hly (by decide)) ?_
        obtain ⟨hi4, h⟩ := h
        refine wp_iaload d_M_hangs_35 (ly_a (n := 2) (N := 2) hly (by decide) hi4) ?_
        refine wp_icmp_ge (tgt := 57) d_M_hangs_36 (by decide) (fun hc => ?_) (fun hc => ?_)
        · replace h := h.1 hc
          refine wp_iconst d_M_hangs_57 (by decide) ?_
          exact wp_zret d_M_hangs_58 rfl (by decide) (by decide) h
        · replace h := h.2 hc
          refine wp_aload_n d_M_hangs_39 (i := 0) rfl 0 rfl ?_
          refine wp_getP d_M_hangs_40 fl_M_108 cl_9 rfl (ly_o hly (by decide)) (ly_r (v := 111) hly (by decide +kernel)) ?_
          refine wp_bipush d_M_hangs_43 (by decide) (by decide) ?_
          refine wp_iload_n d_M_hangs_45 (i := 1) rfl 1 rfl ?_
          obtain ⟨ho, h⟩ := h
          refine wp_imul d_M_hangs_46 ho ?_
          refine wp_iload_n d_M_hangs_47 (i := 2) rfl 2 rfl ?_
          obtain ⟨ho, h⟩ := h
          refine wp_iadd d_M_hangs_48 ho ?_
          obtain ⟨hi5, h⟩ := h
          refine wp_zaload d_M_hangs_49 (ly_a (n := 256) (N := 256) hly (by decide) hi5) ?_
          refine wp_if_eq (tgt := 57) d_M_hangs_50 (by decide) (fun hc => ?_) (fun hc => ?_)
          · replace h := h.1 hc
            refine wp_iconst d_M_hangs_57 (by decide) ?_
            exact wp_zret d_M_hangs_58 rfl (by decide) (by decide) h
          · replace h := h.2 hc
            refine wp_iconst d_M_hangs_53 (by decide) ?_
            refine wp_goto (tgt := 58) d_M_hangs_54 (by decide) ?_
            exact wp_zret d_M_hangs_58 rfl (by decide) (by decide) h
set_option maxRecDepth 20000 in
set_option maxHeartbeats 2000000 in
theorem t_M_rule_0 {x1 : Int} {x2 : Int}  {w : Wo} {Q : Option AV → Wo → Prop} (h : ((x1 < 0 → MetI m_M_raise [vr 78, vi 1] w (fun z2 w1 => Q (some (vi z2)) w1)) ∧ (¬ x1 < 0 → (0 ≤ (gI w 78 11) ∧ (gI w 78 11) < 2) ∧ (((gI w 88 (gI w 78 11).toNat) ≤ x1 → MetI m_M_raise [vr 78, vi 1] w (fun z5 w4 => Q (some (vi z5)) w4)) ∧ (¬ (gI w 88 (gI w 78 11).toNat) ≤ x1 → ((x2 < 0 → MetI m_M_raise [vr 78, vi 1] w (fun z7 w6 => Q (some (vi z7)) w6)) ∧ (¬ x2 < 0 → ((x2 ≤ 4 → (∀ w8 : Wo, w8 = uI w 78 0 0 → inr32 (30 * (gI w8 78 11)) ∧ inr32 ((30 * (gI w8 78 11)) + x1) ∧ inr32 (6 * ((30 * (gI w8 78 11)) + x1)) ∧ Wp m_M_rule 56 [(0, vr 78), (2, vi x2), (3, vi ((30 * (gI w8 78 11)) + x1)), (4, vi 0), (5, vi (6 * ((30 * (gI w8 78 11)) + x1)))] [] (0, 0) w8 Q)) ∧ (¬ x2 ≤ 4 → MetI m_M_raise [vr 78, vi 1] w (fun z11 w10 => Q (some (vi z11)) w10)))))))))) : Wp m_M_rule 0 [(0, vr 78), (1, vi x1), (2, vi x2)] [] (0, 0) w Q := by
  refine wp_ly (fun hly => ?_)
  refine wp_iload_n d_M_rule_0 (i := 1) rfl 1 rfl ?_
  refine wp_if_lt (tgt := 26) d_M_rule_1 (by decide) (fun hc => ?_) (fun hc => ?_)
  · replace h := h.1 hc
    refine wp_aload_n d_M_rule_26 (i := 0) rfl 0 rfl ?_
    refine wp_iconst d_M_rule_27 (by decide) ?_
    refine wp_callV (A := [vi 1]) (S := []) d_M_rule_28 cv_M_rule_317 (ly_o hly (by decide)) rfl (Nat.le_of_ble_eq_true rfl) (by decide) (MetS.mono h (fun r w1 hh => ?_))
    obtain ⟨z2, er, h⟩ := hh
    subst er
    refine wp_ly (fun hly => ?_)
    exact wp_iret d_M_rule_31 rfl (by decide) h
  · replace h := h.2 hc
    refine wp_iload_n d_M_rule_4 (i := 1) rfl 1 rfl ?_
    refine wp_aload_n d_M_rule_5 (i := 0) rfl 0 rfl ?_
    refine wp_getP d_M_rule_6 fl_M_38 cl_9 rfl (ly_o hly (by decide)) (ly_r (v := 88) hly (by decide +kernel)) ?_
    refine wp_aload_n d_M_rule_9 (i := 0) rfl 0 rfl ?_
    refine wp_getI d_M_rule_10 fl_M_308 cl_9 rfl (ly_o hly (by decide)) ?_
    obtain ⟨hi3, h⟩ := h
    refine wp_iaload d_M_rule_13 (ly_a (n := 2) (N := 2) hly (by decide) hi3) ?_
    refine wp_icmp_ge (tgt := 26) d_M_rule_14 (by decide) (fun hc => ?_) (fun hc => ?_)
    · replace h := h.1 hc
      refine wp_aload_n d_M_rule_26 (i := 0) rfl 0 rfl ?_
      refine wp_iconst d_M_rule_27 (by decide) ?_
      refine wp_callV (A := [vi 1]) (S := []) d_M_rule_28 cv_M_rule_317 (ly_o hly (by decide)) rfl (Nat.le_of_ble_eq_true rfl) (by decide) (MetS.mono h (fun r w4 hh => ?_))
      obtain ⟨z5, er, h⟩ := hh
      subst er
      refine wp_ly (fun hly => ?_)
      exact wp_iret d_M_rule_31 rfl (by decide) h
    · replace h := h.2 hc
      refine wp_iload_n d_M_rule_17 (i := 2) rfl 2 rfl ?_
      refine wp_if_lt (tgt := 26) d_M_rule_18 (by decide) (fun hc => ?_) (fun hc => ?_)
      · replace h := h.1 hc
        refine wp_aload_n d_M_rule_26 (i := 0) rfl 0 rfl ?_
        refine wp_iconst d_M_rule_27 (by decide) ?_
        refine wp_callV (A := [vi 1]) (S := []) d_M_rule_28 cv_M_rule_317 (ly_o hly (by decide)) rfl (Nat.le_of_ble_eq_true rfl) (by decide) (MetS.mono h (fun r w6 hh => ?_))
        obtain ⟨z7, er, h⟩ := hh
        subst er
        refine wp_ly (fun hly => ?_)
        exact wp_iret d_M_rule_31 rfl (by decide) h
      · replace h := h.2 hc
        refine wp_iload_n d_M_rule_21 (i := 2) rfl 2 rfl ?_
        refine wp_iconst d_M_rule_22 (by decide) ?_
        refine wp_icmp_le (tgt := 32) d_M_rule_23 (by decide) (fun hc => ?_) (fun hc => ?_)
        · replace h := h.1 hc
          refine wp_aload_n d_M_rule_32 (i := 0) rfl 0 rfl ?_
          refine wp_iconst d_M_rule_33 (by decide) ?_
          refine wp_putI d_M_rule_34 fl_M_126 cl_9 ⟨rfl, rfl⟩ (ly_o hly (by decide)) (fun w8 e9 => ?_)
          replace h := h w8 e9
          refine wp_ly (fun hly => ?_)
          refine wp_bipush d_M_rule_37 (by decide) (by decide) ?_
          refine wp_aload_n d_M_rule_39 (i := 0) rfl 0 rfl ?_
          refine wp_getI d_M_rule_40 fl_M_308 cl_9 rfl (ly_o hly (by decide)) ?_
          obtain ⟨ho, h⟩ := h
          refine wp_imul d_M_rule_43 ho ?_
          refine wp_iload_n d_M_rule_44 (i := 1) rfl 1 rfl ?_
          obtain ⟨ho, h⟩ := h
          refine wp_iadd d_M_rule_45 ho ?_
          refine wp_istore_n (L' := [(3, vi ((30 * (gI w8 78 11)) + x1)), (0, vr 78), (1, vi x1), (2, vi x2)]) d_M_rule_46 (i := 3) rfl rfl (by decide) ?_
          refine wp_iconst d_M_rule_47 (by decide) ?_
          refine wp_istore (L' := [(4, vi 0), (3, vi ((30 * (gI w8 78 11)) + x1)), (0, vr 78), (1, vi x1), (2, vi x2)]) d_M_rule_48 rfl (by decide) ?_
          refine wp_bipush d_M_rule_50 (by decide) (by decide) ?_
          refine wp_iload_n d_M_rule_52 (i := 3) rfl 1 rfl ?_
          obtain ⟨ho, h⟩ := h
          refine wp_imul d_M_rule_53 ho ?_
          refine wp_istore (L' := [(5, vi (6 * ((30 * (gI w8 78 11)) + x1))), (4, vi 0), (3, vi ((30 * (gI w8 78 11)) + x1)), (0, vr 78), (1, vi x1), (2, vi x2)]) d_M_rule_54 rfl (by decide) ?_
          exact wp_pick [3, 5, 2, 1, 0] rfl h
        · replace h := h.2 hc
          refine wp_aload_n d_M_rule_26 (i := 0) rfl 0 rfl ?_
          refine wp_iconst d_M_rule_27 (by decide) ?_
          refine wp_callV (A := [vi 1]) (S := []) d_M_rule_28 cv_M_rule_317 (ly_o hly (by decide)) rfl (Nat.le_of_ble_eq_true rfl) (by decide) (MetS.mono h (fun r w10 hh => ?_))
          obtain ⟨z11, er, h⟩ := hh
          subst er
          refine wp_ly (fun hly => ?_)
          exact wp_iret d_M_rule_31 rfl (by decide) h
theorem sw_M_rule_119 {y : Int} (h0 : ¬ y = 0) (h1 : ¬ y = 1) (h2 : ¬ y = 2) (h3 : ¬ y = 3) : y < 0 ∨ 3 < y := by omega
set_option maxRecDepth 20000 in
set_option maxHeartbeats 2000000 in
theorem t_M_rule_56 {x2 : Int} {x3 : Int} {x4 : Int} {x5 : Int}  {w : Wo} {Q : Option AV → Wo → Prop} (h : inr32 (6 * x3) ∧ (0 ≤ x3 ∧ x3 < 61) ∧ inr32 ((6 * x3) + (gI w 94 x3.toNat)) ∧ ((((6 * x3) + (gI w 94 x3.toNat)) ≤ x5 → ((x2 = 0 → (0 ≤ x3 ∧ x3 < 61) ∧ Q (some (vi (gI w 89 x3.toNat))) w) ∧ (x2 = 1 → (0 ≤ x3 ∧ x3 < 61) ∧ Q (some (vi (gI w 94 x3.toNat))) w) ∧ (x2 = 2 → (0 ≤ x3 ∧ x3 < 61) ∧ Q (some (vi (gI w 95 x3.toNat))) w) ∧ (x2 = 3 → (0 ≤ x3 ∧ x3 < 61) ∧ (((gI w 92 x3.toNat) ≤ 0 → Q (some (vi 0)) w) ∧ (¬ (gI w 92 x3.toNat) ≤ 0 → (0 ≤ x3 ∧ x3 < 61) ∧ inr32 ((gI w 92 x3.toNat) - 1) ∧ Q (some (vi ((gI w 92 x3.toNat) - 1))) w))) ∧ (¬ x2 = 0 → ¬ x2 = 1 → ¬ x2 = 2 → ¬ x2 = 3 → Q (some (vi x4)) w))) ∧ (¬ ((6 * x3) + (gI w 94 x3.toNat)) ≤ x5 → (0 ≤ x5 ∧ x5 < 366) ∧ ((¬ (gI w 96 x5.toNat) = 0 → inr32 (x4 + 0) ∧ inr32 (x5 + 1) ∧ Wp m_M_rule 56 [(0, vr 78), (2, vi x2), (3, vi x3), (4, vi (x4 + 0)), (5, vi (x5 + 1))] [] (0, 0) w Q) ∧ ((gI w 96 x5.toNat) = 0 → (0 ≤ x3 ∧ x3 < 61) ∧ (0 ≤ x5 ∧ x5 < 366) ∧ MetI m_M_isBack [vr 78, vi (gI w 89 x3.toNat), vi (gI w 97 x5.toNat)] w (fun z11 w10 => ((z11 = 0 → inr32 (x4 + 0) ∧ inr32 (x5 + 1) ∧ Wp m_M_rule 56 [(0, vr 78), (2, vi x2), (3, vi x3), (4, vi (x4 + 0)), (5, vi (x5 + 1))] [] (0, 0) w10 Q) ∧ (¬ z11 = 0 → inr32 (x4 + 1) ∧ inr32 (x5 + 1) ∧ Wp m_M_rule 56 [(0, vr 78), (2, vi x2), (3, vi x3), (4, vi (x4 + 1)), (5, vi (x5 + 1))] [] (0, 0) w10 Q)))))))) : Wp m_M_rule 56 [(0, vr 78), (2, vi x2), (3, vi x3), (4, vi x4), (5, vi x5)] [] (0, 0) w Q := by
  refine wp_ly (fun hly => ?_)
  refine wp_iload d_M_rule_56 4 rfl ?_
  refine wp_bipush d_M_rule_58 (by decide) (by decide) ?_
  refine wp_iload_n d_M_rule_60 (i := 3) rfl 2 rfl ?_
  obtain ⟨ho, h⟩ := h
  refine wp_imul d_M_rule_61 ho ?_
  refine wp_aload_n d_M_rule_62 (i := 0) rfl 0 rfl ?_
  refine wp_getP d_M_rule_63 fl_M_56 cl_9 rfl (ly_o hly (by decide)) (ly_r (v := 94) hly (by decide +kernel)) ?_
  refine wp_iload_n d_M_rule_66 (i := 3) rfl 2 rfl ?_
  obtain ⟨hi1, h⟩ := h
  refine wp_iaload d_M_rule_67 (ly_a (n := 61) (N := 61) hly (by decide) hi1) ?_
  obtain ⟨ho, h⟩ := h
  refine wp_iadd d_M_rule_68 ho ?_
  refine wp_icmp_ge (tgt := 118) d_M_rule_69 (by decide) (fun hc => ?_) (fun hc => ?_)
  · replace h := h.1 hc
    refine wp_iload_n d_M_rule_118 (i := 2) rfl 1 rfl ?_
    by_cases hc0 : x2 = 0
    · replace h := h.1 hc0
      refine wp_tsw d_M_rule_119 (by decide) 148 (by rw [hc0]; decide) ?_
      refine wp_aload_n d_M_rule_148 (i := 0) rfl 0 rfl ?_
      refine wp_getP d_M_rule_149 fl_M_41 cl_9 rfl (ly_o hly (by decide)) (ly_r (v := 89) hly (by decide +kernel)) ?_
      refine wp_iload_n d_M_rule_152 (i := 3) rfl 2 rfl ?_
      obtain ⟨hi2, h⟩ := h
      refine wp_iaload d_M_rule_153 (ly_a (n := 61) (N := 61) hly (by decide) hi2) ?_
      exact wp_iret d_M_rule_154 rfl (by decide) h
    replace h := h.2
    by_cases hc1 : x2 = 1
    · replace h := h.1 hc1
      refine wp_tsw d_M_rule_119 (by decide) 155 (by rw [hc1]; decide) ?_
      refine wp_aload_n d_M_rule_155 (i := 0) rfl 0 rfl ?_
      refine wp_getP d_M_rule_156 fl_M_56 cl_9 rfl (ly_o hly (by decide)) (ly_r (v := 94) hly (by decide +kernel)) ?_
      refine wp_iload_n d_M_rule_159 (i := 3) rfl 2 rfl ?_
      obtain ⟨hi3, h⟩ := h
      refine wp_iaload d_M_rule_160 (ly_a (n := 61) (N := 61) hly (by decide) hi3) ?_
      exact wp_iret d_M_rule_161 rfl (by decide) h
    replace h := h.2
    by_cases hc2 : x2 = 2
    · replace h := h.1 hc2
      refine wp_tsw d_M_rule_119 (by decide) 162 (by rw [hc2]; decide) ?_
      refine wp_aload_n d_M_rule_162 (i := 0) rfl 0 rfl ?_
      refine wp_getP d_M_rule_163 fl_M_59 cl_9 rfl (ly_o hly (by decide)) (ly_r (v := 95) hly (by decide +kernel)) ?_
      refine wp_iload_n d_M_rule_166 (i := 3) rfl 2 rfl ?_
      obtain ⟨hi4, h⟩ := h
      refine wp_iaload d_M_rule_167 (ly_a (n := 61) (N := 61) hly (by decide) hi4) ?_
      exact wp_iret d_M_rule_168 rfl (by decide) h
    replace h := h.2
    by_cases hc3 : x2 = 3
    · replace h := h.1 hc3
      refine wp_tsw d_M_rule_119 (by decide) 169 (by rw [hc3]; decide) ?_
      refine wp_aload_n d_M_rule_169 (i := 0) rfl 0 rfl ?_
      refine wp_getP d_M_rule_170 fl_M_50 cl_9 rfl (ly_o hly (by decide)) (ly_r (v := 92) hly (by decide +kernel)) ?_
      refine wp_iload_n d_M_rule_173 (i := 3) rfl 2 rfl ?_
      obtain ⟨hi5, h⟩ := h
      refine wp_iaload d_M_rule_174 (ly_a (n := 61) (N := 61) hly (by decide) hi5) ?_
      refine wp_if_le (tgt := 189) d_M_rule_175 (by decide) (fun hc => ?_) (fun hc => ?_)
      · replace h := h.1 hc
        refine wp_iconst d_M_rule_189 (by decide) ?_
        exact wp_iret d_M_rule_190 rfl (by decide) h
      · replace h := h.2 hc
        refine wp_aload_n d_M_rule_178 (i := 0) rfl 0 rfl ?_
        refine wp_getP d_M_rule_179 fl_M_50 cl_9 rfl (ly_o hly (by decide)) (ly_r (v := 92) hly (by decide +kernel)) ?_
        refine wp_iload_n d_M_rule_182 (i := 3) rfl 2 rfl ?_
        obtain ⟨hi6, h⟩ := h
        refine wp_iaload d_M_rule_183 (ly_a (n := 61) (N := 61) hly (by decide) hi6) ?_
        refine wp_iconst d_M_rule_184 (by decide) ?_
        obtain ⟨ho, h⟩ := h
        refine wp_isub d_M_rule_185 ho ?_
        refine wp_goto (tgt := 190) d_M_rule_186 (by decide) ?_
        exact wp_iret d_M_rule_190 rfl (by decide) h
    replace h := h.2
    replace h := h hc0 hc1 hc2 hc3
    have hsw := sw_M_rule_119 hc0 hc1 hc2 hc3
    refine wp_tsw d_M_rule_119 (by decide) 191 (by rcases hsw with hsw | hsw <;> first | (rw [swT_lo hsw]; decide) | (rw [swT_hi hsw]; decide) | (rw [hsw]; decide)) ?_
    refine wp_iload d_M_rule_191 3 rfl ?_
    exact wp_iret d_M_rule_193 rfl (by decide) h
  · replace h := h.2 hc
    refine wp_iload d_M_rule_72 3 rfl ?_
    refine wp_aload_n d_M_rule_74 (i := 0) rfl 0 rfl ?_
    refine wp_getP d_M_rule_75 fl_M_62 cl_9 rfl (ly_o hly (by decide)) (ly_r (v := 96) hly (by decide +kernel)) ?_
    refine wp_iload d_M_rule_78 4 rfl ?_
    obtain ⟨hi7, h⟩ := h
    refine wp_iaload d_M_rule_80 (ly_a (n := 366) (N := 366) hly (by decide) hi7) ?_
    refine wp_if_ne (tgt := 108) d_M_rule_81 (by decide) (fun hc => ?_) (fun hc => ?_)
    · replace h := h.1 hc
      refine wp_iconst d_M_rule_108 (by decide) ?_
      obtain ⟨ho, h⟩ := h
      refine wp_iadd d_M_rule_109 ho ?_
      refine wp_istore (L' := [(4, vi (x4 + 0)), (0, vr 78), (2, vi x2), (3, vi x3), (5, vi x5)]) d_M_rule_110 rfl (by decide) ?_
      obtain ⟨ho, h⟩ := h
      refine wp_iinc (L' := [(5, vi (x5 + 1)), (4, vi (x4 + 0)), (0, vr 78), (2, vi x2), (3, vi x3)]) d_M_rule_112 4 rfl rfl (by decide) ho ?_
      refine wp_goto (tgt := 56) d_M_rule_115 (by decide) ?_
      exact wp_pick [2, 3, 4, 1, 0] rfl h
    · replace h := h.2 hc
      refine wp_aload_n d_M_rule_84 (i := 0) rfl 0 rfl ?_
      refine wp_aload_n d_M_rule_85 (i := 0) rfl 0 rfl ?_
      refine wp_getP d_M_rule_86 fl_M_41 cl_9 rfl (ly_o hly (by decide)) (ly_r (v := 89) hly (by decide +kernel)) ?_
      refine wp_iload_n d_M_rule_89 (i := 3) rfl 2 rfl ?_
      obtain ⟨hi8, h⟩ := h
      refine wp_iaload d_M_rule_90 (ly_a (n := 61) (N := 61) hly (by decide) hi8) ?_
      refine wp_aload_n d_M_rule_91 (i := 0) rfl 0 rfl ?_
      refine wp_getP d_M_rule_92 fl_M_65 cl_9 rfl (ly_o hly (by decide)) (ly_r (v := 97) hly (by decide +kernel)) ?_
      refine wp_iload d_M_rule_95 4 rfl ?_
      obtain ⟨hi9, h⟩ := h
      refine wp_iaload d_M_rule_97 (ly_a (n := 366) (N := 366) hly (by decide) hi9) ?_
      refine wp_callV (A := [vi (gI w 89 x3.toNat), vi (gI w 97 x5.toNat)]) (S := [vi x4]) d_M_rule_98 cv_M_rule_302 (ly_o hly (by decide)) rfl (Nat.le_of_ble_eq_true rfl) (by decide) (MetS.mono h (fun r w10 hh => ?_))
      obtain ⟨z11, er, h⟩ := hh
      subst er
      refine wp_ly (fun hly => ?_)
      refine wp_if_eq (tgt := 108) d_M_rule_101 (by decide) (fun hc => ?_) (fun hc => ?_)
      · replace h := h.1 hc
        refine wp_iconst d_M_rule_108 (by decide) ?_
        obtain ⟨ho, h⟩ := h
        refine wp_iadd d_M_rule_109 ho ?_
        refine wp_istore (L' := [(4, vi (x4 + 0)), (0, vr 78), (2, vi x2), (3, vi x3), (5, vi x5)]) d_M_rule_110 rfl (by decide) ?_
        obtain ⟨ho, h⟩ := h
        refine wp_iinc (L' := [(5, vi (x5 + 1)), (4, vi (x4 + 0)), (0, vr 78), (2, vi x2), (3, vi x3)]) d_M_rule_112 4 rfl rfl (by decide) ho ?_
        refine wp_goto (tgt := 56) d_M_rule_115 (by decide) ?_
        exact wp_pick [2, 3, 4, 1, 0] rfl h
      · replace h := h.2 hc
        refine wp_iconst d_M_rule_104 (by decide) ?_
        refine wp_goto (tgt := 109) d_M_rule_105 (by decide) ?_
        obtain ⟨ho, h⟩ := h
        refine wp_iadd d_M_rule_109 ho ?_
        refine wp_istore (L' := [(4, vi (x4 + 1)), (0, vr 78), (2, vi x2), (3, vi x3), (5, vi x5)]) d_M_rule_110 rfl (by decide) ?_
        obtain ⟨ho, h⟩ := h
        refine wp_iinc (L' := [(5, vi (x5 + 1)), (4, vi (x4 + 1)), (0, vr 78), (2, vi x2), (3, vi x3)]) d_M_rule_112 4 rfl rfl (by decide) ho ?_
        refine wp_goto (tgt := 56) d_M_rule_115 (by decide) ?_
        exact wp_pick [2, 3, 4, 1, 0] rfl h
theorem sw_M_literal_94 {y : Int} (h0 : ¬ y = 0) (h1 : ¬ y = 1) (h2 : ¬ y = 2) (h3 : ¬ y = 3) : y < 0 ∨ 3 < y := by omega
set_option maxRecDepth 20000 in
set_option maxHeartbeats 2000000 in
theorem t_M_literal_0 {x1 : Int} {x2 : Int} {x3 : Int}  {w : Wo} {Q : Option AV → Wo → Prop} (h : ((x1 < 0 → MetI m_M_raise [vr 78, vi 1] w (fun z2 w1 => Q (some (vi z2)) w1)) ∧ (¬ x1 < 0 → (0 ≤ (gI w 78 11) ∧ (gI w 78 11) < 2) ∧ (((gI w 88 (gI w 78 11).toNat) ≤ x1 → MetI m_M_raise [vr 78, vi 1] w (fun z5 w4 => Q (some (vi z5)) w4)) ∧ (¬ (gI w 88 (gI w 78 11).toNat) ≤ x1 → ((x2 < 0 → MetI m_M_raise [vr 78, vi 1] w (fun z7 w6 => Q (some (vi z7)) w6)) ∧ (¬ x2 < 0 → inr32 (30 * (gI w 78 11)) ∧ inr32 ((30 * (gI w 78 11)) + x1) ∧ (0 ≤ ((30 * (gI w 78 11)) + x1) ∧ ((30 * (gI w 78 11)) + x1) < 61) ∧ (((gI w 94 ((30 * (gI w 78 11)) + x1).toNat) ≤ x2 → MetI m_M_raise [vr 78, vi 1] w (fun z10 w9 => Q (some (vi z10)) w9)) ∧ (¬ (gI w 94 ((30 * (gI w 78 11)) + x1).toNat) ≤ x2 → ((x3 < 0 → MetI m_M_raise [vr 78, vi 1] w (fun z12 w11 => Q (some (vi z12)) w11)) ∧ (¬ x3 < 0 → ((x3 ≤ 4 → (∀ w13 : Wo, w13 = uI w 78 0 0 → inr32 (30 * (gI w13 78 11)) ∧ inr32 ((30 * (gI w13 78 11)) + x1) ∧ MetV m_M_plan [vr 78, vi ((30 * (gI w13 78 11)) + x1)] w13 (fun w15 => inr32 (30 * (gI w15 78 11)) ∧ inr32 ((30 * (gI w15 78 11)) + x1) ∧ inr32 (6 * ((30 * (gI w15 78 11)) + x1)) ∧ (0 ≤ x2 ∧ x2 < 6) ∧ inr32 ((6 * ((30 * (gI w15 78 11)) + x1)) + (gI w15 112 x2.toNat)) ∧ ((x3 = 0 → (0 ≤ x2 ∧ x2 < 6) ∧ Q (some (vi (gI w15 112 x2.toNat))) w15) ∧ (x3 = 1 → (0 ≤ ((6 * ((30 * (gI w15 78 11)) + x1)) + (gI w15 112 x2.toNat)) ∧ ((6 * ((30 * (gI w15 78 11)) + x1)) + (gI w15 112 x2.toNat)) < 366) ∧ Q (some (vi (gI w15 96 ((6 * ((30 * (gI w15 78 11)) + x1)) + (gI w15 112 x2.toNat)).toNat))) w15) ∧ (x3 = 2 → MetI m_M_isAtom [vr 78, vi ((6 * ((30 * (gI w15 78 11)) + x1)) + (gI w15 112 x2.toNat))] w15 (fun z20 w19 => ((z20 = 0 → Q (some (vi (-1))) w19) ∧ (¬ z20 = 0 → (0 ≤ ((6 * ((30 * (gI w15 78 11)) + x1)) + (gI w15 112 x2.toNat)) ∧ ((6 * ((30 * (gI w15 78 11)) + x1)) + (gI w15 112 x2.toNat)) < 366) ∧ Q (some (vi (gI w19 97 ((6 * ((30 * (gI w15 78 11)) + x1)) + (gI w15 112 x2.toNat)).toNat))) w19)))) ∧ (x3 = 3 → (0 ≤ x2 ∧ x2 < 6) ∧ Q (some (vi (gI w15 113 x2.toNat))) w15) ∧ (¬ x3 = 0 → ¬ x3 = 1 → ¬ x3 = 2 → ¬ x3 = 3 → (0 ≤ x2 ∧ x2 < 6) ∧ Q (some (vi (gI w15 114 x2.toNat))) w15))))) ∧ (¬ x3 ≤ 4 → MetI m_M_raise [vr 78, vi 1] w (fun z25 w24 => Q (some (vi z25)) w24)))))))))))))) : Wp m_M_literal 0 [(0, vr 78), (1, vi x1), (2, vi x2), (3, vi x3)] [] (0, 0) w Q := by
  refine wp_ly (fun hly => ?_)
  refine wp_iload_n d_M_literal_0 (i := 1) rfl 1 rfl ?_
  refine wp_if_lt (tgt := 48) d_M_literal_1 (by decide) (fun hc => ?_) (fun hc => ?_)
  · replace h := h.1 hc
    refine wp_aload_n d_M_literal_48 (i := 0) rfl 0 rfl ?_
    refine wp_iconst d_M_literal_49 (by decide) ?_
    refine wp_callV (A := [vi 1]) (S := []) d_M_literal_50 cv_M_literal_317 (ly_o hly (by decide)) rfl (Nat.le_of_ble_eq_true rfl) (by decide) (MetS.mono h (fun r w1 hh => ?_))
    obtain ⟨z2, er, h⟩ := hh
    subst er
    refine wp_ly (fun hly => ?_)
    exact wp_iret d_M_literal_53 rfl (by decide) h
  · replace h := h.2 hc
    refine wp_iload_n d_M_literal_4 (i := 1) rfl 1 rfl ?_
    refine wp_aload_n d_M_literal_5 (i := 0) rfl 0 rfl ?_
    refine wp_getP d_M_literal_6 fl_M_38 cl_9 rfl (ly_o hly (by decide)) (ly_r (v := 88) hly (by decide +kernel)) ?_
    refine wp_aload_n d_M_literal_9 (i := 0) rfl 0 rfl ?_
    refine wp_getI d_M_literal_10 fl_M_308 cl_9 rfl (ly_o hly (by decide)) ?_
    obtain ⟨hi3, h⟩ := h
    refine wp_iaload d_M_literal_13 (ly_a (n := 2) (N := 2) hly (by decide) hi3) ?_
    refine wp_icmp_ge (tgt := 48) d_M_literal_14 (by decide) (fun hc => ?_) (fun hc => ?_)
    · replace h := h.1 hc
      refine wp_aload_n d_M_literal_48 (i := 0) rfl 0 rfl ?_
      refine wp_iconst d_M_literal_49 (by decide) ?_
      refine wp_callV (A := [vi 1]) (S := []) d_M_literal_50 cv_M_literal_317 (ly_o hly (by decide)) rfl (Nat.le_of_ble_eq_true rfl) (by decide) (MetS.mono h (fun r w4 hh => ?_))
      obtain ⟨z5, er, h⟩ := hh
      subst er
      refine wp_ly (fun hly => ?_)
      exact wp_iret d_M_literal_53 rfl (by decide) h
    · replace h := h.2 hc
      refine wp_iload_n d_M_literal_17 (i := 2) rfl 2 rfl ?_
      refine wp_if_lt (tgt := 48) d_M_literal_18 (by decide) (fun hc => ?_) (fun hc => ?_)
      · replace h := h.1 hc
        refine wp_aload_n d_M_literal_48 (i := 0) rfl 0 rfl ?_
        refine wp_iconst d_M_literal_49 (by decide) ?_
        refine wp_callV (A := [vi 1]) (S := []) d_M_literal_50 cv_M_literal_317 (ly_o hly (by decide)) rfl (Nat.le_of_ble_eq_true rfl) (by decide) (MetS.mono h (fun r w6 hh => ?_))
        obtain ⟨z7, er, h⟩ := hh
        subst er
        refine wp_ly (fun hly => ?_)
        exact wp_iret d_M_literal_53 rfl (by decide) h
      · replace h := h.2 hc
        refine wp_iload_n d_M_literal_21 (i := 2) rfl 2 rfl ?_
        refine wp_aload_n d_M_literal_22 (i := 0) rfl 0 rfl ?_
        refine wp_getP d_M_literal_23 fl_M_56 cl_9 rfl (ly_o hly (by decide)) (ly_r (v := 94) hly (by decide +kernel)) ?_
        refine wp_bipush d_M_literal_26 (by decide) (by decide) ?_
        refine wp_aload_n d_M_literal_28 (i := 0) rfl 0 rfl ?_
        refine wp_getI d_M_literal_29 fl_M_308 cl_9 rfl (ly_o hly (by decide)) ?_
        obtain ⟨ho, h⟩ := h
        refine wp_imul d_M_literal_32 ho ?_
        refine wp_iload_n d_M_literal_33 (i := 1) rfl 1 rfl ?_
        obtain ⟨ho, h⟩ := h
        refine wp_iadd d_M_literal_34 ho ?_
        obtain ⟨hi8, h⟩ := h
        refine wp_iaload d_M_literal_35 (ly_a (n := 61) (N := 61) hly (by decide) hi8) ?_
        refine wp_icmp_ge (tgt := 48) d_M_literal_36 (by decide) (fun hc => ?_) (fun hc => ?_)
        · replace h := h.1 hc
          refine wp_aload_n d_M_literal_48 (i := 0) rfl 0 rfl ?_
          refine wp_iconst d_M_literal_49 (by decide) ?_
          refine wp_callV (A := [vi 1]) (S := []) d_M_literal_50 cv_M_literal_317 (ly_o hly (by decide)) rfl (Nat.le_of_ble_eq_true rfl) (by decide) (MetS.mono h (fun r w9 hh => ?_))
          obtain ⟨z10, er, h⟩ := hh
          subst er
          refine wp_ly (fun hly => ?_)
          exact wp_iret d_M_literal_53 rfl (by decide) h
        · replace h := h.2 hc
          refine wp_iload_n d_M_literal_39 (i := 3) rfl 3 rfl ?_
          refine wp_if_lt (tgt := 48) d_M_literal_40 (by decide) (fun hc => ?_) (fun hc => ?_)
          · replace h := h.1 hc
            refine wp_aload_n d_M_literal_48 (i := 0) rfl 0 rfl ?_
            refine wp_iconst d_M_literal_49 (by decide) ?_
            refine wp_callV (A := [vi 1]) (S := []) d_M_literal_50 cv_M_literal_317 (ly_o hly (by decide)) rfl (Nat.le_of_ble_eq_true rfl) (by decide) (MetS.mono h (fun r w11 hh => ?_))
            obtain ⟨z12, er, h⟩ := hh
            subst er
            refine wp_ly (fun hly => ?_)
            exact wp_iret d_M_literal_53 rfl (by decide) h
          · replace h := h.2 hc
            refine wp_iload_n d_M_literal_43 (i := 3) rfl 3 rfl ?_
            refine wp_iconst d_M_literal_44 (by decide) ?_
            refine wp_icmp_le (tgt := 54) d_M_literal_45 (by decide) (fun hc => ?_) (fun hc => ?_)
            · replace h := h.1 hc
              refine wp_aload_n d_M_literal_54 (i := 0) rfl 0 rfl ?_
              refine wp_iconst d_M_literal_55 (by decide) ?_
              refine wp_putI d_M_literal_56 fl_M_126 cl_9 ⟨rfl, rfl⟩ (ly_o hly (by decide)) (fun w13 e14 => ?_)
              replace h := h w13 e14
              refine wp_ly (fun hly => ?_)
              refine wp_aload_n d_M_literal_59 (i := 0) rfl 0 rfl ?_
              refine wp_bipush d_M_literal_60 (by decide) (by decide) ?_
              refine wp_aload_n d_M_literal_62 (i := 0) rfl 0 rfl ?_
              refine wp_getI d_M_literal_63 fl_M_308 cl_9 rfl (ly_o hly (by decide)) ?_
              obtain ⟨ho, h⟩ := h
              refine wp_imul d_M_literal_66 ho ?_
              refine wp_iload_n d_M_literal_67 (i := 1) rfl 1 rfl ?_
              obtain ⟨ho, h⟩ := h
              refine wp_iadd d_M_literal_68 ho ?_
              refine wp_callV (A := [vi ((30 * (gI w13 78 11)) + x1)]) (S := []) d_M_literal_69 cv_M_literal_341 (ly_o hly (by decide)) rfl (Nat.le_of_ble_eq_true rfl) (by decide) (MetS.mono h (fun r w15 hh => ?_))
              obtain ⟨er, h⟩ := hh
              subst er
              refine wp_ly (fun hly => ?_)
              refine wp_bipush d_M_literal_72 (by decide) (by decide) ?_
              refine wp_bipush d_M_literal_74 (by decide) (by decide) ?_
              refine wp_aload_n d_M_literal_76 (i := 0) rfl 0 rfl ?_
              refine wp_getI d_M_literal_77 fl_M_308 cl_9 rfl (ly_o hly (by decide)) ?_
              obtain ⟨ho, h⟩ := h
              refine wp_imul d_M_literal_80 ho ?_
              refine wp_iload_n d_M_literal_81 (i := 1) rfl 1 rfl ?_
              obtain ⟨ho, h⟩ := h
              refine wp_iadd d_M_literal_82 ho ?_
              obtain ⟨ho, h⟩ := h
              refine wp_imul d_M_literal_83 ho ?_
              refine wp_aload_n d_M_literal_84 (i := 0) rfl 0 rfl ?_
              refine wp_getP d_M_literal_85 fl_M_111 cl_9 rfl (ly_o hly (by decide)) (ly_r (v := 112) hly (by decide +kernel)) ?_
              refine wp_iload_n d_M_literal_88 (i := 2) rfl 2 rfl ?_
              obtain ⟨hi16, h⟩ := h
              refine wp_iaload d_M_literal_89 (ly_a (n := 6) (N := 6) hly (by decide) hi16) ?_
              obtain ⟨ho, h⟩ := h
              refine wp_iadd d_M_literal_90 ho ?_
              refine wp_istore (L' := [(4, vi ((6 * ((30 * (gI w15 78 11)) + x1)) + (gI w15 112 x2.toNat))), (0, vr 78), (1, vi x1), (2, vi x2), (3, vi x3)]) d_M_literal_91 rfl (by decide) ?_
              refine wp_iload_n d_M_literal_93 (i := 3) rfl 4 rfl ?_
              by_cases hc0 : x3 = 0
              · replace h := h.1 hc0
                refine wp_tsw d_M_literal_94 (by decide) 124 (by rw [hc0]; decide) ?_
                refine wp_aload_n d_M_literal_124 (i := 0) rfl 1 rfl ?_
                refine wp_getP d_M_literal_125 fl_M_111 cl_9 rfl (ly_o hly (by decide)) (ly_r (v := 112) hly (by decide +kernel)) ?_
                refine wp_iload_n d_M_literal_128 (i := 2) rfl 3 rfl ?_
                obtain ⟨hi17, h⟩ := h
                refine wp_iaload d_M_literal_129 (ly_a (n := 6) (N := 6) hly (by decide) hi17) ?_
                exact wp_iret d_M_literal_130 rfl (by decide) h
              replace h := h.2
              by_cases hc1 : x3 = 1
              · replace h := h.1 hc1
                refine wp_tsw d_M_literal_94 (by decide) 131 (by rw [hc1]; decide) ?_
                refine wp_aload_n d_M_literal_131 (i := 0) rfl 1 rfl ?_
                refine wp_getP d_M_literal_132 fl_M_62 cl_9 rfl (ly_o hly (by decide)) (ly_r (v := 96) hly (by decide +kernel)) ?_
                refine wp_iload d_M_literal_135 0 rfl ?_
                obtain ⟨hi18, h⟩ := h
                refine wp_iaload d_M_literal_137 (ly_a (n := 366) (N := 366) hly (by decide) hi18) ?_
                exact wp_iret d_M_literal_138 rfl (by decide) h
              replace h := h.2
              by_cases hc2 : x3 = 2
              · replace h := h.1 hc2
                refine wp_tsw d_M_literal_94 (by decide) 139 (by rw [hc2]; decide) ?_
                refine wp_aload_n d_M_literal_139 (i := 0) rfl 1 rfl ?_
                refine wp_iload d_M_literal_140 0 rfl ?_
                refine wp_callV (A := [vi ((6 * ((30 * (gI w15 78 11)) + x1)) + (gI w15 112 x2.toNat))]) (S := []) d_M_literal_142 cv_M_literal_296 (ly_o hly (by decide)) rfl (Nat.le_of_ble_eq_true rfl) (by decide) (MetS.mono h (fun r w19 hh => ?_))
                obtain ⟨z20, er, h⟩ := hh
                subst er
                refine wp_ly (fun hly => ?_)
                refine wp_if_eq (tgt := 158) d_M_literal_145 (by decide) (fun hc => ?_) (fun hc => ?_)
                · replace h := h.1 hc
                  refine wp_iconst d_M_literal_158 (by decide) ?_
                  exact wp_iret d_M_literal_159 rfl (by decide) h
                · replace h := h.2 hc
                  refine wp_aload_n d_M_literal_148 (i := 0) rfl 1 rfl ?_
                  refine wp_getP d_M_literal_149 fl_M_65 cl_9 rfl (ly_o hly (by decide)) (ly_r (v := 97) hly (by decide +kernel)) ?_
                  refine wp_iload d_M_literal_152 0 rfl ?_
                  obtain ⟨hi21, h⟩ := h
                  refine wp_iaload d_M_literal_154 (ly_a (n := 366) (N := 366) hly (by decide) hi21) ?_
                  refine wp_goto (tgt := 159) d_M_literal_155 (by decide) ?_
                  exact wp_iret d_M_literal_159 rfl (by decide) h
              replace h := h.2
              by_cases hc3 : x3 = 3
              · replace h := h.1 hc3
                refine wp_tsw d_M_literal_94 (by decide) 160 (by rw [hc3]; decide) ?_
                refine wp_aload_n d_M_literal_160 (i := 0) rfl 1 rfl ?_
                refine wp_getP d_M_literal_161 fl_M_114 cl_9 rfl (ly_o hly (by decide)) (ly_r (v := 113) hly (by decide +kernel)) ?_
                refine wp_iload_n d_M_literal_164 (i := 2) rfl 3 rfl ?_
                obtain ⟨hi22, h⟩ := h
                refine wp_iaload d_M_literal_165 (ly_a (n := 6) (N := 6) hly (by decide) hi22) ?_
                exact wp_iret d_M_literal_166 rfl (by decide) h
              replace h := h.2
              replace h := h hc0 hc1 hc2 hc3
              have hsw := sw_M_literal_94 hc0 hc1 hc2 hc3
              refine wp_tsw d_M_literal_94 (by decide) 167 (by rcases hsw with hsw | hsw <;> first | (rw [swT_lo hsw]; decide) | (rw [swT_hi hsw]; decide) | (rw [hsw]; decide)) ?_
              refine wp_aload_n d_M_literal_167 (i := 0) rfl 1 rfl ?_
              refine wp_getP d_M_literal_168 fl_M_117 cl_9 rfl (ly_o hly (by decide)) (ly_r (v := 114) hly (by decide +kernel)) ?_
              refine wp_iload_n d_M_literal_171 (i := 2) rfl 3 rfl ?_
              obtain ⟨hi23, h⟩ := h
              refine wp_iaload d_M_literal_172 (ly_a (n := 6) (N := 6) hly (by decide) hi23) ?_
              exact wp_iret d_M_literal_173 rfl (by decide) h
            · replace h := h.2 hc
              refine wp_aload_n d_M_literal_48 (i := 0) rfl 0 rfl ?_
              refine wp_iconst d_M_literal_49 (by decide) ?_
              refine wp_callV (A := [vi 1]) (S := []) d_M_literal_50 cv_M_literal_317 (ly_o hly (by decide)) rfl (Nat.le_of_ble_eq_true rfl) (by decide) (MetS.mono h (fun r w24 hh => ?_))
              obtain ⟨z25, er, h⟩ := hh
              subst er
              refine wp_ly (fun hly => ?_)
              exact wp_iret d_M_literal_53 rfl (by decide) h

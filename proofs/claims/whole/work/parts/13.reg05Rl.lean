set_option maxRecDepth 20000 in
set_option maxHeartbeats 2000000 in
theorem t_Rl_add_0 {r0 : Nat} (hr0 : isRl r0) {w : Wo} {Q : Option AV → Wo → Prop} (h : (((gI w r0 0) < 30 → (0 ≤ (gI w r0 0) ∧ (gI w r0 0) < 30) ∧ (∀ w2 : Wo, w2 = uI w (r0 + 1) (gI w r0 0).toNat (gI w 10 2) → (0 ≤ (gI w2 r0 0) ∧ (gI w2 r0 0) < 30) ∧ (∀ w5 : Wo, w5 = uI w2 (r0 + 2) (gI w2 r0 0).toNat (gI w2 9 2) → (0 ≤ (gI w5 r0 0) ∧ (gI w5 r0 0) < 30) ∧ (∀ w8 : Wo, w8 = uI w5 (r0 + 3) (gI w5 r0 0).toNat (gI w5 9 6) → (0 ≤ (gI w8 r0 0) ∧ (gI w8 r0 0) < 30) ∧ (∀ w11 : Wo, w11 = uI w8 (r0 + 4) (gI w8 r0 0).toNat (gI w8 9 4) → (0 ≤ (gI w11 r0 0) ∧ (gI w11 r0 0) < 30) ∧ (∀ w14 : Wo, w14 = uI w11 (r0 + 5) (gI w11 r0 0).toNat (gI w11 9 5) → Wp m_Rl_add 80 [(0, vr r0), (1, vr 9), (2, vi 0)] [] (0, 0) w14 Q)))))) ∧ (¬ (gI w r0 0) < 30 → Q none w))) : Wp m_Rl_add 0 [(0, vr r0), (1, vr 9)] [] (0, 0) w Q := by
  refine wp_ly (fun hly => ?_)
  refine wp_aload_n d_Rl_add_0 (i := 0) rfl 0 rfl ?_
  refine wp_getI d_Rl_add_1 fl_Rl_45 cl_5 rfl (ly_o hly (rl_o hr0)) ?_
  refine wp_bipush d_Rl_add_4 (by decide) (by decide) ?_
  refine wp_icmp_lt (tgt := 10) d_Rl_add_6 (by decide) (fun hc => ?_) (fun hc => ?_)
  · replace h := h.1 hc
    refine wp_aload_n d_Rl_add_10 (i := 0) rfl 0 rfl ?_
    refine wp_getP d_Rl_add_11 fl_Rl_9 cl_5 rfl (ly_o hly (rl_o hr0)) (rl_r1 hly hr0) ?_
    refine wp_aload_n d_Rl_add_14 (i := 0) rfl 0 rfl ?_
    refine wp_getI d_Rl_add_15 fl_Rl_45 cl_5 rfl (ly_o hly (rl_o hr0)) ?_
    refine wp_aload_n d_Rl_add_18 (i := 1) rfl 1 rfl ?_
    refine wp_getP d_Rl_add_19 fl_Rl_49 cl_1 rfl (ly_o hly (by decide)) (ly_r (v := 10) hly (by decide +kernel)) ?_
    refine wp_getI d_Rl_add_22 fl_Rl_55 cl_3 rfl (ly_o hly (by decide)) ?_
    obtain ⟨hi1, h⟩ := h
    refine wp_iastore d_Rl_add_25 (ly_a (n := 30) (N := 30) hly (rl_a1 hr0) hi1) (fun w2 e3 => ?_)
    replace h := h w2 e3
    refine wp_ly (fun hly => ?_)
    refine wp_aload_n d_Rl_add_26 (i := 0) rfl 0 rfl ?_
    refine wp_getP d_Rl_add_27 fl_Rl_15 cl_5 rfl (ly_o hly (rl_o hr0)) (rl_r2 hly hr0) ?_
    refine wp_aload_n d_Rl_add_30 (i := 0) rfl 0 rfl ?_
    refine wp_getI d_Rl_add_31 fl_Rl_45 cl_5 rfl (ly_o hly (rl_o hr0)) ?_
    refine wp_aload_n d_Rl_add_34 (i := 1) rfl 1 rfl ?_
    refine wp_getI d_Rl_add_35 fl_Rl_59 cl_1 rfl (ly_o hly (by decide)) ?_
    obtain ⟨hi4, h⟩ := h
    refine wp_iastore d_Rl_add_38 (ly_a (n := 30) (N := 30) hly (rl_a2 hr0) hi4) (fun w5 e6 => ?_)
    replace h := h w5 e6
    refine wp_ly (fun hly => ?_)
    refine wp_aload_n d_Rl_add_39 (i := 0) rfl 0 rfl ?_
    refine wp_getP d_Rl_add_40 fl_Rl_18 cl_5 rfl (ly_o hly (rl_o hr0)) (rl_r3 hly hr0) ?_
    refine wp_aload_n d_Rl_add_43 (i := 0) rfl 0 rfl ?_
    refine wp_getI d_Rl_add_44 fl_Rl_45 cl_5 rfl (ly_o hly (rl_o hr0)) ?_
    refine wp_aload_n d_Rl_add_47 (i := 1) rfl 1 rfl ?_
    refine wp_getI d_Rl_add_48 fl_Rl_62 cl_1 rfl (ly_o hly (by decide)) ?_
    obtain ⟨hi7, h⟩ := h
    refine wp_iastore d_Rl_add_51 (ly_a (n := 30) (N := 30) hly (rl_a3 hr0) hi7) (fun w8 e9 => ?_)
    replace h := h w8 e9
    refine wp_ly (fun hly => ?_)
    refine wp_aload_n d_Rl_add_52 (i := 0) rfl 0 rfl ?_
    refine wp_getP d_Rl_add_53 fl_Rl_21 cl_5 rfl (ly_o hly (rl_o hr0)) (rl_r4 hly hr0) ?_
    refine wp_aload_n d_Rl_add_56 (i := 0) rfl 0 rfl ?_
    refine wp_getI d_Rl_add_57 fl_Rl_45 cl_5 rfl (ly_o hly (rl_o hr0)) ?_
    refine wp_aload_n d_Rl_add_60 (i := 1) rfl 1 rfl ?_
    refine wp_getI d_Rl_add_61 fl_Rl_64 cl_1 rfl (ly_o hly (by decide)) ?_
    obtain ⟨hi10, h⟩ := h
    refine wp_iastore d_Rl_add_64 (ly_a (n := 30) (N := 30) hly (rl_a4 hr0) hi10) (fun w11 e12 => ?_)
    replace h := h w11 e12
    refine wp_ly (fun hly => ?_)
    refine wp_aload_n d_Rl_add_65 (i := 0) rfl 0 rfl ?_
    refine wp_getP d_Rl_add_66 fl_Rl_24 cl_5 rfl (ly_o hly (rl_o hr0)) (rl_r5 hly hr0) ?_
    refine wp_aload_n d_Rl_add_69 (i := 0) rfl 0 rfl ?_
    refine wp_getI d_Rl_add_70 fl_Rl_45 cl_5 rfl (ly_o hly (rl_o hr0)) ?_
    refine wp_aload_n d_Rl_add_73 (i := 1) rfl 1 rfl ?_
    refine wp_getI d_Rl_add_74 fl_Rl_67 cl_1 rfl (ly_o hly (by decide)) ?_
    obtain ⟨hi13, h⟩ := h
    refine wp_iastore d_Rl_add_77 (ly_a (n := 30) (N := 30) hly (rl_a5 hr0) hi13) (fun w14 e15 => ?_)
    replace h := h w14 e15
    refine wp_ly (fun hly => ?_)
    refine wp_iconst d_Rl_add_78 (by decide) ?_
    refine wp_istore_n (L' := [(2, vi 0), (0, vr r0), (1, vr 9)]) d_Rl_add_79 (i := 2) rfl rfl (by decide) ?_
    exact wp_pick [1, 2, 0] rfl h
  · replace h := h.2 hc
    exact wp_vret d_Rl_add_9 rfl (by decide) h
set_option maxRecDepth 20000 in
set_option maxHeartbeats 2000000 in
theorem t_Rl_add_80 {r0 : Nat} {x2 : Int} (hr0 : isRl r0) {w : Wo} {Q : Option AV → Wo → Prop} (h : (((gI w 9 2) ≤ x2 → inr32 ((gI w r0 0) + 1) ∧ (∀ w1 : Wo, w1 = uI w r0 0 ((gI w r0 0) + 1) → Q none w1)) ∧ (¬ (gI w 9 2) ≤ x2 → inr32 ((gI w r0 0) * 6) ∧ inr32 (((gI w r0 0) * 6) + x2) ∧ (0 ≤ x2 ∧ x2 < 6) ∧ (0 ≤ (((gI w r0 0) * 6) + x2) ∧ (((gI w r0 0) * 6) + x2) < 180) ∧ (∀ w6 : Wo, w6 = uI w (r0 + 6) (((gI w r0 0) * 6) + x2).toNat (gI w (19 + 3 * x2.toNat) 0) → (0 ≤ x2 ∧ x2 < 6) ∧ (0 ≤ (((gI w r0 0) * 6) + x2) ∧ (((gI w r0 0) * 6) + x2) < 180) ∧ (∀ w11 : Wo, w11 = uI w6 (r0 + 7) (((gI w r0 0) * 6) + x2).toNat (gI w6 (19 + 3 * x2.toNat) 2) → (0 ≤ x2 ∧ x2 < 6) ∧ (0 ≤ (((gI w r0 0) * 6) + x2) ∧ (((gI w r0 0) * 6) + x2) < 180) ∧ (∀ w16 : Wo, w16 = uI w11 (r0 + 8) (((gI w r0 0) * 6) + x2).toNat (gI w11 (19 + 3 * x2.toNat) 1) → (0 ≤ x2 ∧ x2 < 6) ∧ (0 ≤ (((gI w r0 0) * 6) + x2) ∧ (((gI w r0 0) * 6) + x2) < 180) ∧ (∀ w20 : Wo, w20 = uI w16 (r0 + 9) (((gI w r0 0) * 6) + x2).toNat (gI w16 16 x2.toNat) → (0 ≤ x2 ∧ x2 < 6) ∧ (0 ≤ (((gI w r0 0) * 6) + x2) ∧ (((gI w r0 0) * 6) + x2) < 180) ∧ (∀ w24 : Wo, w24 = uI w20 (r0 + 10) (((gI w r0 0) * 6) + x2).toNat (gI w20 17 x2.toNat) → (0 ≤ x2 ∧ x2 < 6) ∧ (0 ≤ (((gI w r0 0) * 6) + x2) ∧ (((gI w r0 0) * 6) + x2) < 180) ∧ (∀ w28 : Wo, w28 = uI w24 (r0 + 11) (((gI w r0 0) * 6) + x2).toNat (gI w24 18 x2.toNat) → inr32 (x2 + 1) ∧ Wp m_Rl_add 80 [(0, vr r0), (1, vr 9), (2, vi (x2 + 1))] [] (0, 0) w28 Q))))))))) : Wp m_Rl_add 80 [(0, vr r0), (1, vr 9), (2, vi x2)] [] (0, 0) w Q := by
  refine wp_ly (fun hly => ?_)
  refine wp_iload_n d_Rl_add_80 (i := 2) rfl 2 rfl ?_
  refine wp_aload_n d_Rl_add_81 (i := 1) rfl 1 rfl ?_
  refine wp_getI d_Rl_add_82 fl_Rl_59 cl_1 rfl (ly_o hly (by decide)) ?_
  refine wp_icmp_ge (tgt := 185) d_Rl_add_85 (by decide) (fun hc => ?_) (fun hc => ?_)
  · replace h := h.1 hc
    refine wp_aload_n d_Rl_add_185 (i := 0) rfl 0 rfl ?_
    refine wp_dup d_Rl_add_186 rfl ?_
    refine wp_getI d_Rl_add_187 fl_Rl_45 cl_5 rfl (ly_o hly (rl_o hr0)) ?_
    refine wp_iconst d_Rl_add_190 (by decide) ?_
    obtain ⟨ho, h⟩ := h
    refine wp_iadd d_Rl_add_191 ho ?_
    refine wp_putI d_Rl_add_192 fl_Rl_45 cl_5 ⟨rfl, rfl⟩ (ly_o hly (rl_o hr0)) (fun w1 e2 => ?_)
    replace h := h w1 e2
    refine wp_ly (fun hly => ?_)
    exact wp_vret d_Rl_add_195 rfl (by decide) h
  · replace h := h.2 hc
    refine wp_aload_n d_Rl_add_88 (i := 0) rfl 0 rfl ?_
    refine wp_getI d_Rl_add_89 fl_Rl_45 cl_5 rfl (ly_o hly (rl_o hr0)) ?_
    refine wp_bipush d_Rl_add_92 (by decide) (by decide) ?_
    obtain ⟨ho, h⟩ := h
    refine wp_imul d_Rl_add_94 ho ?_
    refine wp_iload_n d_Rl_add_95 (i := 2) rfl 2 rfl ?_
    obtain ⟨ho, h⟩ := h
    refine wp_iadd d_Rl_add_96 ho ?_
    refine wp_istore_n (L' := [(3, vi (((gI w r0 0) * 6) + x2)), (0, vr r0), (1, vr 9), (2, vi x2)]) d_Rl_add_97 (i := 3) rfl rfl (by decide) ?_
    refine wp_aload_n d_Rl_add_98 (i := 0) rfl 1 rfl ?_
    refine wp_getP d_Rl_add_99 fl_Rl_27 cl_5 rfl (ly_o hly (rl_o hr0)) (rl_r6 hly hr0) ?_
    refine wp_iload_n d_Rl_add_102 (i := 3) rfl 0 rfl ?_
    refine wp_aload_n d_Rl_add_103 (i := 1) rfl 2 rfl ?_
    refine wp_getP d_Rl_add_104 fl_Rl_70 cl_1 rfl (ly_o hly (by decide)) (ly_r (v := 13) hly (by decide +kernel)) ?_
    refine wp_iload_n d_Rl_add_107 (i := 2) rfl 3 rfl ?_
    obtain ⟨hi3, h⟩ := h
    have hb4 := body_m hi3
    refine wp_aaload d_Rl_add_108 (ly_a (n := 6) (N := 6) hly (by decide) hi3) (body_r hi3 hly) ?_
    refine wp_getI d_Rl_add_109 fl_Rl_74 cl_3 rfl (ly_o hly (lt_o hb4)) ?_
    obtain ⟨hi5, h⟩ := h
    refine wp_iastore d_Rl_add_112 (ly_a (n := 180) (N := 180) hly (rl_a6 hr0) hi5) (fun w6 e7 => ?_)
    replace h := h w6 e7
    refine wp_ly (fun hly => ?_)
    refine wp_aload_n d_Rl_add_113 (i := 0) rfl 1 rfl ?_
    refine wp_getP d_Rl_add_114 fl_Rl_30 cl_5 rfl (ly_o hly (rl_o hr0)) (rl_r7 hly hr0) ?_
    refine wp_iload_n d_Rl_add_117 (i := 3) rfl 0 rfl ?_
    refine wp_aload_n d_Rl_add_118 (i := 1) rfl 2 rfl ?_
    refine wp_getP d_Rl_add_119 fl_Rl_70 cl_1 rfl (ly_o hly (by decide)) (ly_r (v := 13) hly (by decide +kernel)) ?_
    refine wp_iload_n d_Rl_add_122 (i := 2) rfl 3 rfl ?_
    obtain ⟨hi8, h⟩ := h
    have hb9 := body_m hi8
    refine wp_aaload d_Rl_add_123 (ly_a (n := 6) (N := 6) hly (by decide) hi8) (body_r hi8 hly) ?_
    refine wp_getI d_Rl_add_124 fl_Rl_55 cl_3 rfl (ly_o hly (lt_o hb9)) ?_
    obtain ⟨hi10, h⟩ := h
    refine wp_iastore d_Rl_add_127 (ly_a (n := 180) (N := 180) hly (rl_a7 hr0) hi10) (fun w11 e12 => ?_)
    replace h := h w11 e12
    refine wp_ly (fun hly => ?_)
    refine wp_aload_n d_Rl_add_128 (i := 0) rfl 1 rfl ?_
    refine wp_getP d_Rl_add_129 fl_Rl_33 cl_5 rfl (ly_o hly (rl_o hr0)) (rl_r8 hly hr0) ?_
    refine wp_iload_n d_Rl_add_132 (i := 3) rfl 0 rfl ?_
    refine wp_aload_n d_Rl_add_133 (i := 1) rfl 2 rfl ?_
    refine wp_getP d_Rl_add_134 fl_Rl_70 cl_1 rfl (ly_o hly (by decide)) (ly_r (v := 13) hly (by decide +kernel)) ?_
    refine wp_iload_n d_Rl_add_137 (i := 2) rfl 3 rfl ?_
    obtain ⟨hi13, h⟩ := h
    have hb14 := body_m hi13
    refine wp_aaload d_Rl_add_138 (ly_a (n := 6) (N := 6) hly (by decide) hi13) (body_r hi13 hly) ?_
    refine wp_getI d_Rl_add_139 fl_Rl_77 cl_3 rfl (ly_o hly (lt_o hb14)) ?_
    obtain ⟨hi15, h⟩ := h
    refine wp_iastore d_Rl_add_142 (ly_a (n := 180) (N := 180) hly (rl_a8 hr0) hi15) (fun w16 e17 => ?_)
    replace h := h w16 e17
    refine wp_ly (fun hly => ?_)
    refine wp_aload_n d_Rl_add_143 (i := 0) rfl 1 rfl ?_
    refine wp_getP d_Rl_add_144 fl_Rl_36 cl_5 rfl (ly_o hly (rl_o hr0)) (rl_r9 hly hr0) ?_
    refine wp_iload_n d_Rl_add_147 (i := 3) rfl 0 rfl ?_
    refine wp_aload_n d_Rl_add_148 (i := 1) rfl 2 rfl ?_
    refine wp_getP d_Rl_add_149 fl_Rl_80 cl_1 rfl (ly_o hly (by decide)) (ly_r (v := 16) hly (by decide +kernel)) ?_
    refine wp_iload_n d_Rl_add_152 (i := 2) rfl 3 rfl ?_
    obtain ⟨hi18, h⟩ := h
    refine wp_iaload d_Rl_add_153 (ly_a (n := 6) (N := 6) hly (by decide) hi18) ?_
    obtain ⟨hi19, h⟩ := h
    refine wp_iastore d_Rl_add_154 (ly_a (n := 180) (N := 180) hly (rl_a9 hr0) hi19) (fun w20 e21 => ?_)
    replace h := h w20 e21
    refine wp_ly (fun hly => ?_)
    refine wp_aload_n d_Rl_add_155 (i := 0) rfl 1 rfl ?_
    refine wp_getP d_Rl_add_156 fl_Rl_39 cl_5 rfl (ly_o hly (rl_o hr0)) (rl_r10 hly hr0) ?_
    refine wp_iload_n d_Rl_add_159 (i := 3) rfl 0 rfl ?_
    refine wp_aload_n d_Rl_add_160 (i := 1) rfl 2 rfl ?_
    refine wp_getP d_Rl_add_161 fl_Rl_81 cl_1 rfl (ly_o hly (by decide)) (ly_r (v := 17) hly (by decide +kernel)) ?_
    refine wp_iload_n d_Rl_add_164 (i := 2) rfl 3 rfl ?_
    obtain ⟨hi22, h⟩ := h
    refine wp_iaload d_Rl_add_165 (ly_a (n := 6) (N := 6) hly (by decide) hi22) ?_
    obtain ⟨hi23, h⟩ := h
    refine wp_iastore d_Rl_add_166 (ly_a (n := 180) (N := 180) hly (rl_a10 hr0) hi23) (fun w24 e25 => ?_)
    replace h := h w24 e25
    refine wp_ly (fun hly => ?_)
    refine wp_aload_n d_Rl_add_167 (i := 0) rfl 1 rfl ?_
    refine wp_getP d_Rl_add_168 fl_Rl_42 cl_5 rfl (ly_o hly (rl_o hr0)) (rl_r11 hly hr0) ?_
    refine wp_iload_n d_Rl_add_171 (i := 3) rfl 0 rfl ?_
    refine wp_aload_n d_Rl_add_172 (i := 1) rfl 2 rfl ?_
    refine wp_getP d_Rl_add_173 fl_Rl_82 cl_1 rfl (ly_o hly (by decide)) (ly_r (v := 18) hly (by decide +kernel)) ?_
    refine wp_iload_n d_Rl_add_176 (i := 2) rfl 3 rfl ?_
    obtain ⟨hi26, h⟩ := h
    refine wp_iaload d_Rl_add_177 (ly_a (n := 6) (N := 6) hly (by decide) hi26) ?_
    obtain ⟨hi27, h⟩ := h
    refine wp_iastore d_Rl_add_178 (ly_a (n := 180) (N := 180) hly (rl_a11 hr0) hi27) (fun w28 e29 => ?_)
    replace h := h w28 e29
    refine wp_ly (fun hly => ?_)
    obtain ⟨ho, h⟩ := h
    refine wp_iinc (L' := [(2, vi (x2 + 1)), (3, vi (((gI w r0 0) * 6) + x2)), (0, vr r0), (1, vr 9)]) d_Rl_add_179 3 rfl rfl (by decide) ho ?_
    refine wp_goto (tgt := 80) d_Rl_add_182 (by decide) ?_
    exact wp_pick [2, 3, 0] rfl h
set_option maxRecDepth 20000 in
set_option maxHeartbeats 2000000 in
theorem t_Rl_waits_0 {r0 : Nat} {x1 : Int} {x2 : Int} (hr0 : isRl r0) {w : Wo} {Q : Option AV → Wo → Prop} (h : (0 ≤ x1 ∧ x1 < 30) ∧ ((0 < (gI w (r0 + 4) x1.toNat) → Q (some (vi 1)) w) ∧ (¬ 0 < (gI w (r0 + 4) x1.toNat) → (0 ≤ x2 ∧ x2 < 180) ∧ ((¬ (gI w (r0 + 6) x2.toNat) = 1 → Q (some (vi 0)) w) ∧ ((gI w (r0 + 6) x2.toNat) = 1 → Q (some (vi 1)) w))))) : Wp m_Rl_waits 0 [(0, vr r0), (1, vi x1), (2, vi x2)] [] (0, 0) w Q := by
  refine wp_ly (fun hly => ?_)
  refine wp_aload_n d_Rl_waits_0 (i := 0) rfl 0 rfl ?_
  refine wp_getP d_Rl_waits_1 fl_Rl_21 cl_5 rfl (ly_o hly (rl_o hr0)) (rl_r4 hly hr0) ?_
  refine wp_iload_n d_Rl_waits_4 (i := 1) rfl 1 rfl ?_
  obtain ⟨hi1, h⟩ := h
  refine wp_iaload d_Rl_waits_5 (ly_a (n := 30) (N := 30) hly (rl_a4 hr0) hi1) ?_
  refine wp_if_gt (tgt := 19) d_Rl_waits_6 (by decide) (fun hc => ?_) (fun hc => ?_)
  · replace h := h.1 hc
    refine wp_iconst d_Rl_waits_19 (by decide) ?_
    refine wp_goto (tgt := 24) d_Rl_waits_20 (by decide) ?_
    exact wp_zret d_Rl_waits_24 rfl (by decide) (by decide) h
  · replace h := h.2 hc
    refine wp_aload_n d_Rl_waits_9 (i := 0) rfl 0 rfl ?_
    refine wp_getP d_Rl_waits_10 fl_Rl_27 cl_5 rfl (ly_o hly (rl_o hr0)) (rl_r6 hly hr0) ?_
    refine wp_iload_n d_Rl_waits_13 (i := 2) rfl 2 rfl ?_
    obtain ⟨hi2, h⟩ := h
    refine wp_iaload d_Rl_waits_14 (ly_a (n := 180) (N := 180) hly (rl_a6 hr0) hi2) ?_
    refine wp_iconst d_Rl_waits_15 (by decide) ?_
    refine wp_icmp_ne (tgt := 23) d_Rl_waits_16 (by decide) (fun hc => ?_) (fun hc => ?_)
    · replace h := h.1 hc
      refine wp_iconst d_Rl_waits_23 (by decide) ?_
      exact wp_zret d_Rl_waits_24 rfl (by decide) (by decide) h
    · replace h := h.2 hc
      refine wp_iconst d_Rl_waits_19 (by decide) ?_
      refine wp_goto (tgt := 24) d_Rl_waits_20 (by decide) ?_
      exact wp_zret d_Rl_waits_24 rfl (by decide) (by decide) h

set_option maxRecDepth 20000 in
set_option maxHeartbeats 2000000 in
theorem t_M_lookHangs_56 {x1 : Int} {x2 : Int}  {w : Wo} {Q : Option AV → Wo → Prop} (h : inr32 (6 * x1) ∧ (0 ≤ x1 ∧ x1 < 61) ∧ inr32 ((6 * x1) + (gI w 94 x1.toNat)) ∧ ((((6 * x1) + (gI w 94 x1.toNat)) ≤ x2 → inr32 (x1 + 1) ∧ Wp m_M_lookHangs 30 [(0, vr 78), (1, vi (x1 + 1))] [] (0, 0) w Q) ∧ (¬ ((6 * x1) + (gI w 94 x1.toNat)) ≤ x2 → MetI m_M_isAtom [vr 78, vi x2] w (fun z3 w2 => ((z3 = 0 → inr32 (x2 + 1) ∧ Wp m_M_lookHangs 56 [(0, vr 78), (1, vi x1), (2, vi (x2 + 1))] [] (0, 0) w2 Q) ∧ (¬ z3 = 0 → (0 ≤ x1 ∧ x1 < 61) ∧ inr32 (16 * (gI w2 89 x1.toNat)) ∧ (0 ≤ x2 ∧ x2 < 366) ∧ inr32 ((16 * (gI w2 89 x1.toNat)) + (gI w2 97 x2.toNat)) ∧ (0 ≤ ((16 * (gI w2 89 x1.toNat)) + (gI w2 97 x2.toNat)) ∧ ((16 * (gI w2 89 x1.toNat)) + (gI w2 97 x2.toNat)) < 256) ∧ (∀ w7 : Wo, w7 = uI w2 111 ((16 * (gI w2 89 x1.toNat)) + (gI w2 97 x2.toNat)).toNat 1 → inr32 (x2 + 1) ∧ Wp m_M_lookHangs 56 [(0, vr 78), (1, vi x1), (2, vi (x2 + 1))] [] (0, 0) w7 Q))))))) : Wp m_M_lookHangs 56 [(0, vr 78), (1, vi x1), (2, vi x2)] [] (0, 0) w Q := by
  refine wp_ly (fun hly => ?_)
  refine wp_iload_n d_M_lookHangs_56 (i := 2) rfl 2 rfl ?_
  refine wp_bipush d_M_lookHangs_57 (by decide) (by decide) ?_
  refine wp_iload_n d_M_lookHangs_59 (i := 1) rfl 1 rfl ?_
  obtain ⟨ho, h⟩ := h
  refine wp_imul d_M_lookHangs_60 ho ?_
  refine wp_aload_n d_M_lookHangs_61 (i := 0) rfl 0 rfl ?_
  refine wp_getP d_M_lookHangs_62 fl_M_56 cl_9 rfl (ly_o hly (by decide)) (ly_r (v := 94) hly (by decide +kernel)) ?_
  refine wp_iload_n d_M_lookHangs_65 (i := 1) rfl 1 rfl ?_
  obtain ⟨hi1, h⟩ := h
  refine wp_iaload d_M_lookHangs_66 (ly_a (n := 61) (N := 61) hly (by decide) hi1) ?_
  obtain ⟨ho, h⟩ := h
  refine wp_iadd d_M_lookHangs_67 ho ?_
  refine wp_icmp_ge (tgt := 107) d_M_lookHangs_68 (by decide) (fun hc => ?_) (fun hc => ?_)
  · replace h := h.1 hc
    obtain ⟨ho, h⟩ := h
    refine wp_iinc (L' := [(1, vi (x1 + 1)), (0, vr 78), (2, vi x2)]) d_M_lookHangs_107 1 rfl rfl (by decide) ho ?_
    refine wp_goto (tgt := 30) d_M_lookHangs_110 (by decide) ?_
    exact wp_pick [1, 0] rfl h
  · replace h := h.2 hc
    refine wp_aload_n d_M_lookHangs_71 (i := 0) rfl 0 rfl ?_
    refine wp_iload_n d_M_lookHangs_72 (i := 2) rfl 2 rfl ?_
    refine wp_callV (A := [vi x2]) (S := []) d_M_lookHangs_73 cv_M_lookHangs_296 (ly_o hly (by decide)) rfl (Nat.le_of_ble_eq_true rfl) (by decide) (MetS.mono h (fun r w2 hh => ?_))
    obtain ⟨z3, er, h⟩ := hh
    subst er
    refine wp_ly (fun hly => ?_)
    refine wp_if_eq (tgt := 101) d_M_lookHangs_76 (by decide) (fun hc => ?_) (fun hc => ?_)
    · replace h := h.1 hc
      obtain ⟨ho, h⟩ := h
      refine wp_iinc (L' := [(2, vi (x2 + 1)), (0, vr 78), (1, vi x1)]) d_M_lookHangs_101 2 rfl rfl (by decide) ho ?_
      refine wp_goto (tgt := 56) d_M_lookHangs_104 (by decide) ?_
      exact wp_pick [1, 2, 0] rfl h
    · replace h := h.2 hc
      refine wp_aload_n d_M_lookHangs_79 (i := 0) rfl 0 rfl ?_
      refine wp_getP d_M_lookHangs_80 fl_M_108 cl_9 rfl (ly_o hly (by decide)) (ly_r (v := 111) hly (by decide +kernel)) ?_
      refine wp_bipush d_M_lookHangs_83 (by decide) (by decide) ?_
      refine wp_aload_n d_M_lookHangs_85 (i := 0) rfl 0 rfl ?_
      refine wp_getP d_M_lookHangs_86 fl_M_41 cl_9 rfl (ly_o hly (by decide)) (ly_r (v := 89) hly (by decide +kernel)) ?_
      refine wp_iload_n d_M_lookHangs_89 (i := 1) rfl 1 rfl ?_
      obtain ⟨hi4, h⟩ := h
      refine wp_iaload d_M_lookHangs_90 (ly_a (n := 61) (N := 61) hly (by decide) hi4) ?_
      obtain ⟨ho, h⟩ := h
      refine wp_imul d_M_lookHangs_91 ho ?_
      refine wp_aload_n d_M_lookHangs_92 (i := 0) rfl 0 rfl ?_
      refine wp_getP d_M_lookHangs_93 fl_M_65 cl_9 rfl (ly_o hly (by decide)) (ly_r (v := 97) hly (by decide +kernel)) ?_
      refine wp_iload_n d_M_lookHangs_96 (i := 2) rfl 2 rfl ?_
      obtain ⟨hi5, h⟩ := h
      refine wp_iaload d_M_lookHangs_97 (ly_a (n := 366) (N := 366) hly (by decide) hi5) ?_
      obtain ⟨ho, h⟩ := h
      refine wp_iadd d_M_lookHangs_98 ho ?_
      refine wp_iconst d_M_lookHangs_99 (by decide) ?_
      obtain ⟨hi6, h⟩ := h
      refine wp_zastore d_M_lookHangs_100 (ly_a (n := 256) (N := 256) hly (by decide) hi6) (by decide) (fun w7 e8 => ?_)
      replace h := h w7 e8
      refine wp_ly (fun hly => ?_)
      obtain ⟨ho, h⟩ := h
      refine wp_iinc (L' := [(2, vi (x2 + 1)), (0, vr 78), (1, vi x1)]) d_M_lookHangs_101 2 rfl rfl (by decide) ho ?_
      refine wp_goto (tgt := 56) d_M_lookHangs_104 (by decide) ?_
      exact wp_pick [1, 2, 0] rfl h
set_option maxRecDepth 20000 in
set_option maxHeartbeats 2000000 in
theorem t_M_lookHangs_115 {x1 : Int}  {w : Wo} {Q : Option AV → Wo → Prop} (h : ((16 ≤ x1 → Q none w) ∧ (¬ 16 ≤ x1 → Wp m_M_lookHangs 123 [(0, vr 78), (1, vi x1), (2, vi 0)] [] (0, 0) w Q))) : Wp m_M_lookHangs 115 [(0, vr 78), (1, vi x1)] [] (0, 0) w Q := by
  refine wp_ly (fun hly => ?_)
  refine wp_iload_n d_M_lookHangs_115 (i := 1) rfl 1 rfl ?_
  refine wp_bipush d_M_lookHangs_116 (by decide) (by decide) ?_
  refine wp_icmp_ge (tgt := 202) d_M_lookHangs_118 (by decide) (fun hc => ?_) (fun hc => ?_)
  · replace h := h.1 hc
    exact wp_vret d_M_lookHangs_202 rfl (by decide) h
  · replace h := h.2 hc
    refine wp_iconst d_M_lookHangs_121 (by decide) ?_
    refine wp_istore_n (L' := [(2, vi 0), (0, vr 78), (1, vi x1)]) d_M_lookHangs_122 (i := 2) rfl rfl (by decide) ?_
    exact wp_pick [1, 2, 0] rfl h
set_option maxRecDepth 20000 in
set_option maxHeartbeats 2000000 in
theorem t_M_lookHangs_123 {x1 : Int} {x2 : Int}  {w : Wo} {Q : Option AV → Wo → Prop} (h : ((16 ≤ x2 → inr32 (x1 + 1) ∧ Wp m_M_lookHangs 115 [(0, vr 78), (1, vi (x1 + 1))] [] (0, 0) w Q) ∧ (¬ 16 ≤ x2 → Wp m_M_lookHangs 131 [(0, vr 78), (1, vi x1), (2, vi x2), (3, vi 0)] [] (0, 0) w Q))) : Wp m_M_lookHangs 123 [(0, vr 78), (1, vi x1), (2, vi x2)] [] (0, 0) w Q := by
  refine wp_ly (fun hly => ?_)
  refine wp_iload_n d_M_lookHangs_123 (i := 2) rfl 2 rfl ?_
  refine wp_bipush d_M_lookHangs_124 (by decide) (by decide) ?_
  refine wp_icmp_ge (tgt := 196) d_M_lookHangs_126 (by decide) (fun hc => ?_) (fun hc => ?_)
  · replace h := h.1 hc
    obtain ⟨ho, h⟩ := h
    refine wp_iinc (L' := [(1, vi (x1 + 1)), (0, vr 78), (2, vi x2)]) d_M_lookHangs_196 1 rfl rfl (by decide) ho ?_
    refine wp_goto (tgt := 115) d_M_lookHangs_199 (by decide) ?_
    exact wp_pick [1, 0] rfl h
  · replace h := h.2 hc
    refine wp_iconst d_M_lookHangs_129 (by decide) ?_
    refine wp_istore_n (L' := [(3, vi 0), (0, vr 78), (1, vi x1), (2, vi x2)]) d_M_lookHangs_130 (i := 3) rfl rfl (by decide) ?_
    exact wp_pick [1, 2, 3, 0] rfl h
set_option maxRecDepth 20000 in
set_option maxHeartbeats 2000000 in
theorem t_M_lookHangs_131 {x1 : Int} {x2 : Int} {x3 : Int}  {w : Wo} {Q : Option AV → Wo → Prop} (h : ((16 ≤ x3 → inr32 (x2 + 1) ∧ Wp m_M_lookHangs 123 [(0, vr 78), (1, vi x1), (2, vi (x2 + 1))] [] (0, 0) w Q) ∧ (¬ 16 ≤ x3 → inr32 (16 * x2) ∧ inr32 ((16 * x2) + x3) ∧ (0 ≤ ((16 * x2) + x3) ∧ ((16 * x2) + x3) < 256) ∧ inr32 (16 * x2) ∧ inr32 ((16 * x2) + x1) ∧ (0 ≤ ((16 * x2) + x1) ∧ ((16 * x2) + x1) < 256) ∧ (((gI w 111 ((16 * x2) + x1).toNat) = 0 → (0 ≤ ((16 * x2) + x3) ∧ ((16 * x2) + x3) < 256) ∧ ((b_ior (gI w 111 ((16 * x2) + x3).toNat) 0) = 0 ∨ (b_ior (gI w 111 ((16 * x2) + x3).toNat) 0) = 1) ∧ (∀ w4 : Wo, w4 = uI w 111 ((16 * x2) + x3).toNat (b_ior (gI w 111 ((16 * x2) + x3).toNat) 0) → inr32 (x3 + 1) ∧ Wp m_M_lookHangs 131 [(0, vr 78), (1, vi x1), (2, vi x2), (3, vi (x3 + 1))] [] (0, 0) w4 Q)) ∧ (¬ (gI w 111 ((16 * x2) + x1).toNat) = 0 → inr32 (16 * x1) ∧ inr32 ((16 * x1) + x3) ∧ (0 ≤ ((16 * x1) + x3) ∧ ((16 * x1) + x3) < 256) ∧ (((gI w 111 ((16 * x1) + x3).toNat) = 0 → (0 ≤ ((16 * x2) + x3) ∧ ((16 * x2) + x3) < 256) ∧ ((b_ior (gI w 111 ((16 * x2) + x3).toNat) 0) = 0 ∨ (b_ior (gI w 111 ((16 * x2) + x3).toNat) 0) = 1) ∧ (∀ w8 : Wo, w8 = uI w 111 ((16 * x2) + x3).toNat (b_ior (gI w 111 ((16 * x2) + x3).toNat) 0) → inr32 (x3 + 1) ∧ Wp m_M_lookHangs 131 [(0, vr 78), (1, vi x1), (2, vi x2), (3, vi (x3 + 1))] [] (0, 0) w8 Q)) ∧ (¬ (gI w 111 ((16 * x1) + x3).toNat) = 0 → (0 ≤ ((16 * x2) + x3) ∧ ((16 * x2) + x3) < 256) ∧ ((b_ior (gI w 111 ((16 * x2) + x3).toNat) 1) = 0 ∨ (b_ior (gI w 111 ((16 * x2) + x3).toNat) 1) = 1) ∧ (∀ w11 : Wo, w11 = uI w 111 ((16 * x2) + x3).toNat (b_ior (gI w 111 ((16 * x2) + x3).toNat) 1) → inr32 (x3 + 1) ∧ Wp m_M_lookHangs 131 [(0, vr 78), (1, vi x1), (2, vi x2), (3, vi (x3 + 1))] [] (0, 0) w11 Q)))))))) : Wp m_M_lookHangs 131 [(0, vr 78), (1, vi x1), (2, vi x2), (3, vi x3)] [] (0, 0) w Q := by
  refine wp_ly (fun hly => ?_)
  refine wp_iload_n d_M_lookHangs_131 (i := 3) rfl 3 rfl ?_
  refine wp_bipush d_M_lookHangs_132 (by decide) (by decide) ?_
  refine wp_icmp_ge (tgt := 190) d_M_lookHangs_134 (by decide) (fun hc => ?_) (fun hc => ?_)
  · replace h := h.1 hc
    obtain ⟨ho, h⟩ := h
    refine wp_iinc (L' := [(2, vi (x2 + 1)), (0, vr 78), (1, vi x1), (3, vi x3)]) d_M_lookHangs_190 2 rfl rfl (by decide) ho ?_
    refine wp_goto (tgt := 123) d_M_lookHangs_193 (by decide) ?_
    exact wp_pick [1, 2, 0] rfl h
  · replace h := h.2 hc
    refine wp_aload_n d_M_lookHangs_137 (i := 0) rfl 0 rfl ?_
    refine wp_getP d_M_lookHangs_138 fl_M_108 cl_9 rfl (ly_o hly (by decide)) (ly_r (v := 111) hly (by decide +kernel)) ?_
    refine wp_bipush d_M_lookHangs_141 (by decide) (by decide) ?_
    refine wp_iload_n d_M_lookHangs_143 (i := 2) rfl 2 rfl ?_
    obtain ⟨ho, h⟩ := h
    refine wp_imul d_M_lookHangs_144 ho ?_
    refine wp_iload_n d_M_lookHangs_145 (i := 3) rfl 3 rfl ?_
    obtain ⟨ho, h⟩ := h
    refine wp_iadd d_M_lookHangs_146 ho ?_
    refine wp_dup2 d_M_lookHangs_147 rfl rfl ?_
    obtain ⟨hi1, h⟩ := h
    refine wp_zaload d_M_lookHangs_148 (ly_a (n := 256) (N := 256) hly (by decide) hi1) ?_
    refine wp_aload_n d_M_lookHangs_149 (i := 0) rfl 0 rfl ?_
    refine wp_getP d_M_lookHangs_150 fl_M_108 cl_9 rfl (ly_o hly (by decide)) (ly_r (v := 111) hly (by decide +kernel)) ?_
    refine wp_bipush d_M_lookHangs_153 (by decide) (by decide) ?_
    refine wp_iload_n d_M_lookHangs_155 (i := 2) rfl 2 rfl ?_
    obtain ⟨ho, h⟩ := h
    refine wp_imul d_M_lookHangs_156 ho ?_
    refine wp_iload_n d_M_lookHangs_157 (i := 1) rfl 1 rfl ?_
    obtain ⟨ho, h⟩ := h
    refine wp_iadd d_M_lookHangs_158 ho ?_
    obtain ⟨hi2, h⟩ := h
    refine wp_zaload d_M_lookHangs_159 (ly_a (n := 256) (N := 256) hly (by decide) hi2) ?_
    refine wp_if_eq (tgt := 181) d_M_lookHangs_160 (by decide) (fun hc => ?_) (fun hc => ?_)
    · replace h := h.1 hc
      refine wp_iconst d_M_lookHangs_181 (by decide) ?_
      refine wp_ior d_M_lookHangs_182 ?_
      obtain ⟨hi3, h⟩ := h
      obtain ⟨hz, h⟩ := h
      refine wp_zastore d_M_lookHangs_183 (ly_a (n := 256) (N := 256) hly (by decide) hi3) hz (fun w4 e5 => ?_)
      replace h := h w4 e5
      refine wp_ly (fun hly => ?_)
      obtain ⟨ho, h⟩ := h
      refine wp_iinc (L' := [(3, vi (x3 + 1)), (0, vr 78), (1, vi x1), (2, vi x2)]) d_M_lookHangs_184 3 rfl rfl (by decide) ho ?_
      refine wp_goto (tgt := 131) d_M_lookHangs_187 (by decide) ?_
      exact wp_pick [1, 2, 3, 0] rfl h
    · replace h := h.2 hc
      refine wp_aload_n d_M_lookHangs_163 (i := 0) rfl 0 rfl ?_
      refine wp_getP d_M_lookHangs_164 fl_M_108 cl_9 rfl (ly_o hly (by decide)) (ly_r (v := 111) hly (by decide +kernel)) ?_
      refine wp_bipush d_M_lookHangs_167 (by decide) (by decide) ?_
      refine wp_iload_n d_M_lookHangs_169 (i := 1) rfl 1 rfl ?_
      obtain ⟨ho, h⟩ := h
      refine wp_imul d_M_lookHangs_170 ho ?_
      refine wp_iload_n d_M_lookHangs_171 (i := 3) rfl 3 rfl ?_
      obtain ⟨ho, h⟩ := h
      refine wp_iadd d_M_lookHangs_172 ho ?_
      obtain ⟨hi6, h⟩ := h
      refine wp_zaload d_M_lookHangs_173 (ly_a (n := 256) (N := 256) hly (by decide) hi6) ?_
      refine wp_if_eq (tgt := 181) d_M_lookHangs_174 (by decide) (fun hc => ?_) (fun hc => ?_)
      · replace h := h.1 hc
        refine wp_iconst d_M_lookHangs_181 (by decide) ?_
        refine wp_ior d_M_lookHangs_182 ?_
        obtain ⟨hi7, h⟩ := h
        obtain ⟨hz, h⟩ := h
        refine wp_zastore d_M_lookHangs_183 (ly_a (n := 256) (N := 256) hly (by decide) hi7) hz (fun w8 e9 => ?_)
        replace h := h w8 e9
        refine wp_ly (fun hly => ?_)
        obtain ⟨ho, h⟩ := h
        refine wp_iinc (L' := [(3, vi (x3 + 1)), (0, vr 78), (1, vi x1), (2, vi x2)]) d_M_lookHangs_184 3 rfl rfl (by decide) ho ?_
        refine wp_goto (tgt := 131) d_M_lookHangs_187 (by decide) ?_
        exact wp_pick [1, 2, 3, 0] rfl h
      · replace h := h.2 hc
        refine wp_iconst d_M_lookHangs_177 (by decide) ?_
        refine wp_goto (tgt := 182) d_M_lookHangs_178 (by decide) ?_
        refine wp_ior d_M_lookHangs_182 ?_
        obtain ⟨hi10, h⟩ := h
        obtain ⟨hz, h⟩ := h
        refine wp_zastore d_M_lookHangs_183 (ly_a (n := 256) (N := 256) hly (by decide) hi10) hz (fun w11 e12 => ?_)
        replace h := h w11 e12
        refine wp_ly (fun hly => ?_)
        obtain ⟨ho, h⟩ := h
        refine wp_iinc (L' := [(3, vi (x3 + 1)), (0, vr 78), (1, vi x1), (2, vi x2)]) d_M_lookHangs_184 3 rfl rfl (by decide) ho ?_
        refine wp_goto (tgt := 131) d_M_lookHangs_187 (by decide) ?_
        exact wp_pick [1, 2, 3, 0] rfl h
set_option maxRecDepth 20000 in
set_option maxHeartbeats 2000000 in
theorem t_M_isBack_0 {x1 : Int} {x2 : Int}  {w : Wo} {Q : Option AV → Wo → Prop} (h : ((x1 = x2 → Q (some (vi 1)) w) ∧ (¬ x1 = x2 → inr32 (16 * x2) ∧ inr32 ((16 * x2) + x1) ∧ (0 ≤ ((16 * x2) + x1) ∧ ((16 * x2) + x1) < 256) ∧ (((gI w 111 ((16 * x2) + x1).toNat) = 0 → Q (some (vi 0)) w) ∧ (¬ (gI w 111 ((16 * x2) + x1).toNat) = 0 → Q (some (vi 1)) w))))) : Wp m_M_isBack 0 [(0, vr 78), (1, vi x1), (2, vi x2)] [] (0, 0) w Q := by
  refine wp_ly (fun hly => ?_)
  refine wp_iload_n d_M_isBack_0 (i := 1) rfl 1 rfl ?_
  refine wp_iload_n d_M_isBack_1 (i := 2) rfl 2 rfl ?_
  refine wp_icmp_eq (tgt := 19) d_M_isBack_2 (by decide) (fun hc => ?_) (fun hc => ?_)
  · replace h := h.1 hc
    refine wp_iconst d_M_isBack_19 (by decide) ?_
    refine wp_goto (tgt := 24) d_M_isBack_20 (by decide) ?_
    exact wp_zret d_M_isBack_24 rfl (by decide) (by decide) h
  · replace h := h.2 hc
    refine wp_aload_n d_M_isBack_5 (i := 0) rfl 0 rfl ?_
    refine wp_getP d_M_isBack_6 fl_M_108 cl_9 rfl (ly_o hly (by decide)) (ly_r (v := 111) hly (by decide +kernel)) ?_
    refine wp_bipush d_M_isBack_9 (by decide) (by decide) ?_
    refine wp_iload_n d_M_isBack_11 (i := 2) rfl 2 rfl ?_
    obtain ⟨ho, h⟩ := h
    refine wp_imul d_M_isBack_12 ho ?_
    refine wp_iload_n d_M_isBack_13 (i := 1) rfl 1 rfl ?_
    obtain ⟨ho, h⟩ := h
    refine wp_iadd d_M_isBack_14 ho ?_
    obtain ⟨hi1, h⟩ := h
    refine wp_zaload d_M_isBack_15 (ly_a (n := 256) (N := 256) hly (by decide) hi1) ?_
    refine wp_if_eq (tgt := 23) d_M_isBack_16 (by decide) (fun hc => ?_) (fun hc => ?_)
    · replace h := h.1 hc
      refine wp_iconst d_M_isBack_23 (by decide) ?_
      exact wp_zret d_M_isBack_24 rfl (by decide) (by decide) h
    · replace h := h.2 hc
      refine wp_iconst d_M_isBack_19 (by decide) ?_
      refine wp_goto (tgt := 24) d_M_isBack_20 (by decide) ?_
      exact wp_zret d_M_isBack_24 rfl (by decide) (by decide) h
set_option maxRecDepth 20000 in
set_option maxHeartbeats 2000000 in
theorem t_M_lookAbsence_0   {w : Wo} {Q : Option AV → Wo → Prop} (h : MetV m_M_lookHangs [vr 78] w (fun w1 => inr32 (30 * (gI w1 78 37)) ∧ Wp m_M_lookAbsence 12 [(0, vr 78), (1, vi (30 * (gI w1 78 37)))] [] (0, 0) w1 Q)) : Wp m_M_lookAbsence 0 [(0, vr 78)] [] (0, 0) w Q := by
  refine wp_ly (fun hly => ?_)
  refine wp_aload_n d_M_lookAbsence_0 (i := 0) rfl 0 rfl ?_
  refine wp_callV (A := []) (S := []) d_M_lookAbsence_1 cv_M_lookAbsence_299 (ly_o hly (by decide)) rfl (Nat.le_of_ble_eq_true rfl) (by decide) (MetS.mono h (fun r w1 hh => ?_))
  obtain ⟨er, h⟩ := hh
  subst er
  refine wp_ly (fun hly => ?_)
  refine wp_bipush d_M_lookAbsence_4 (by decide) (by decide) ?_
  refine wp_aload_n d_M_lookAbsence_6 (i := 0) rfl 0 rfl ?_
  refine wp_getI d_M_lookAbsence_7 fl_M_211 cl_9 rfl (ly_o hly (by decide)) ?_
  obtain ⟨ho, h⟩ := h
  refine wp_imul d_M_lookAbsence_10 ho ?_
  refine wp_istore_n (L' := [(1, vi (30 * (gI w1 78 37))), (0, vr 78)]) d_M_lookAbsence_11 (i := 1) rfl rfl (by decide) ?_
  exact wp_pick [1, 0] rfl h
set_option maxRecDepth 20000 in
set_option maxHeartbeats 2000000 in
theorem t_M_lookAbsence_12 {x1 : Int}  {w : Wo} {Q : Option AV → Wo → Prop} (h : inr32 (30 * (gI w 78 37)) ∧ (0 ≤ (gI w 78 37) ∧ (gI w 78 37) < 2) ∧ inr32 ((30 * (gI w 78 37)) + (gI w 88 (gI w 78 37).toNat)) ∧ ((((30 * (gI w 78 37)) + (gI w 88 (gI w 78 37).toNat)) ≤ x1 → Q none w) ∧ (¬ ((30 * (gI w 78 37)) + (gI w 88 (gI w 78 37).toNat)) ≤ x1 → ((¬ (gI w 78 3) = 0 → Q none w) ∧ ((gI w 78 3) = 0 → inr32 (6 * x1) ∧ Wp m_M_lookAbsence 45 [(0, vr 78), (1, vi x1), (2, vi (6 * x1))] [] (0, 0) w Q))))) : Wp m_M_lookAbsence 12 [(0, vr 78), (1, vi x1)] [] (0, 0) w Q := by
  refine wp_ly (fun hly => ?_)
  refine wp_iload_n d_M_lookAbsence_12 (i := 1) rfl 1 rfl ?_
  refine wp_bipush d_M_lookAbsence_13 (by decide) (by decide) ?_
  refine wp_aload_n d_M_lookAbsence_15 (i := 0) rfl 0 rfl ?_
  refine wp_getI d_M_lookAbsence_16 fl_M_211 cl_9 rfl (ly_o hly (by decide)) ?_
  obtain ⟨ho, h⟩ := h
  refine wp_imul d_M_lookAbsence_19 ho ?_
  refine wp_aload_n d_M_lookAbsence_20 (i := 0) rfl 0 rfl ?_
  refine wp_getP d_M_lookAbsence_21 fl_M_38 cl_9 rfl (ly_o hly (by decide)) (ly_r (v := 88) hly (by decide +kernel)) ?_
  refine wp_aload_n d_M_lookAbsence_24 (i := 0) rfl 0 rfl ?_
  refine wp_getI d_M_lookAbsence_25 fl_M_211 cl_9 rfl (ly_o hly (by decide)) ?_
  obtain ⟨hi1, h⟩ := h
  refine wp_iaload d_M_lookAbsence_28 (ly_a (n := 2) (N := 2) hly (by decide) hi1) ?_
  obtain ⟨ho, h⟩ := h
  refine wp_iadd d_M_lookAbsence_29 ho ?_
  refine wp_icmp_ge (tgt := 185) d_M_lookAbsence_30 (by decide) (fun hc => ?_) (fun hc => ?_)
  · replace h := h.1 hc
    exact wp_vret d_M_lookAbsence_185 rfl (by decide) h
  · replace h := h.2 hc
    refine wp_aload_n d_M_lookAbsence_33 (i := 0) rfl 0 rfl ?_
    refine wp_getI d_M_lookAbsence_34 fl_M_174 cl_9 rfl (ly_o hly (by decide)) ?_
    refine wp_if_ne (tgt := 185) d_M_lookAbsence_37 (by decide) (fun hc => ?_) (fun hc => ?_)
    · replace h := h.1 hc
      exact wp_vret d_M_lookAbsence_185 rfl (by decide) h
    · replace h := h.2 hc
      refine wp_bipush d_M_lookAbsence_40 (by decide) (by decide) ?_
      refine wp_iload_n d_M_lookAbsence_42 (i := 1) rfl 1 rfl ?_
      obtain ⟨ho, h⟩ := h
      refine wp_imul d_M_lookAbsence_43 ho ?_
      refine wp_istore_n (L' := [(2, vi (6 * x1)), (0, vr 78), (1, vi x1)]) d_M_lookAbsence_44 (i := 2) rfl rfl (by decide) ?_
      exact wp_pick [1, 2, 0] rfl h
set_option maxRecDepth 20000 in
set_option maxHeartbeats 2000000 in
theorem t_M_lookAbsence_45 {x1 : Int} {x2 : Int}  {w : Wo} {Q : Option AV → Wo → Prop} (h : inr32 (6 * x1) ∧ (0 ≤ x1 ∧ x1 < 61) ∧ inr32 ((6 * x1) + (gI w 94 x1.toNat)) ∧ ((((6 * x1) + (gI w 94 x1.toNat)) ≤ x2 → inr32 (6 * x1) ∧ Wp m_M_lookAbsence 118 [(0, vr 78), (1, vi x1), (2, vi (6 * x1))] [] (0, 0) w Q) ∧ (¬ ((6 * x1) + (gI w 94 x1.toNat)) ≤ x2 → (0 ≤ x1 ∧ x1 < 61) ∧ (((gI w 92 x1.toNat) ≤ 0 → inr32 (x2 + 1) ∧ Wp m_M_lookAbsence 45 [(0, vr 78), (1, vi x1), (2, vi (x2 + 1))] [] (0, 0) w Q) ∧ (¬ (gI w 92 x1.toNat) ≤ 0 → MetI m_M_isAtom [vr 78, vi x2] w (fun z4 w3 => ((z4 = 0 → inr32 (x2 + 1) ∧ Wp m_M_lookAbsence 45 [(0, vr 78), (1, vi x1), (2, vi (x2 + 1))] [] (0, 0) w3 Q) ∧ (¬ z4 = 0 → (0 ≤ x1 ∧ x1 < 61) ∧ (0 ≤ x2 ∧ x2 < 366) ∧ MetI m_M_isBack [vr 78, vi (gI w3 89 x1.toNat), vi (gI w3 97 x2.toNat)] w3 (fun z8 w7 => ((z8 = 0 → inr32 (x2 + 1) ∧ Wp m_M_lookAbsence 45 [(0, vr 78), (1, vi x1), (2, vi (x2 + 1))] [] (0, 0) w7 Q) ∧ (¬ z8 = 0 → (0 ≤ x1 ∧ x1 < 61) ∧ MetV m_M_note [vr 78, vi 4, vi (gI w7 110 x1.toNat)] w7 (fun w10 => inr32 (x2 + 1) ∧ Wp m_M_lookAbsence 45 [(0, vr 78), (1, vi x1), (2, vi (x2 + 1))] [] (0, 0) w10 Q)))))))))))) : Wp m_M_lookAbsence 45 [(0, vr 78), (1, vi x1), (2, vi x2)] [] (0, 0) w Q := by
  refine wp_ly (fun hly => ?_)
  refine wp_iload_n d_M_lookAbsence_45 (i := 2) rfl 2 rfl ?_
  refine wp_bipush d_M_lookAbsence_46 (by decide) (by decide) ?_
  refine wp_iload_n d_M_lookAbsence_48 (i := 1) rfl 1 rfl ?_
  obtain ⟨ho, h⟩ := h
  refine wp_imul d_M_lookAbsence_49 ho ?_
  refine wp_aload_n d_M_lookAbsence_50 (i := 0) rfl 0 rfl ?_
  refine wp_getP d_M_lookAbsence_51 fl_M_56 cl_9 rfl (ly_o hly (by decide)) (ly_r (v := 94) hly (by decide +kernel)) ?_
  refine wp_iload_n d_M_lookAbsence_54 (i := 1) rfl 1 rfl ?_
  obtain ⟨hi1, h⟩ := h
  refine wp_iaload d_M_lookAbsence_55 (ly_a (n := 61) (N := 61) hly (by decide) hi1) ?_
  obtain ⟨ho, h⟩ := h
  refine wp_iadd d_M_lookAbsence_56 ho ?_
  refine wp_icmp_ge (tgt := 113) d_M_lookAbsence_57 (by decide) (fun hc => ?_) (fun hc => ?_)
  · replace h := h.1 hc
    refine wp_bipush d_M_lookAbsence_113 (by decide) (by decide) ?_
    refine wp_iload_n d_M_lookAbsence_115 (i := 1) rfl 1 rfl ?_
    obtain ⟨ho, h⟩ := h
    refine wp_imul d_M_lookAbsence_116 ho ?_
    refine wp_istore_n (L' := [(2, vi (6 * x1)), (0, vr 78), (1, vi x1)]) d_M_lookAbsence_117 (i := 2) rfl rfl (by decide) ?_
    exact wp_pick [1, 2, 0] rfl h
  · replace h := h.2 hc
    refine wp_aload_n d_M_lookAbsence_60 (i := 0) rfl 0 rfl ?_
    refine wp_getP d_M_lookAbsence_61 fl_M_50 cl_9 rfl (ly_o hly (by decide)) (ly_r (v := 92) hly (by decide +kernel)) ?_
    refine wp_iload_n d_M_lookAbsence_64 (i := 1) rfl 1 rfl ?_
    obtain ⟨hi2, h⟩ := h
    refine wp_iaload d_M_lookAbsence_65 (ly_a (n := 61) (N := 61) hly (by decide) hi2) ?_
    refine wp_if_le (tgt := 107) d_M_lookAbsence_66 (by decide) (fun hc => ?_) (fun hc => ?_)
    · replace h := h.1 hc
      obtain ⟨ho, h⟩ := h
      refine wp_iinc (L' := [(2, vi (x2 + 1)), (0, vr 78), (1, vi x1)]) d_M_lookAbsence_107 2 rfl rfl (by decide) ho ?_
      refine wp_goto (tgt := 45) d_M_lookAbsence_110 (by decide) ?_
      exact wp_pick [1, 2, 0] rfl h
    · replace h := h.2 hc
      refine wp_aload_n d_M_lookAbsence_69 (i := 0) rfl 0 rfl ?_
      refine wp_iload_n d_M_lookAbsence_70 (i := 2) rfl 2 rfl ?_
      refine wp_callV (A := [vi x2]) (S := []) d_M_lookAbsence_71 cv_M_lookAbsence_296 (ly_o hly (by decide)) rfl (Nat.le_of_ble_eq_true rfl) (by decide) (MetS.mono h (fun r w3 hh => ?_))
      obtain ⟨z4, er, h⟩ := hh
      subst er
      refine wp_ly (fun hly => ?_)
      refine wp_if_eq (tgt := 107) d_M_lookAbsence_74 (by decide) (fun hc => ?_) (fun hc => ?_)
      · replace h := h.1 hc
        obtain ⟨ho, h⟩ := h
        refine wp_iinc (L' := [(2, vi (x2 + 1)), (0, vr 78), (1, vi x1)]) d_M_lookAbsence_107 2 rfl rfl (by decide) ho ?_
        refine wp_goto (tgt := 45) d_M_lookAbsence_110 (by decide) ?_
        exact wp_pick [1, 2, 0] rfl h
      · replace h := h.2 hc
        refine wp_aload_n d_M_lookAbsence_77 (i := 0) rfl 0 rfl ?_
        refine wp_aload_n d_M_lookAbsence_78 (i := 0) rfl 0 rfl ?_
        refine wp_getP d_M_lookAbsence_79 fl_M_41 cl_9 rfl (ly_o hly (by decide)) (ly_r (v := 89) hly (by decide +kernel)) ?_
        refine wp_iload_n d_M_lookAbsence_82 (i := 1) rfl 1 rfl ?_
        obtain ⟨hi5, h⟩ := h
        refine wp_iaload d_M_lookAbsence_83 (ly_a (n := 61) (N := 61) hly (by decide) hi5) ?_
        refine wp_aload_n d_M_lookAbsence_84 (i := 0) rfl 0 rfl ?_
        refine wp_getP d_M_lookAbsence_85 fl_M_65 cl_9 rfl (ly_o hly (by decide)) (ly_r (v := 97) hly (by decide +kernel)) ?_
        refine wp_iload_n d_M_lookAbsence_88 (i := 2) rfl 2 rfl ?_
        obtain ⟨hi6, h⟩ := h
        refine wp_iaload d_M_lookAbsence_89 (ly_a (n := 366) (N := 366) hly (by decide) hi6) ?_
        refine wp_callV (A := [vi (gI w3 89 x1.toNat), vi (gI w3 97 x2.toNat)]) (S := []) d_M_lookAbsence_90 cv_M_lookAbsence_302 (ly_o hly (by decide)) rfl (Nat.le_of_ble_eq_true rfl) (by decide) (MetS.mono h (fun r w7 hh => ?_))
        obtain ⟨z8, er, h⟩ := hh
        subst er
        refine wp_ly (fun hly => ?_)
        refine wp_if_eq (tgt := 107) d_M_lookAbsence_93 (by decide) (fun hc => ?_) (fun hc => ?_)
        · replace h := h.1 hc
          obtain ⟨ho, h⟩ := h
          refine wp_iinc (L' := [(2, vi (x2 + 1)), (0, vr 78), (1, vi x1)]) d_M_lookAbsence_107 2 rfl rfl (by decide) ho ?_
          refine wp_goto (tgt := 45) d_M_lookAbsence_110 (by decide) ?_
          exact wp_pick [1, 2, 0] rfl h
        · replace h := h.2 hc
          refine wp_aload_n d_M_lookAbsence_96 (i := 0) rfl 0 rfl ?_
          refine wp_iconst d_M_lookAbsence_97 (by decide) ?_
          refine wp_aload_n d_M_lookAbsence_98 (i := 0) rfl 0 rfl ?_
          refine wp_getP d_M_lookAbsence_99 fl_M_105 cl_9 rfl (ly_o hly (by decide)) (ly_r (v := 110) hly (by decide +kernel)) ?_
          refine wp_iload_n d_M_lookAbsence_102 (i := 1) rfl 1 rfl ?_
          obtain ⟨hi9, h⟩ := h
          refine wp_iaload d_M_lookAbsence_103 (ly_a (n := 61) (N := 61) hly (by decide) hi9) ?_
          refine wp_callV (A := [vi 4, vi (gI w7 110 x1.toNat)]) (S := []) d_M_lookAbsence_104 cv_M_lookAbsence_214 (ly_o hly (by decide)) rfl (Nat.le_of_ble_eq_true rfl) (by decide) (MetS.mono h (fun r w10 hh => ?_))
          obtain ⟨er, h⟩ := hh
          subst er
          refine wp_ly (fun hly => ?_)
          obtain ⟨ho, h⟩ := h
          refine wp_iinc (L' := [(2, vi (x2 + 1)), (0, vr 78), (1, vi x1)]) d_M_lookAbsence_107 2 rfl rfl (by decide) ho ?_
          refine wp_goto (tgt := 45) d_M_lookAbsence_110 (by decide) ?_
          exact wp_pick [1, 2, 0] rfl h
set_option maxRecDepth 20000 in
set_option maxHeartbeats 2000000 in
theorem t_M_lookAbsence_118 {x1 : Int} {x2 : Int}  {w : Wo} {Q : Option AV → Wo → Prop} (h : inr32 (6 * x1) ∧ (0 ≤ x1 ∧ x1 < 61) ∧ inr32 ((6 * x1) + (gI w 94 x1.toNat)) ∧ ((((6 * x1) + (gI w 94 x1.toNat)) ≤ x2 → inr32 (x1 + 1) ∧ Wp m_M_lookAbsence 12 [(0, vr 78), (1, vi (x1 + 1))] [] (0, 0) w Q) ∧ (¬ ((6 * x1) + (gI w 94 x1.toNat)) ≤ x2 → (0 ≤ x2 ∧ x2 < 366) ∧ ((¬ (gI w 96 x2.toNat) = 1 → inr32 (x2 + 1) ∧ Wp m_M_lookAbsence 118 [(0, vr 78), (1, vi x1), (2, vi (x2 + 1))] [] (0, 0) w Q) ∧ ((gI w 96 x2.toNat) = 1 → (0 ≤ x1 ∧ x1 < 61) ∧ (0 ≤ x2 ∧ x2 < 366) ∧ MetI m_M_isBack [vr 78, vi (gI w 89 x1.toNat), vi (gI w 97 x2.toNat)] w (fun z6 w5 => ((z6 = 0 → inr32 (x2 + 1) ∧ Wp m_M_lookAbsence 118 [(0, vr 78), (1, vi x1), (2, vi (x2 + 1))] [] (0, 0) w5 Q) ∧ (¬ z6 = 0 → (0 ≤ x2 ∧ x2 < 366) ∧ MetV m_M_note [vr 78, vi 4, vi (gI w5 108 x2.toNat)] w5 (fun w8 => inr32 (x2 + 1) ∧ Wp m_M_lookAbsence 118 [(0, vr 78), (1, vi x1), (2, vi (x2 + 1))] [] (0, 0) w8 Q))))))))) : Wp m_M_lookAbsence 118 [(0, vr 78), (1, vi x1), (2, vi x2)] [] (0, 0) w Q := by
  refine wp_ly (fun hly => ?_)
  refine wp_iload_n d_M_lookAbsence_118 (i := 2) rfl 2 rfl ?_
  refine wp_bipush d_M_lookAbsence_119 (by decide) (by decide) ?_
  refine wp_iload_n d_M_lookAbsence_121 (i := 1) rfl 1 rfl ?_
  obtain ⟨ho, h⟩ := h
  refine wp_imul d_M_lookAbsence_122 ho ?_
  refine wp_aload_n d_M_lookAbsence_123 (i := 0) rfl 0 rfl ?_
  refine wp_getP d_M_lookAbsence_124 fl_M_56 cl_9 rfl (ly_o hly (by decide)) (ly_r (v := 94) hly (by decide +kernel)) ?_
  refine wp_iload_n d_M_lookAbsence_127 (i := 1) rfl 1 rfl ?_
  obtain ⟨hi1, h⟩ := h
  refine wp_iaload d_M_lookAbsence_128 (ly_a (n := 61) (N := 61) hly (by decide) hi1) ?_
  obtain ⟨ho, h⟩ := h
  refine wp_iadd d_M_lookAbsence_129 ho ?_
  refine wp_icmp_ge (tgt := 179) d_M_lookAbsence_130 (by decide) (fun hc => ?_) (fun hc => ?_)
  · replace h := h.1 hc
    obtain ⟨ho, h⟩ := h
    refine wp_iinc (L' := [(1, vi (x1 + 1)), (0, vr 78), (2, vi x2)]) d_M_lookAbsence_179 1 rfl rfl (by decide) ho ?_
    refine wp_goto (tgt := 12) d_M_lookAbsence_182 (by decide) ?_
    exact wp_pick [1, 0] rfl h
  · replace h := h.2 hc
    refine wp_aload_n d_M_lookAbsence_133 (i := 0) rfl 0 rfl ?_
    refine wp_getP d_M_lookAbsence_134 fl_M_62 cl_9 rfl (ly_o hly (by decide)) (ly_r (v := 96) hly (by decide +kernel)) ?_
    refine wp_iload_n d_M_lookAbsence_137 (i := 2) rfl 2 rfl ?_
    obtain ⟨hi2, h⟩ := h
    refine wp_iaload d_M_lookAbsence_138 (ly_a (n := 366) (N := 366) hly (by decide) hi2) ?_
    refine wp_iconst d_M_lookAbsence_139 (by decide) ?_
    refine wp_icmp_ne (tgt := 173) d_M_lookAbsence_140 (by decide) (fun hc => ?_) (fun hc => ?_)
    · replace h := h.1 hc
      obtain ⟨ho, h⟩ := h
      refine wp_iinc (L' := [(2, vi (x2 + 1)), (0, vr 78), (1, vi x1)]) d_M_lookAbsence_173 2 rfl rfl (by decide) ho ?_
      refine wp_goto (tgt := 118) d_M_lookAbsence_176 (by decide) ?_
      exact wp_pick [1, 2, 0] rfl h
    · replace h := h.2 hc
      refine wp_aload_n d_M_lookAbsence_143 (i := 0) rfl 0 rfl ?_
      refine wp_aload_n d_M_lookAbsence_144 (i := 0) rfl 0 rfl ?_
      refine wp_getP d_M_lookAbsence_145 fl_M_41 cl_9 rfl (ly_o hly (by decide)) (ly_r (v := 89) hly (by decide +kernel)) ?_
      refine wp_iload_n d_M_lookAbsence_148 (i := 1) rfl 1 rfl ?_
      obtain ⟨hi3, h⟩ := h
      refine wp_iaload d_M_lookAbsence_149 (ly_a (n := 61) (N := 61) hly (by decide) hi3) ?_
      refine wp_aload_n d_M_lookAbsence_150 (i := 0) rfl 0 rfl ?_
      refine wp_getP d_M_lookAbsence_151 fl_M_65 cl_9 rfl (ly_o hly (by decide)) (ly_r (v := 97) hly (by decide +kernel)) ?_
      refine wp_iload_n d_M_lookAbsence_154 (i := 2) rfl 2 rfl ?_
      obtain ⟨hi4, h⟩ := h
      refine wp_iaload d_M_lookAbsence_155 (ly_a (n := 366) (N := 366) hly (by decide) hi4) ?_
      refine wp_callV (A := [vi (gI w 89 x1.toNat), vi (gI w 97 x2.toNat)]) (S := []) d_M_lookAbsence_156 cv_M_lookAbsence_302 (ly_o hly (by decide)) rfl (Nat.le_of_ble_eq_true rfl) (by decide) (MetS.mono h (fun r w5 hh => ?_))
      obtain ⟨z6, er, h⟩ := hh
      subst er
      refine wp_ly (fun hly => ?_)
      refine wp_if_eq (tgt := 173) d_M_lookAbsence_159 (by decide) (fun hc => ?_) (fun hc => ?_)
      · replace h := h.1 hc
        obtain ⟨ho, h⟩ := h
        refine wp_iinc (L' := [(2, vi (x2 + 1)), (0, vr 78), (1, vi x1)]) d_M_lookAbsence_173 2 rfl rfl (by decide) ho ?_
        refine wp_goto (tgt := 118) d_M_lookAbsence_176 (by decide) ?_
        exact wp_pick [1, 2, 0] rfl h
      · replace h := h.2 hc
        refine wp_aload_n d_M_lookAbsence_162 (i := 0) rfl 0 rfl ?_
        refine wp_iconst d_M_lookAbsence_163 (by decide) ?_
        refine wp_aload_n d_M_lookAbsence_164 (i := 0) rfl 0 rfl ?_
        refine wp_getP d_M_lookAbsence_165 fl_M_99 cl_9 rfl (ly_o hly (by decide)) (ly_r (v := 108) hly (by decide +kernel)) ?_
        refine wp_iload_n d_M_lookAbsence_168 (i := 2) rfl 2 rfl ?_
        obtain ⟨hi7, h⟩ := h
        refine wp_iaload d_M_lookAbsence_169 (ly_a (n := 366) (N := 366) hly (by decide) hi7) ?_
        refine wp_callV (A := [vi 4, vi (gI w5 108 x2.toNat)]) (S := []) d_M_lookAbsence_170 cv_M_lookAbsence_214 (ly_o hly (by decide)) rfl (Nat.le_of_ble_eq_true rfl) (by decide) (MetS.mono h (fun r w8 hh => ?_))
        obtain ⟨er, h⟩ := hh
        subst er
        refine wp_ly (fun hly => ?_)
        obtain ⟨ho, h⟩ := h
        refine wp_iinc (L' := [(2, vi (x2 + 1)), (0, vr 78), (1, vi x1)]) d_M_lookAbsence_173 2 rfl rfl (by decide) ho ?_
        refine wp_goto (tgt := 118) d_M_lookAbsence_176 (by decide) ?_
        exact wp_pick [1, 2, 0] rfl h
set_option maxRecDepth 20000 in
set_option maxHeartbeats 2000000 in
theorem t_M_lookStrata_0   {w : Wo} {Q : Option AV → Wo → Prop} (h : inr32 (16 * (gI w 78 37)) ∧ Wp m_M_lookStrata 10 [(0, vr 78), (1, vi (16 * (gI w 78 37))), (2, vi (16 * (gI w 78 37)))] [] (0, 0) w Q) : Wp m_M_lookStrata 0 [(0, vr 78)] [] (0, 0) w Q := by
  refine wp_ly (fun hly => ?_)
  refine wp_bipush d_M_lookStrata_0 (by decide) (by decide) ?_
  refine wp_aload_n d_M_lookStrata_2 (i := 0) rfl 0 rfl ?_
  refine wp_getI d_M_lookStrata_3 fl_M_211 cl_9 rfl (ly_o hly (by decide)) ?_
  obtain ⟨ho, h⟩ := h
  refine wp_imul d_M_lookStrata_6 ho ?_
  refine wp_istore_n (L' := [(1, vi (16 * (gI w 78 37))), (0, vr 78)]) d_M_lookStrata_7 (i := 1) rfl rfl (by decide) ?_
  refine wp_iload_n d_M_lookStrata_8 (i := 1) rfl 0 rfl ?_
  refine wp_istore_n (L' := [(2, vi (16 * (gI w 78 37))), (1, vi (16 * (gI w 78 37))), (0, vr 78)]) d_M_lookStrata_9 (i := 2) rfl rfl (by decide) ?_
  exact wp_pick [2, 1, 0] rfl h
set_option maxRecDepth 20000 in
set_option maxHeartbeats 2000000 in
theorem t_M_lookStrata_10 {x1 : Int} {x2 : Int}  {w : Wo} {Q : Option AV → Wo → Prop} (h : inr32 (x1 + 16) ∧ (((x1 + 16) ≤ x2 → Wp m_M_lookStrata 33 [(0, vr 78), (1, vi x1), (2, vi 1)] [] (0, 0) w Q) ∧ (¬ (x1 + 16) ≤ x2 → (0 ≤ x2 ∧ x2 < 32) ∧ (∀ w2 : Wo, w2 = uI w 87 x2.toNat 0 → inr32 (x2 + 1) ∧ Wp m_M_lookStrata 10 [(0, vr 78), (1, vi x1), (2, vi (x2 + 1))] [] (0, 0) w2 Q)))) : Wp m_M_lookStrata 10 [(0, vr 78), (1, vi x1), (2, vi x2)] [] (0, 0) w Q := by
  refine wp_ly (fun hly => ?_)
  refine wp_iload_n d_M_lookStrata_10 (i := 2) rfl 2 rfl ?_
  refine wp_iload_n d_M_lookStrata_11 (i := 1) rfl 1 rfl ?_
  refine wp_bipush d_M_lookStrata_12 (by decide) (by decide) ?_
  obtain ⟨ho, h⟩ := h
  refine wp_iadd d_M_lookStrata_14 ho ?_
  refine wp_icmp_ge (tgt := 31) d_M_lookStrata_15 (by decide) (fun hc => ?_) (fun hc => ?_)
  · replace h := h.1 hc
    refine wp_iconst d_M_lookStrata_31 (by decide) ?_
    refine wp_istore_n (L' := [(2, vi 1), (0, vr 78), (1, vi x1)]) d_M_lookStrata_32 (i := 2) rfl rfl (by decide) ?_
    exact wp_pick [1, 2, 0] rfl h
  · replace h := h.2 hc
    refine wp_aload_n d_M_lookStrata_18 (i := 0) rfl 0 rfl ?_
    refine wp_getP d_M_lookStrata_19 fl_M_35 cl_9 rfl (ly_o hly (by decide)) (ly_r (v := 87) hly (by decide +kernel)) ?_
    refine wp_iload_n d_M_lookStrata_22 (i := 2) rfl 2 rfl ?_
    refine wp_iconst d_M_lookStrata_23 (by decide) ?_
    obtain ⟨hi1, h⟩ := h
    refine wp_iastore d_M_lookStrata_24 (ly_a (n := 32) (N := 32) hly (by decide) hi1) (fun w2 e3 => ?_)
    replace h := h w2 e3
    refine wp_ly (fun hly => ?_)
    obtain ⟨ho, h⟩ := h
    refine wp_iinc (L' := [(2, vi (x2 + 1)), (0, vr 78), (1, vi x1)]) d_M_lookStrata_25 2 rfl rfl (by decide) ho ?_
    refine wp_goto (tgt := 10) d_M_lookStrata_28 (by decide) ?_
    exact wp_pick [1, 2, 0] rfl h
set_option maxRecDepth 20000 in
set_option maxHeartbeats 2000000 in
theorem t_M_lookStrata_33 {x1 : Int} {x2 : Int}  {w : Wo} {Q : Option AV → Wo → Prop} (h : ((x2 = 0 → Q none w) ∧ (¬ x2 = 0 → inr32 (30 * (gI w 78 37)) ∧ Wp m_M_lookStrata 47 [(0, vr 78), (1, vi x1), (2, vi 0), (3, vi (30 * (gI w 78 37)))] [] (0, 0) w Q))) : Wp m_M_lookStrata 33 [(0, vr 78), (1, vi x1), (2, vi x2)] [] (0, 0) w Q := by
  refine wp_ly (fun hly => ?_)
  refine wp_iload_n d_M_lookStrata_33 (i := 2) rfl 2 rfl ?_
  refine wp_if_eq (tgt := 197) d_M_lookStrata_34 (by decide) (fun hc => ?_) (fun hc => ?_)
  · replace h := h.1 hc
    exact wp_vret d_M_lookStrata_197 rfl (by decide) h
  · replace h := h.2 hc
    refine wp_iconst d_M_lookStrata_37 (by decide) ?_
    refine wp_istore_n (L' := [(2, vi 0), (0, vr 78), (1, vi x1)]) d_M_lookStrata_38 (i := 2) rfl rfl (by decide) ?_
    refine wp_bipush d_M_lookStrata_39 (by decide) (by decide) ?_
    refine wp_aload_n d_M_lookStrata_41 (i := 0) rfl 1 rfl ?_
    refine wp_getI d_M_lookStrata_42 fl_M_211 cl_9 rfl (ly_o hly (by decide)) ?_
    obtain ⟨ho, h⟩ := h
    refine wp_imul d_M_lookStrata_45 ho ?_
    refine wp_istore_n (L' := [(3, vi (30 * (gI w 78 37))), (2, vi 0), (0, vr 78), (1, vi x1)]) d_M_lookStrata_46 (i := 3) rfl rfl (by decide) ?_
    exact wp_pick [2, 3, 1, 0] rfl h
set_option maxRecDepth 20000 in
set_option maxHeartbeats 2000000 in
theorem t_M_lookStrata_47 {x1 : Int} {x2 : Int} {x3 : Int}  {w : Wo} {Q : Option AV → Wo → Prop} (h : inr32 (30 * (gI w 78 37)) ∧ (0 ≤ (gI w 78 37) ∧ (gI w 78 37) < 2) ∧ inr32 ((30 * (gI w 78 37)) + (gI w 88 (gI w 78 37).toNat)) ∧ ((((30 * (gI w 78 37)) + (gI w 88 (gI w 78 37).toNat)) ≤ x3 → Wp m_M_lookStrata 33 [(0, vr 78), (1, vi x1), (2, vi x2)] [] (0, 0) w Q) ∧ (¬ ((30 * (gI w 78 37)) + (gI w 88 (gI w 78 37).toNat)) ≤ x3 → inr32 (6 * x3) ∧ Wp m_M_lookStrata 74 [(0, vr 78), (1, vi x1), (2, vi x2), (3, vi x3), (4, vi (6 * x3))] [] (0, 0) w Q))) : Wp m_M_lookStrata 47 [(0, vr 78), (1, vi x1), (2, vi x2), (3, vi x3)] [] (0, 0) w Q := by
  refine wp_ly (fun hly => ?_)
  refine wp_iload_n d_M_lookStrata_47 (i := 3) rfl 3 rfl ?_
  refine wp_bipush d_M_lookStrata_48 (by decide) (by decide) ?_
  refine wp_aload_n d_M_lookStrata_50 (i := 0) rfl 0 rfl ?_
  refine wp_getI d_M_lookStrata_51 fl_M_211 cl_9 rfl (ly_o hly (by decide)) ?_
  obtain ⟨ho, h⟩ := h
  refine wp_imul d_M_lookStrata_54 ho ?_
  refine wp_aload_n d_M_lookStrata_55 (i := 0) rfl 0 rfl ?_
  refine wp_getP d_M_lookStrata_56 fl_M_38 cl_9 rfl (ly_o hly (by decide)) (ly_r (v := 88) hly (by decide +kernel)) ?_
  refine wp_aload_n d_M_lookStrata_59 (i := 0) rfl 0 rfl ?_
  refine wp_getI d_M_lookStrata_60 fl_M_211 cl_9 rfl (ly_o hly (by decide)) ?_
  obtain ⟨hi1, h⟩ := h
  refine wp_iaload d_M_lookStrata_63 (ly_a (n := 2) (N := 2) hly (by decide) hi1) ?_
  obtain ⟨ho, h⟩ := h
  refine wp_iadd d_M_lookStrata_64 ho ?_
  refine wp_icmp_ge (tgt := 194) d_M_lookStrata_65 (by decide) (fun hc => ?_) (fun hc => ?_)
  · replace h := h.1 hc
    refine wp_goto (tgt := 33) d_M_lookStrata_194 (by decide) ?_
    exact wp_pick [0, 1, 2] rfl h
  · replace h := h.2 hc
    refine wp_bipush d_M_lookStrata_68 (by decide) (by decide) ?_
    refine wp_iload_n d_M_lookStrata_70 (i := 3) rfl 3 rfl ?_
    obtain ⟨ho, h⟩ := h
    refine wp_imul d_M_lookStrata_71 ho ?_
    refine wp_istore (L' := [(4, vi (6 * x3)), (0, vr 78), (1, vi x1), (2, vi x2), (3, vi x3)]) d_M_lookStrata_72 rfl (by decide) ?_
    exact wp_pick [1, 2, 3, 4, 0] rfl h
set_option maxRecDepth 20000 in
set_option maxHeartbeats 2000000 in
theorem t_M_lookStrata_74 {x1 : Int} {x2 : Int} {x3 : Int} {x4 : Int}  {w : Wo} {Q : Option AV → Wo → Prop} (h : inr32 (6 * x3) ∧ (0 ≤ x3 ∧ x3 < 61) ∧ inr32 ((6 * x3) + (gI w 94 x3.toNat)) ∧ ((((6 * x3) + (gI w 94 x3.toNat)) ≤ x4 → inr32 (x3 + 1) ∧ Wp m_M_lookStrata 47 [(0, vr 78), (1, vi x1), (2, vi x2), (3, vi (x3 + 1))] [] (0, 0) w Q) ∧ (¬ ((6 * x3) + (gI w 94 x3.toNat)) ≤ x4 → MetI m_M_isAtom [vr 78, vi x4] w (fun z3 w2 => ((¬ z3 = 0 → (0 ≤ x4 ∧ x4 < 366) ∧ inr32 (x1 + (gI w2 97 x4.toNat)) ∧ (0 ≤ (x1 + (gI w2 97 x4.toNat)) ∧ (x1 + (gI w2 97 x4.toNat)) < 32) ∧ (0 ≤ x4 ∧ x4 < 366) ∧ (((gI w2 96 x4.toNat) = 1 → Wp m_M_lookStrata 136 [(0, vr 78), (1, vi x1), (2, vi x2), (3, vi x3), (4, vi x4)] [vi (gI w2 87 (x1 + (gI w2 97 x4.toNat)).toNat)] (0, 0) w2 Q) ∧ (¬ (gI w2 96 x4.toNat) = 1 → (0 ≤ x3 ∧ x3 < 61) ∧ (((gI w2 92 x3.toNat) ≤ 0 → Wp m_M_lookStrata 141 [(0, vr 78), (1, vi x1), (2, vi x2), (3, vi x3), (4, vi x4)] [vi 0, vi (gI w2 87 (x1 + (gI w2 97 x4.toNat)).toNat)] (0, 0) w2 Q) ∧ (¬ (gI w2 92 x3.toNat) ≤ 0 → Wp m_M_lookStrata 136 [(0, vr 78), (1, vi x1), (2, vi x2), (3, vi x3), (4, vi x4)] [vi (gI w2 87 (x1 + (gI w2 97 x4.toNat)).toNat)] (0, 0) w2 Q))))) ∧ (z3 = 0 → inr32 (x4 + 1) ∧ Wp m_M_lookStrata 74 [(0, vr 78), (1, vi x1), (2, vi x2), (3, vi x3), (4, vi (x4 + 1))] [] (0, 0) w2 Q)))))) : Wp m_M_lookStrata 74 [(0, vr 78), (1, vi x1), (2, vi x2), (3, vi x3), (4, vi x4)] [] (0, 0) w Q := by
  refine wp_ly (fun hly => ?_)
  refine wp_iload d_M_lookStrata_74 4 rfl ?_
  refine wp_bipush d_M_lookStrata_76 (by decide) (by decide) ?_
  refine wp_iload_n d_M_lookStrata_78 (i := 3) rfl 3 rfl ?_
  obtain ⟨ho, h⟩ := h
  refine wp_imul d_M_lookStrata_79 ho ?_
  refine wp_aload_n d_M_lookStrata_80 (i := 0) rfl 0 rfl ?_
  refine wp_getP d_M_lookStrata_81 fl_M_56 cl_9 rfl (ly_o hly (by decide)) (ly_r (v := 94) hly (by decide +kernel)) ?_
  refine wp_iload_n d_M_lookStrata_84 (i := 3) rfl 3 rfl ?_
  obtain ⟨hi1, h⟩ := h
  refine wp_iaload d_M_lookStrata_85 (ly_a (n := 61) (N := 61) hly (by decide) hi1) ?_
  obtain ⟨ho, h⟩ := h
  refine wp_iadd d_M_lookStrata_86 ho ?_
  refine wp_icmp_ge (tgt := 188) d_M_lookStrata_87 (by decide) (fun hc => ?_) (fun hc => ?_)
  · replace h := h.1 hc
    obtain ⟨ho, h⟩ := h
    refine wp_iinc (L' := [(3, vi (x3 + 1)), (0, vr 78), (1, vi x1), (2, vi x2), (4, vi x4)]) d_M_lookStrata_188 3 rfl rfl (by decide) ho ?_
    refine wp_goto (tgt := 47) d_M_lookStrata_191 (by decide) ?_
    exact wp_pick [1, 2, 3, 0] rfl h
  · replace h := h.2 hc
    refine wp_aload_n d_M_lookStrata_90 (i := 0) rfl 0 rfl ?_
    refine wp_iload d_M_lookStrata_91 4 rfl ?_
    refine wp_callV (A := [vi x4]) (S := []) d_M_lookStrata_93 cv_M_lookStrata_296 (ly_o hly (by decide)) rfl (Nat.le_of_ble_eq_true rfl) (by decide) (MetS.mono h (fun r w2 hh => ?_))
    obtain ⟨z3, er, h⟩ := hh
    subst er
    refine wp_ly (fun hly => ?_)
    refine wp_if_ne (tgt := 102) d_M_lookStrata_96 (by decide) (fun hc => ?_) (fun hc => ?_)
    · replace h := h.1 hc
      refine wp_aload_n d_M_lookStrata_102 (i := 0) rfl 0 rfl ?_
      refine wp_getP d_M_lookStrata_103 fl_M_35 cl_9 rfl (ly_o hly (by decide)) (ly_r (v := 87) hly (by decide +kernel)) ?_
      refine wp_iload_n d_M_lookStrata_106 (i := 1) rfl 1 rfl ?_
      refine wp_aload_n d_M_lookStrata_107 (i := 0) rfl 0 rfl ?_
      refine wp_getP d_M_lookStrata_108 fl_M_65 cl_9 rfl (ly_o hly (by decide)) (ly_r (v := 97) hly (by decide +kernel)) ?_
      refine wp_iload d_M_lookStrata_111 4 rfl ?_
      obtain ⟨hi4, h⟩ := h
      refine wp_iaload d_M_lookStrata_113 (ly_a (n := 366) (N := 366) hly (by decide) hi4) ?_
      obtain ⟨ho, h⟩ := h
      refine wp_iadd d_M_lookStrata_114 ho ?_
      obtain ⟨hi5, h⟩ := h
      refine wp_iaload d_M_lookStrata_115 (ly_a (n := 32) (N := 32) hly (by decide) hi5) ?_
      refine wp_aload_n d_M_lookStrata_116 (i := 0) rfl 0 rfl ?_
      refine wp_getP d_M_lookStrata_117 fl_M_62 cl_9 rfl (ly_o hly (by decide)) (ly_r (v := 96) hly (by decide +kernel)) ?_
      refine wp_iload d_M_lookStrata_120 4 rfl ?_
      obtain ⟨hi6, h⟩ := h
      refine wp_iaload d_M_lookStrata_122 (ly_a (n := 366) (N := 366) hly (by decide) hi6) ?_
      refine wp_iconst d_M_lookStrata_123 (by decide) ?_
      refine wp_icmp_eq (tgt := 136) d_M_lookStrata_124 (by decide) (fun hc => ?_) (fun hc => ?_)
      · replace h := h.1 hc
        exact h
      · replace h := h.2 hc
        refine wp_aload_n d_M_lookStrata_127 (i := 0) rfl 0 rfl ?_
        refine wp_getP d_M_lookStrata_128 fl_M_50 cl_9 rfl (ly_o hly (by decide)) (ly_r (v := 92) hly (by decide +kernel)) ?_
        refine wp_iload_n d_M_lookStrata_131 (i := 3) rfl 3 rfl ?_
        obtain ⟨hi7, h⟩ := h
        refine wp_iaload d_M_lookStrata_132 (ly_a (n := 61) (N := 61) hly (by decide) hi7) ?_
        refine wp_if_le (tgt := 140) d_M_lookStrata_133 (by decide) (fun hc => ?_) (fun hc => ?_)
        · replace h := h.1 hc
          refine wp_iconst d_M_lookStrata_140 (by decide) ?_
          exact h
        · replace h := h.2 hc
          exact h
    · replace h := h.2 hc
      refine wp_goto (tgt := 182) d_M_lookStrata_99 (by decide) ?_
      obtain ⟨ho, h⟩ := h
      refine wp_iinc (L' := [(4, vi (x4 + 1)), (0, vr 78), (1, vi x1), (2, vi x2), (3, vi x3)]) d_M_lookStrata_182 4 rfl rfl (by decide) ho ?_
      refine wp_goto (tgt := 74) d_M_lookStrata_185 (by decide) ?_
      exact wp_pick [1, 2, 3, 4, 0] rfl h
set_option maxRecDepth 20000 in
set_option maxHeartbeats 2000000 in
theorem t_M_lookStrata_136 {x1 : Int} {x2 : Int} {x3 : Int} {x4 : Int} {s0 : Int}  {w : Wo} {Q : Option AV → Wo → Prop} (h : Wp m_M_lookStrata 141 [(0, vr 78), (1, vi x1), (2, vi x2), (3, vi x3), (4, vi x4)] [vi 1, vi s0] (0, 0) w Q) : Wp m_M_lookStrata 136 [(0, vr 78), (1, vi x1), (2, vi x2), (3, vi x3), (4, vi x4)] [vi s0] (0, 0) w Q := by
  refine wp_ly (fun hly => ?_)
  refine wp_iconst d_M_lookStrata_136 (by decide) ?_
  refine wp_goto (tgt := 141) d_M_lookStrata_137 (by decide) ?_
  exact h
set_option maxRecDepth 20000 in
set_option maxHeartbeats 2000000 in
theorem t_M_lookStrata_141 {x1 : Int} {x2 : Int} {x3 : Int} {x4 : Int} {s0 : Int} {s1 : Int}  {w : Wo} {Q : Option AV → Wo → Prop} (h : inr32 (s0 + s1) ∧ (0 ≤ x3 ∧ x3 < 61) ∧ inr32 (x1 + (gI w 89 x3.toNat)) ∧ (0 ≤ (x1 + (gI w 89 x3.toNat)) ∧ (x1 + (gI w 89 x3.toNat)) < 32) ∧ (((gI w 87 (x1 + (gI w 89 x3.toNat)).toNat) < (s0 + s1) → (0 ≤ x3 ∧ x3 < 61) ∧ inr32 (x1 + (gI w 89 x3.toNat)) ∧ (0 ≤ (x1 + (gI w 89 x3.toNat)) ∧ (x1 + (gI w 89 x3.toNat)) < 32) ∧ (∀ w5 : Wo, w5 = uI w 87 (x1 + (gI w 89 x3.toNat)).toNat (s0 + s1) → inr32 (x4 + 1) ∧ Wp m_M_lookStrata 74 [(0, vr 78), (1, vi x1), (2, vi 1), (3, vi x3), (4, vi (x4 + 1))] [] (0, 0) w5 Q)) ∧ (¬ (gI w 87 (x1 + (gI w 89 x3.toNat)).toNat) < (s0 + s1) → inr32 (x4 + 1) ∧ Wp m_M_lookStrata 74 [(0, vr 78), (1, vi x1), (2, vi x2), (3, vi x3), (4, vi (x4 + 1))] [] (0, 0) w Q))) : Wp m_M_lookStrata 141 [(0, vr 78), (1, vi x1), (2, vi x2), (3, vi x3), (4, vi x4)] [vi s1, vi s0] (0, 0) w Q := by
  refine wp_ly (fun hly => ?_)
  obtain ⟨ho, h⟩ := h
  refine wp_iadd d_M_lookStrata_141 ho ?_
  refine wp_istore (L' := [(5, vi (s0 + s1)), (0, vr 78), (1, vi x1), (2, vi x2), (3, vi x3), (4, vi x4)]) d_M_lookStrata_142 rfl (by decide) ?_
  refine wp_aload_n d_M_lookStrata_144 (i := 0) rfl 1 rfl ?_
  refine wp_getP d_M_lookStrata_145 fl_M_35 cl_9 rfl (ly_o hly (by decide)) (ly_r (v := 87) hly (by decide +kernel)) ?_
  refine wp_iload_n d_M_lookStrata_148 (i := 1) rfl 2 rfl ?_
  refine wp_aload_n d_M_lookStrata_149 (i := 0) rfl 1 rfl ?_
  refine wp_getP d_M_lookStrata_150 fl_M_41 cl_9 rfl (ly_o hly (by decide)) (ly_r (v := 89) hly (by decide +kernel)) ?_
  refine wp_iload_n d_M_lookStrata_153 (i := 3) rfl 4 rfl ?_
  obtain ⟨hi1, h⟩ := h
  refine wp_iaload d_M_lookStrata_154 (ly_a (n := 61) (N := 61) hly (by decide) hi1) ?_
  obtain ⟨ho, h⟩ := h
  refine wp_iadd d_M_lookStrata_155 ho ?_
  obtain ⟨hi2, h⟩ := h
  refine wp_iaload d_M_lookStrata_156 (ly_a (n := 32) (N := 32) hly (by decide) hi2) ?_
  refine wp_iload d_M_lookStrata_157 0 rfl ?_
  refine wp_icmp_lt (tgt := 165) d_M_lookStrata_159 (by decide) (fun hc => ?_) (fun hc => ?_)
  · replace h := h.1 hc
    refine wp_aload_n d_M_lookStrata_165 (i := 0) rfl 1 rfl ?_
    refine wp_getP d_M_lookStrata_166 fl_M_35 cl_9 rfl (ly_o hly (by decide)) (ly_r (v := 87) hly (by decide +kernel)) ?_
    refine wp_iload_n d_M_lookStrata_169 (i := 1) rfl 2 rfl ?_
    refine wp_aload_n d_M_lookStrata_170 (i := 0) rfl 1 rfl ?_
    refine wp_getP d_M_lookStrata_171 fl_M_41 cl_9 rfl (ly_o hly (by decide)) (ly_r (v := 89) hly (by decide +kernel)) ?_
    refine wp_iload_n d_M_lookStrata_174 (i := 3) rfl 4 rfl ?_
    obtain ⟨hi3, h⟩ := h
    refine wp_iaload d_M_lookStrata_175 (ly_a (n := 61) (N := 61) hly (by decide) hi3) ?_
    obtain ⟨ho, h⟩ := h
    refine wp_iadd d_M_lookStrata_176 ho ?_
    refine wp_iload d_M_lookStrata_177 0 rfl ?_
    obtain ⟨hi4, h⟩ := h
    refine wp_iastore d_M_lookStrata_179 (ly_a (n := 32) (N := 32) hly (by decide) hi4) (fun w5 e6 => ?_)
    replace h := h w5 e6
    refine wp_ly (fun hly => ?_)
    refine wp_iconst d_M_lookStrata_180 (by decide) ?_
    refine wp_istore_n (L' := [(2, vi 1), (5, vi (s0 + s1)), (0, vr 78), (1, vi x1), (3, vi x3), (4, vi x4)]) d_M_lookStrata_181 (i := 2) rfl rfl (by decide) ?_
    obtain ⟨ho, h⟩ := h
    refine wp_iinc (L' := [(4, vi (x4 + 1)), (2, vi 1), (5, vi (s0 + s1)), (0, vr 78), (1, vi x1), (3, vi x3)]) d_M_lookStrata_182 5 rfl rfl (by decide) ho ?_
    refine wp_goto (tgt := 74) d_M_lookStrata_185 (by decide) ?_
    exact wp_pick [3, 4, 1, 5, 0] rfl h
  · replace h := h.2 hc
    refine wp_goto (tgt := 182) d_M_lookStrata_162 (by decide) ?_
    obtain ⟨ho, h⟩ := h
    refine wp_iinc (L' := [(4, vi (x4 + 1)), (5, vi (s0 + s1)), (0, vr 78), (1, vi x1), (2, vi x2), (3, vi x3)]) d_M_lookStrata_182 5 rfl rfl (by decide) ho ?_
    refine wp_goto (tgt := 74) d_M_lookStrata_185 (by decide) ?_
    exact wp_pick [2, 3, 4, 5, 0] rfl h
set_option maxRecDepth 20000 in
set_option maxHeartbeats 2000000 in
theorem t_M_program_0   {w : Wo} {Q : Option AV → Wo → Prop} (h : (∀ w1 : Wo, w1 = uI w 78 3 0 → (∀ w3 : Wo, w3 = uI w1 78 4 0 → MetV m_M_tokenize [vr 78] w3 (fun w5 => (∀ w6 : Wo, w6 = uI w5 78 2 0 → (∀ w8 : Wo, w8 = uI w6 78 10 0 → inr32 (1 - (gI w8 78 11)) ∧ (∀ w10 : Wo, w10 = uI w8 78 37 (1 - (gI w8 78 11)) → (0 ≤ (gI w10 78 37) ∧ (gI w10 78 37) < 2) ∧ (∀ w13 : Wo, w13 = uI w10 84 (gI w10 78 37).toNat 0 → (0 ≤ (gI w13 78 37) ∧ (gI w13 78 37) < 2) ∧ (∀ w16 : Wo, w16 = uI w13 88 (gI w13 78 37).toNat 0 → (0 ≤ (gI w16 78 37) ∧ (gI w16 78 37) < 2) ∧ (∀ w19 : Wo, w19 = uI w16 100 (gI w16 78 37).toNat 0 → Wp m_M_program 66 [(0, vr 78), (1, vi 1)] [] (0, 0) w19 Q)))))))))) : Wp m_M_program 0 [(0, vr 78)] [] (0, 0) w Q := by
  refine wp_ly (fun hly => ?_)
  refine wp_aload_n d_M_program_0 (i := 0) rfl 0 rfl ?_
  refine wp_iconst d_M_program_1 (by decide) ?_
  refine wp_putI d_M_program_2 fl_M_174 cl_9 ⟨rfl, rfl⟩ (ly_o hly (by decide)) (fun w1 e2 => ?_)
  replace h := h w1 e2
  refine wp_ly (fun hly => ?_)
  refine wp_aload_n d_M_program_5 (i := 0) rfl 0 rfl ?_
  refine wp_iconst d_M_program_6 (by decide) ?_
  refine wp_putI d_M_program_7 fl_M_177 cl_9 ⟨rfl, rfl⟩ (ly_o hly (by decide)) (fun w3 e4 => ?_)
  replace h := h w3 e4
  refine wp_ly (fun hly => ?_)
  refine wp_aload_n d_M_program_10 (i := 0) rfl 0 rfl ?_
  refine wp_callV (A := []) (S := []) d_M_program_11 cv_M_program_305 (ly_o hly (by decide)) rfl (Nat.le_of_ble_eq_true rfl) (by decide) (MetS.mono h (fun r w5 hh => ?_))
  obtain ⟨er, h⟩ := hh
  subst er
  refine wp_ly (fun hly => ?_)
  refine wp_aload_n d_M_program_14 (i := 0) rfl 0 rfl ?_
  refine wp_iconst d_M_program_15 (by decide) ?_
  refine wp_putI d_M_program_16 fl_M_130 cl_9 ⟨rfl, rfl⟩ (ly_o hly (by decide)) (fun w6 e7 => ?_)
  replace h := h w6 e7
  refine wp_ly (fun hly => ?_)
  refine wp_aload_n d_M_program_19 (i := 0) rfl 0 rfl ?_
  refine wp_iconst d_M_program_20 (by decide) ?_
  refine wp_putI d_M_program_21 fl_M_180 cl_9 ⟨rfl, rfl⟩ (ly_o hly (by decide)) (fun w8 e9 => ?_)
  replace h := h w8 e9
  refine wp_ly (fun hly => ?_)
  refine wp_aload_n d_M_program_24 (i := 0) rfl 0 rfl ?_
  refine wp_iconst d_M_program_25 (by decide) ?_
  refine wp_aload_n d_M_program_26 (i := 0) rfl 0 rfl ?_
  refine wp_getI d_M_program_27 fl_M_308 cl_9 rfl (ly_o hly (by decide)) ?_
  obtain ⟨ho, h⟩ := h
  refine wp_isub d_M_program_30 ho ?_
  refine wp_putI d_M_program_31 fl_M_211 cl_9 ⟨rfl, rfl⟩ (ly_o hly (by decide)) (fun w10 e11 => ?_)
  replace h := h w10 e11
  refine wp_ly (fun hly => ?_)
  refine wp_aload_n d_M_program_34 (i := 0) rfl 0 rfl ?_
  refine wp_getP d_M_program_35 fl_M_26 cl_9 rfl (ly_o hly (by decide)) (ly_r (v := 84) hly (by decide +kernel)) ?_
  refine wp_aload_n d_M_program_38 (i := 0) rfl 0 rfl ?_
  refine wp_getI d_M_program_39 fl_M_211 cl_9 rfl (ly_o hly (by decide)) ?_
  refine wp_iconst d_M_program_42 (by decide) ?_
  obtain ⟨hi12, h⟩ := h
  refine wp_iastore d_M_program_43 (ly_a (n := 2) (N := 2) hly (by decide) hi12) (fun w13 e14 => ?_)
  replace h := h w13 e14
  refine wp_ly (fun hly => ?_)
  refine wp_aload_n d_M_program_44 (i := 0) rfl 0 rfl ?_
  refine wp_getP d_M_program_45 fl_M_38 cl_9 rfl (ly_o hly (by decide)) (ly_r (v := 88) hly (by decide +kernel)) ?_
  refine wp_aload_n d_M_program_48 (i := 0) rfl 0 rfl ?_
  refine wp_getI d_M_program_49 fl_M_211 cl_9 rfl (ly_o hly (by decide)) ?_
  refine wp_iconst d_M_program_52 (by decide) ?_
  obtain ⟨hi15, h⟩ := h
  refine wp_iastore d_M_program_53 (ly_a (n := 2) (N := 2) hly (by decide) hi15) (fun w16 e17 => ?_)
  replace h := h w16 e17
  refine wp_ly (fun hly => ?_)
  refine wp_aload_n d_M_program_54 (i := 0) rfl 0 rfl ?_
  refine wp_getP d_M_program_55 fl_M_74 cl_9 rfl (ly_o hly (by decide)) (ly_r (v := 100) hly (by decide +kernel)) ?_
  refine wp_aload_n d_M_program_58 (i := 0) rfl 0 rfl ?_
  refine wp_getI d_M_program_59 fl_M_211 cl_9 rfl (ly_o hly (by decide)) ?_
  refine wp_iconst d_M_program_62 (by decide) ?_
  obtain ⟨hi18, h⟩ := h
  refine wp_iastore d_M_program_63 (ly_a (n := 2) (N := 2) hly (by decide) hi18) (fun w19 e20 => ?_)
  replace h := h w19 e20
  refine wp_ly (fun hly => ?_)
  refine wp_iconst d_M_program_64 (by decide) ?_
  refine wp_istore_n (L' := [(1, vi 1), (0, vr 78)]) d_M_program_65 (i := 1) rfl rfl (by decide) ?_
  exact wp_pick [1, 0] rfl h
set_option maxRecDepth 20000 in
set_option maxHeartbeats 2000000 in
theorem t_M_program_66 {x1 : Int}  {w : Wo} {Q : Option AV → Wo → Prop} (h : ((x1 = 0 → Wp m_M_program 90 [(0, vr 78)] [] (0, 0) w Q) ∧ (¬ x1 = 0 → (0 ≤ (gI w 78 10) ∧ (gI w 78 10) < 602) ∧ (((gI w 80 (gI w 78 10).toNat) = 0 → Wp m_M_program 90 [(0, vr 78)] [] (0, 0) w Q) ∧ (¬ (gI w 80 (gI w 78 10).toNat) = 0 → MetI m_M_readClause [vr 78] w (fun z3 w2 => Wp m_M_program 66 [(0, vr 78), (1, vi z3)] [] (0, 0) w2 Q)))))) : Wp m_M_program 66 [(0, vr 78), (1, vi x1)] [] (0, 0) w Q := by
  refine wp_ly (fun hly => ?_)
  refine wp_iload_n d_M_program_66 (i := 1) rfl 1 rfl ?_
  refine wp_if_eq (tgt := 90) d_M_program_67 (by decide) (fun hc => ?_) (fun hc => ?_)
  · replace h := h.1 hc
    exact wp_pick [0] rfl h
  · replace h := h.2 hc
    refine wp_aload_n d_M_program_70 (i := 0) rfl 0 rfl ?_
    refine wp_getP d_M_program_71 fl_M_13 cl_9 rfl (ly_o hly (by decide)) (ly_r (v := 80) hly (by decide +kernel)) ?_
    refine wp_aload_n d_M_program_74 (i := 0) rfl 0 rfl ?_
    refine wp_getI d_M_program_75 fl_M_180 cl_9 rfl (ly_o hly (by decide)) ?_
    obtain ⟨hi1, h⟩ := h
    refine wp_iaload d_M_program_78 (ly_a (n := 602) (N := 602) hly (by decide) hi1) ?_
    refine wp_if_eq (tgt := 90) d_M_program_79 (by decide) (fun hc => ?_) (fun hc => ?_)
    · replace h := h.1 hc
      exact wp_pick [0] rfl h
    · replace h := h.2 hc
      refine wp_aload_n d_M_program_82 (i := 0) rfl 0 rfl ?_
      refine wp_callV (A := []) (S := []) d_M_program_83 cv_M_program_311 (ly_o hly (by decide)) rfl (Nat.le_of_ble_eq_true rfl) (by decide) (MetS.mono h (fun r w2 hh => ?_))
      obtain ⟨z3, er, h⟩ := hh
      subst er
      refine wp_ly (fun hly => ?_)
      refine wp_istore_n (L' := [(1, vi z3), (0, vr 78)]) d_M_program_86 (i := 1) rfl rfl (by decide) ?_
      refine wp_goto (tgt := 66) d_M_program_87 (by decide) ?_
      exact wp_pick [1, 0] rfl h
set_option maxRecDepth 20000 in
set_option maxHeartbeats 2000000 in
theorem t_M_program_90   {w : Wo} {Q : Option AV → Wo → Prop} (h : ((¬ (gI w 78 3) = 0 → Wp m_M_program 101 [(0, vr 78)] [] (0, 0) w Q) ∧ ((gI w 78 3) = 0 → MetV m_M_lookAbsence [vr 78] w (fun w1 => Wp m_M_program 101 [(0, vr 78)] [] (0, 0) w1 Q)))) : Wp m_M_program 90 [(0, vr 78)] [] (0, 0) w Q := by
  refine wp_ly (fun hly => ?_)
  refine wp_aload_n d_M_program_90 (i := 0) rfl 0 rfl ?_
  refine wp_getI d_M_program_91 fl_M_174 cl_9 rfl (ly_o hly (by decide)) ?_
  refine wp_if_ne (tgt := 101) d_M_program_94 (by decide) (fun hc => ?_) (fun hc => ?_)
  · replace h := h.1 hc
    exact h
  · replace h := h.2 hc
    refine wp_aload_n d_M_program_97 (i := 0) rfl 0 rfl ?_
    refine wp_callV (A := []) (S := []) d_M_program_98 cv_M_program_314 (ly_o hly (by decide)) rfl (Nat.le_of_ble_eq_true rfl) (by decide) (MetS.mono h (fun r w1 hh => ?_))
    obtain ⟨er, h⟩ := hh
    subst er
    refine wp_ly (fun hly => ?_)
    exact h
set_option maxRecDepth 20000 in
set_option maxHeartbeats 2000000 in
theorem t_M_program_101   {w : Wo} {Q : Option AV → Wo → Prop} (h : (((gI w 78 3) = 0 → MetV m_M_lookStrata [vr 78] w (fun w1 => (∀ w2 : Wo, w2 = uI w1 78 0 0 → (∀ w4 : Wo, w4 = uI w2 78 11 (gI w2 78 37) → (0 ≤ (gI w4 78 11) ∧ (gI w4 78 11) < 2) ∧ Q (some (vi (gI w4 88 (gI w4 78 11).toNat))) w4)))) ∧ (¬ (gI w 78 3) = 0 → (∀ w7 : Wo, w7 = uI w 78 37 (gI w 78 11) → MetV m_M_lookHangs [vr 78] w7 (fun w9 => MetI m_M_raise [vr 78, vi 1] w9 (fun z11 w10 => Q (some (vi z11)) w10)))))) : Wp m_M_program 101 [(0, vr 78)] [] (0, 0) w Q := by
  refine wp_ly (fun hly => ?_)
  refine wp_aload_n d_M_program_101 (i := 0) rfl 0 rfl ?_
  refine wp_getI d_M_program_102 fl_M_174 cl_9 rfl (ly_o hly (by decide)) ?_
  refine wp_if_eq (tgt := 126) d_M_program_105 (by decide) (fun hc => ?_) (fun hc => ?_)
  · replace h := h.1 hc
    refine wp_aload_n d_M_program_126 (i := 0) rfl 0 rfl ?_
    refine wp_callV (A := []) (S := []) d_M_program_127 cv_M_program_320 (ly_o hly (by decide)) rfl (Nat.le_of_ble_eq_true rfl) (by decide) (MetS.mono h (fun r w1 hh => ?_))
    obtain ⟨er, h⟩ := hh
    subst er
    refine wp_ly (fun hly => ?_)
    refine wp_aload_n d_M_program_130 (i := 0) rfl 0 rfl ?_
    refine wp_iconst d_M_program_131 (by decide) ?_
    refine wp_putI d_M_program_132 fl_M_126 cl_9 ⟨rfl, rfl⟩ (ly_o hly (by decide)) (fun w2 e3 => ?_)
    replace h := h w2 e3
    refine wp_ly (fun hly => ?_)
    refine wp_aload_n d_M_program_135 (i := 0) rfl 0 rfl ?_
    refine wp_aload_n d_M_program_136 (i := 0) rfl 0 rfl ?_
    refine wp_getI d_M_program_137 fl_M_211 cl_9 rfl (ly_o hly (by decide)) ?_
    refine wp_putI d_M_program_140 fl_M_308 cl_9 ⟨rfl, rfl⟩ (ly_o hly (by decide)) (fun w4 e5 => ?_)
    replace h := h w4 e5
    refine wp_ly (fun hly => ?_)
    refine wp_aload_n d_M_program_143 (i := 0) rfl 0 rfl ?_
    refine wp_getP d_M_program_144 fl_M_38 cl_9 rfl (ly_o hly (by decide)) (ly_r (v := 88) hly (by decide +kernel)) ?_
    refine wp_aload_n d_M_program_147 (i := 0) rfl 0 rfl ?_
    refine wp_getI d_M_program_148 fl_M_308 cl_9 rfl (ly_o hly (by decide)) ?_
    obtain ⟨hi6, h⟩ := h
    refine wp_iaload d_M_program_151 (ly_a (n := 2) (N := 2) hly (by decide) hi6) ?_
    exact wp_iret d_M_program_152 rfl (by decide) h
  · replace h := h.2 hc
    refine wp_aload_n d_M_program_108 (i := 0) rfl 0 rfl ?_
    refine wp_aload_n d_M_program_109 (i := 0) rfl 0 rfl ?_
    refine wp_getI d_M_program_110 fl_M_308 cl_9 rfl (ly_o hly (by decide)) ?_
    refine wp_putI d_M_program_113 fl_M_211 cl_9 ⟨rfl, rfl⟩ (ly_o hly (by decide)) (fun w7 e8 => ?_)
    replace h := h w7 e8
    refine wp_ly (fun hly => ?_)
    refine wp_aload_n d_M_program_116 (i := 0) rfl 0 rfl ?_
    refine wp_callV (A := []) (S := []) d_M_program_117 cv_M_program_299 (ly_o hly (by decide)) rfl (Nat.le_of_ble_eq_true rfl) (by decide) (MetS.mono h (fun r w9 hh => ?_))
    obtain ⟨er, h⟩ := hh
    subst er
    refine wp_ly (fun hly => ?_)
    refine wp_aload_n d_M_program_120 (i := 0) rfl 0 rfl ?_
    refine wp_iconst d_M_program_121 (by decide) ?_
    refine wp_callV (A := [vi 1]) (S := []) d_M_program_122 cv_M_program_317 (ly_o hly (by decide)) rfl (Nat.le_of_ble_eq_true rfl) (by decide) (MetS.mono h (fun r w10 hh => ?_))
    obtain ⟨z11, er, h⟩ := hh
    subst er
    refine wp_ly (fun hly => ?_)
    exact wp_iret d_M_program_125 rfl (by decide) h
set_option maxRecDepth 20000 in
set_option maxHeartbeats 2000000 in
theorem t_M_fault_0 {x1 : Int}  {w : Wo} {Q : Option AV → Wo → Prop} (h : (∀ w1 : Wo, w1 = uI w 78 0 0 → ((¬ x1 = 0 → ((¬ x1 = 1 → Q (some (vi (-1))) w1) ∧ (x1 = 1 → Q (some (vi (gI w1 78 4))) w1))) ∧ (x1 = 0 → Q (some (vi (gI w1 78 3))) w1)))) : Wp m_M_fault 0 [(0, vr 78), (1, vi x1)] [] (0, 0) w Q := by
  refine wp_ly (fun hly => ?_)
  refine wp_aload_n d_M_fault_0 (i := 0) rfl 0 rfl ?_
  refine wp_iconst d_M_fault_1 (by decide) ?_
  refine wp_putI d_M_fault_2 fl_M_126 cl_9 ⟨rfl, rfl⟩ (ly_o hly (by decide)) (fun w1 e2 => ?_)
  replace h := h w1 e2
  refine wp_ly (fun hly => ?_)
  refine wp_iload_n d_M_fault_5 (i := 1) rfl 1 rfl ?_
  refine wp_if_ne (tgt := 16) d_M_fault_6 (by decide) (fun hc => ?_) (fun hc => ?_)
  · replace h := h.1 hc
    refine wp_iload_n d_M_fault_16 (i := 1) rfl 1 rfl ?_
    refine wp_iconst d_M_fault_17 (by decide) ?_
    refine wp_icmp_ne (tgt := 28) d_M_fault_18 (by decide) (fun hc => ?_) (fun hc => ?_)
    · replace h := h.1 hc
      refine wp_iconst d_M_fault_28 (by decide) ?_
      exact wp_iret d_M_fault_29 rfl (by decide) h
    · replace h := h.2 hc
      refine wp_aload_n d_M_fault_21 (i := 0) rfl 0 rfl ?_
      refine wp_getI d_M_fault_22 fl_M_177 cl_9 rfl (ly_o hly (by decide)) ?_
      refine wp_goto (tgt := 29) d_M_fault_25 (by decide) ?_
      exact wp_iret d_M_fault_29 rfl (by decide) h
  · replace h := h.2 hc
    refine wp_aload_n d_M_fault_9 (i := 0) rfl 0 rfl ?_
    refine wp_getI d_M_fault_10 fl_M_174 cl_9 rfl (ly_o hly (by decide)) ?_
    refine wp_goto (tgt := 29) d_M_fault_13 (by decide) ?_
    exact wp_iret d_M_fault_29 rfl (by decide) h
set_option maxRecDepth 20000 in
set_option maxHeartbeats 2000000 in
theorem t_M_isKnownTerm_0 {x1 : Int} {x2 : Int}  {w : Wo} {Q : Option AV → Wo → Prop} (h : inr32 (4 * x1) ∧ inr32 ((4 * x1) + x2) ∧ (0 ≤ ((4 * x1) + x2) ∧ ((4 * x1) + x2) < 1464) ∧ (((gI w 98 ((4 * x1) + x2).toNat) = 0 → Q (some (vi 1)) w) ∧ (¬ (gI w 98 ((4 * x1) + x2).toNat) = 0 → inr32 (4 * x1) ∧ inr32 ((4 * x1) + x2) ∧ (0 ≤ ((4 * x1) + x2) ∧ ((4 * x1) + x2) < 1464) ∧ ((¬ (gI w 98 ((4 * x1) + x2).toNat) = 1 → Q (some (vi 0)) w) ∧ ((gI w 98 ((4 * x1) + x2).toNat) = 1 → inr32 (4 * x1) ∧ inr32 ((4 * x1) + x2) ∧ (0 ≤ ((4 * x1) + x2) ∧ ((4 * x1) + x2) < 1464) ∧ (0 ≤ (b_l2i (gJ w 99 ((4 * x1) + x2).toNat)) ∧ (b_l2i (gJ w 99 ((4 * x1) + x2).toNat)) < 9) ∧ (((gI w 115 (b_l2i (gJ w 99 ((4 * x1) + x2).toNat)).toNat) = 0 → Q (some (vi 0)) w) ∧ (¬ (gI w 115 (b_l2i (gJ w 99 ((4 * x1) + x2).toNat)).toNat) = 0 → Q (some (vi 1)) w))))))) : Wp m_M_isKnownTerm 0 [(0, vr 78), (1, vi x1), (2, vi x2)] [] (0, 0) w Q := by
  refine wp_ly (fun hly => ?_)
  refine wp_aload_n d_M_isKnownTerm_0 (i := 0) rfl 0 rfl ?_
  refine wp_getP d_M_isKnownTerm_1 fl_M_68 cl_9 rfl (ly_o hly (by decide)) (ly_r (v := 98) hly (by decide +kernel)) ?_
  refine wp_iconst d_M_isKnownTerm_4 (by decide) ?_
  refine wp_iload_n d_M_isKnownTerm_5 (i := 1) rfl 1 rfl ?_
  obtain ⟨ho, h⟩ := h
  refine wp_imul d_M_isKnownTerm_6 ho ?_
  refine wp_iload_n d_M_isKnownTerm_7 (i := 2) rfl 2 rfl ?_
  obtain ⟨ho, h⟩ := h
  refine wp_iadd d_M_isKnownTerm_8 ho ?_
  obtain ⟨hi1, h⟩ := h
  refine wp_iaload d_M_isKnownTerm_9 (ly_a (n := 1464) (N := 1464) hly (by decide) hi1) ?_
  refine wp_if_eq (tgt := 46) d_M_isKnownTerm_10 (by decide) (fun hc => ?_) (fun hc => ?_)
  · replace h := h.1 hc
    refine wp_iconst d_M_isKnownTerm_46 (by decide) ?_
    refine wp_goto (tgt := 51) d_M_isKnownTerm_47 (by decide) ?_
    exact wp_zret d_M_isKnownTerm_51 rfl (by decide) (by decide) h
  · replace h := h.2 hc
    refine wp_aload_n d_M_isKnownTerm_13 (i := 0) rfl 0 rfl ?_
    refine wp_getP d_M_isKnownTerm_14 fl_M_68 cl_9 rfl (ly_o hly (by decide)) (ly_r (v := 98) hly (by decide +kernel)) ?_
    refine wp_iconst d_M_isKnownTerm_17 (by decide) ?_
    refine wp_iload_n d_M_isKnownTerm_18 (i := 1) rfl 1 rfl ?_
    obtain ⟨ho, h⟩ := h
    refine wp_imul d_M_isKnownTerm_19 ho ?_
    refine wp_iload_n d_M_isKnownTerm_20 (i := 2) rfl 2 rfl ?_
    obtain ⟨ho, h⟩ := h
    refine wp_iadd d_M_isKnownTerm_21 ho ?_
    obtain ⟨hi2, h⟩ := h
    refine wp_iaload d_M_isKnownTerm_22 (ly_a (n := 1464) (N := 1464) hly (by decide) hi2) ?_
    refine wp_iconst d_M_isKnownTerm_23 (by decide) ?_
    refine wp_icmp_ne (tgt := 50) d_M_isKnownTerm_24 (by decide) (fun hc => ?_) (fun hc => ?_)
    · replace h := h.1 hc
      refine wp_iconst d_M_isKnownTerm_50 (by decide) ?_
      exact wp_zret d_M_isKnownTerm_51 rfl (by decide) (by decide) h
    · replace h := h.2 hc
      refine wp_aload_n d_M_isKnownTerm_27 (i := 0) rfl 0 rfl ?_
      refine wp_getP d_M_isKnownTerm_28 fl_M_120 cl_9 rfl (ly_o hly (by decide)) (ly_r (v := 115) hly (by decide +kernel)) ?_
      refine wp_aload_n d_M_isKnownTerm_31 (i := 0) rfl 0 rfl ?_
      refine wp_getP d_M_isKnownTerm_32 fl_M_71 cl_9 rfl (ly_o hly (by decide)) (ly_r (v := 99) hly (by decide +kernel)) ?_
      refine wp_iconst d_M_isKnownTerm_35 (by decide) ?_
      refine wp_iload_n d_M_isKnownTerm_36 (i := 1) rfl 1 rfl ?_
      obtain ⟨ho, h⟩ := h
      refine wp_imul d_M_isKnownTerm_37 ho ?_
      refine wp_iload_n d_M_isKnownTerm_38 (i := 2) rfl 2 rfl ?_
      obtain ⟨ho, h⟩ := h
      refine wp_iadd d_M_isKnownTerm_39 ho ?_
      obtain ⟨hi3, h⟩ := h
      refine wp_laload d_M_isKnownTerm_40 (ly_a (n := 1464) (N := 1464) hly (by decide) hi3) ?_
      refine wp_l2i d_M_isKnownTerm_41 ?_
      obtain ⟨hi4, h⟩ := h
      refine wp_zaload d_M_isKnownTerm_42 (ly_a (n := 9) (N := 9) hly (by decide) hi4) ?_
      refine wp_if_eq (tgt := 50) d_M_isKnownTerm_43 (by decide) (fun hc => ?_) (fun hc => ?_)
      · replace h := h.1 hc
        refine wp_iconst d_M_isKnownTerm_50 (by decide) ?_
        exact wp_zret d_M_isKnownTerm_51 rfl (by decide) (by decide) h
      · replace h := h.2 hc
        refine wp_iconst d_M_isKnownTerm_46 (by decide) ?_
        refine wp_goto (tgt := 51) d_M_isKnownTerm_47 (by decide) ?_
        exact wp_zret d_M_isKnownTerm_51 rfl (by decide) (by decide) h
set_option maxRecDepth 20000 in
set_option maxHeartbeats 2000000 in
theorem t_M_knownIn_0 {x1 : Int}  {w : Wo} {Q : Option AV → Wo → Prop} (h : Wp m_M_knownIn 4 [(0, vr 78), (1, vi x1), (2, vi 0), (3, vi 0)] [] (0, 0) w Q) : Wp m_M_knownIn 0 [(0, vr 78), (1, vi x1)] [] (0, 0) w Q := by
  refine wp_ly (fun hly => ?_)
  refine wp_iconst d_M_knownIn_0 (by decide) ?_
  refine wp_istore_n (L' := [(2, vi 0), (0, vr 78), (1, vi x1)]) d_M_knownIn_1 (i := 2) rfl rfl (by decide) ?_
  refine wp_iconst d_M_knownIn_2 (by decide) ?_
  refine wp_istore_n (L' := [(3, vi 0), (2, vi 0), (0, vr 78), (1, vi x1)]) d_M_knownIn_3 (i := 3) rfl rfl (by decide) ?_
  exact wp_pick [2, 3, 1, 0] rfl h
set_option maxRecDepth 20000 in
set_option maxHeartbeats 2000000 in
theorem t_M_knownIn_4 {x1 : Int} {x2 : Int} {x3 : Int}  {w : Wo} {Q : Option AV → Wo → Prop} (h : (0 ≤ x1 ∧ x1 < 366) ∧ (((gI w 109 x1.toNat) ≤ x3 → Q (some (vi x2)) w) ∧ (¬ (gI w 109 x1.toNat) ≤ x3 → MetI m_M_isKnownTerm [vr 78, vi x1, vi x3] w (fun z3 w2 => ((z3 = 0 → inr32 (x3 + 1) ∧ Wp m_M_knownIn 4 [(0, vr 78), (1, vi x1), (2, vi (b_ior x2 0)), (3, vi (x3 + 1))] [] (0, 0) w2 Q) ∧ (¬ z3 = 0 → inr32 (x3 + 1) ∧ Wp m_M_knownIn 4 [(0, vr 78), (1, vi x1), (2, vi (b_ior x2 (b_ishl 1 x3))), (3, vi (x3 + 1))] [] (0, 0) w2 Q)))))) : Wp m_M_knownIn 4 [(0, vr 78), (1, vi x1), (2, vi x2), (3, vi x3)] [] (0, 0) w Q := by
  refine wp_ly (fun hly => ?_)
  refine wp_iload_n d_M_knownIn_4 (i := 3) rfl 3 rfl ?_
  refine wp_aload_n d_M_knownIn_5 (i := 0) rfl 0 rfl ?_
  refine wp_getP d_M_knownIn_6 fl_M_102 cl_9 rfl (ly_o hly (by decide)) (ly_r (v := 109) hly (by decide +kernel)) ?_
  refine wp_iload_n d_M_knownIn_9 (i := 1) rfl 1 rfl ?_
  obtain ⟨hi1, h⟩ := h
  refine wp_iaload d_M_knownIn_10 (ly_a (n := 366) (N := 366) hly (by decide) hi1) ?_
  refine wp_icmp_ge (tgt := 39) d_M_knownIn_11 (by decide) (fun hc => ?_) (fun hc => ?_)
  · replace h := h.1 hc
    refine wp_iload_n d_M_knownIn_39 (i := 2) rfl 2 rfl ?_
    exact wp_iret d_M_knownIn_40 rfl (by decide) h
  · replace h := h.2 hc
    refine wp_iload_n d_M_knownIn_14 (i := 2) rfl 2 rfl ?_
    refine wp_aload_n d_M_knownIn_15 (i := 0) rfl 0 rfl ?_
    refine wp_iload_n d_M_knownIn_16 (i := 1) rfl 1 rfl ?_
    refine wp_iload_n d_M_knownIn_17 (i := 3) rfl 3 rfl ?_
    refine wp_callV (A := [vi x1, vi x3]) (S := [vi x2]) d_M_knownIn_18 cv_M_knownIn_323 (ly_o hly (by decide)) rfl (Nat.le_of_ble_eq_true rfl) (by decide) (MetS.mono h (fun r w2 hh => ?_))
    obtain ⟨z3, er, h⟩ := hh
    subst er
    refine wp_ly (fun hly => ?_)
    refine wp_if_eq (tgt := 30) d_M_knownIn_21 (by decide) (fun hc => ?_) (fun hc => ?_)
    · replace h := h.1 hc
      refine wp_iconst d_M_knownIn_30 (by decide) ?_
      refine wp_ior d_M_knownIn_31 ?_
      refine wp_istore_n (L' := [(2, vi (b_ior x2 0)), (0, vr 78), (1, vi x1), (3, vi x3)]) d_M_knownIn_32 (i := 2) rfl rfl (by decide) ?_
      obtain ⟨ho, h⟩ := h
      refine wp_iinc (L' := [(3, vi (x3 + 1)), (2, vi (b_ior x2 0)), (0, vr 78), (1, vi x1)]) d_M_knownIn_33 3 rfl rfl (by decide) ho ?_
      refine wp_goto (tgt := 4) d_M_knownIn_36 (by decide) ?_
      exact wp_pick [2, 3, 1, 0] rfl h
    · replace h := h.2 hc
      refine wp_iconst d_M_knownIn_24 (by decide) ?_
      refine wp_iload_n d_M_knownIn_25 (i := 3) rfl 3 rfl ?_
      refine wp_ishl d_M_knownIn_26 ?_
      refine wp_goto (tgt := 31) d_M_knownIn_27 (by decide) ?_
      refine wp_ior d_M_knownIn_31 ?_
      refine wp_istore_n (L' := [(2, vi (b_ior x2 (b_ishl 1 x3))), (0, vr 78), (1, vi x1), (3, vi x3)]) d_M_knownIn_32 (i := 2) rfl rfl (by decide) ?_
      obtain ⟨ho, h⟩ := h
      refine wp_iinc (L' := [(3, vi (x3 + 1)), (2, vi (b_ior x2 (b_ishl 1 x3))), (0, vr 78), (1, vi x1)]) d_M_knownIn_33 3 rfl rfl (by decide) ho ?_
      refine wp_goto (tgt := 4) d_M_knownIn_36 (by decide) ?_
      exact wp_pick [2, 3, 1, 0] rfl h
set_option maxRecDepth 20000 in
set_option maxHeartbeats 2000000 in
theorem t_M_many_0 {x0 : Int}  {w : Wo} {Q : Option AV → Wo → Prop} (h : Wp m_M_many 4 [(1, vi 0), (2, vi x0)] [] (0, 0) w Q) : Wp m_M_many 0 [(0, vi x0)] [] (0, 0) w Q := by
  refine wp_ly (fun hly => ?_)
  refine wp_iconst d_M_many_0 (by decide) ?_
  refine wp_istore_n (L' := [(1, vi 0), (0, vi x0)]) d_M_many_1 (i := 1) rfl rfl (by decide) ?_
  refine wp_iload_n d_M_many_2 (i := 0) rfl 1 rfl ?_
  refine wp_istore_n (L' := [(2, vi x0), (1, vi 0), (0, vi x0)]) d_M_many_3 (i := 2) rfl rfl (by decide) ?_
  exact wp_pick [1, 0] rfl h
set_option maxRecDepth 20000 in
set_option maxHeartbeats 2000000 in
theorem t_M_many_4 {x1 : Int} {x2 : Int}  {w : Wo} {Q : Option AV → Wo → Prop} (h : ((x2 ≤ 0 → Q (some (vi x1)) w) ∧ (¬ x2 ≤ 0 → inr32 (x1 + (b_iand x2 1)) ∧ Wp m_M_many 4 [(1, vi (x1 + (b_iand x2 1))), (2, vi (b_ishr x2 1))] [] (0, 0) w Q))) : Wp m_M_many 4 [(1, vi x1), (2, vi x2)] [] (0, 0) w Q := by
  refine wp_ly (fun hly => ?_)
  refine wp_iload_n d_M_many_4 (i := 2) rfl 1 rfl ?_
  refine wp_if_le (tgt := 21) d_M_many_5 (by decide) (fun hc => ?_) (fun hc => ?_)
  · replace h := h.1 hc
    refine wp_iload_n d_M_many_21 (i := 1) rfl 0 rfl ?_
    exact wp_iret d_M_many_22 rfl (by decide) h
  · replace h := h.2 hc
    refine wp_iload_n d_M_many_8 (i := 1) rfl 0 rfl ?_
    refine wp_iload_n d_M_many_9 (i := 2) rfl 1 rfl ?_
    refine wp_iconst d_M_many_10 (by decide) ?_
    refine wp_iand d_M_many_11 ?_
    obtain ⟨ho, h⟩ := h
    refine wp_iadd d_M_many_12 ho ?_
    refine wp_istore_n (L' := [(1, vi (x1 + (b_iand x2 1))), (2, vi x2)]) d_M_many_13 (i := 1) rfl rfl (by decide) ?_
    refine wp_iload_n d_M_many_14 (i := 2) rfl 1 rfl ?_
    refine wp_iconst d_M_many_15 (by decide) ?_
    refine wp_ishr d_M_many_16 ?_
    refine wp_istore_n (L' := [(2, vi (b_ishr x2 1)), (1, vi (x1 + (b_iand x2 1)))]) d_M_many_17 (i := 2) rfl rfl (by decide) ?_
    refine wp_goto (tgt := 4) d_M_many_18 (by decide) ?_
    exact wp_pick [1, 0] rfl h
set_option maxRecDepth 20000 in
set_option maxHeartbeats 2000000 in
theorem t_M_canAsk_0 {x1 : Int}  {w : Wo} {Q : Option AV → Wo → Prop} (h : (0 ≤ x1 ∧ x1 < 366) ∧ ((¬ (gI w 96 x1.toNat) = 3 → (0 ≤ x1 ∧ x1 < 366) ∧ ((¬ (gI w 96 x1.toNat) = 2 → Wp m_M_canAsk 107 [(0, vr 78), (1, vi x1), (2, vi 0)] [] (0, 0) w Q) ∧ ((gI w 96 x1.toNat) = 2 → (0 ≤ x1 ∧ x1 < 366) ∧ ((¬ (gI w 97 x1.toNat) = 61 → MetI m_M_isKnownTerm [vr 78, vi x1, vi 0] w (fun z5 w4 => ((z5 = 0 → Q (some (vi 0)) w4) ∧ (¬ z5 = 0 → MetI m_M_isKnownTerm [vr 78, vi x1, vi 1] w4 (fun z7 w6 => ((z7 = 0 → Q (some (vi 0)) w6) ∧ (¬ z7 = 0 → Q (some (vi 1)) w6))))))) ∧ ((gI w 97 x1.toNat) = 61 → MetI m_M_isKnownTerm [vr 78, vi x1, vi 0] w (fun z9 w8 => ((¬ z9 = 0 → Q (some (vi 1)) w8) ∧ (z9 = 0 → MetI m_M_isKnownTerm [vr 78, vi x1, vi 1] w8 (fun z11 w10 => ((z11 = 0 → Q (some (vi 0)) w10) ∧ (¬ z11 = 0 → Q (some (vi 1)) w10))))))))))) ∧ ((gI w 96 x1.toNat) = 3 → MetI m_M_isKnownTerm [vr 78, vi x1, vi 1] w (fun z13 w12 => ((z13 = 0 → Q (some (vi 0)) w12) ∧ (¬ z13 = 0 → MetI m_M_isKnownTerm [vr 78, vi x1, vi 2] w12 (fun z15 w14 => ((z15 = 0 → Q (some (vi 0)) w14) ∧ (¬ z15 = 0 → Q (some (vi 1)) w14))))))))) : Wp m_M_canAsk 0 [(0, vr 78), (1, vi x1)] [] (0, 0) w Q := by
  refine wp_ly (fun hly => ?_)
  refine wp_aload_n d_M_canAsk_0 (i := 0) rfl 0 rfl ?_
  refine wp_getP d_M_canAsk_1 fl_M_62 cl_9 rfl (ly_o hly (by decide)) (ly_r (v := 96) hly (by decide +kernel)) ?_
  refine wp_iload_n d_M_canAsk_4 (i := 1) rfl 1 rfl ?_
  obtain ⟨hi1, h⟩ := h
  refine wp_iaload d_M_canAsk_5 (ly_a (n := 366) (N := 366) hly (by decide) hi1) ?_
  refine wp_iconst d_M_canAsk_6 (by decide) ?_
  refine wp_icmp_ne (tgt := 34) d_M_canAsk_7 (by decide) (fun hc => ?_) (fun hc => ?_)
  · replace h := h.1 hc
    refine wp_aload_n d_M_canAsk_34 (i := 0) rfl 0 rfl ?_
    refine wp_getP d_M_canAsk_35 fl_M_62 cl_9 rfl (ly_o hly (by decide)) (ly_r (v := 96) hly (by decide +kernel)) ?_
    refine wp_iload_n d_M_canAsk_38 (i := 1) rfl 1 rfl ?_
    obtain ⟨hi2, h⟩ := h
    refine wp_iaload d_M_canAsk_39 (ly_a (n := 366) (N := 366) hly (by decide) hi2) ?_
    refine wp_iconst d_M_canAsk_40 (by decide) ?_
    refine wp_icmp_ne (tgt := 105) d_M_canAsk_41 (by decide) (fun hc => ?_) (fun hc => ?_)
    · replace h := h.1 hc
      refine wp_iconst d_M_canAsk_105 (by decide) ?_
      refine wp_istore_n (L' := [(2, vi 0), (0, vr 78), (1, vi x1)]) d_M_canAsk_106 (i := 2) rfl rfl (by decide) ?_
      exact wp_pick [1, 2, 0] rfl h
    · replace h := h.2 hc
      refine wp_aload_n d_M_canAsk_44 (i := 0) rfl 0 rfl ?_
      refine wp_getP d_M_canAsk_45 fl_M_65 cl_9 rfl (ly_o hly (by decide)) (ly_r (v := 97) hly (by decide +kernel)) ?_
      refine wp_iload_n d_M_canAsk_48 (i := 1) rfl 1 rfl ?_
      obtain ⟨hi3, h⟩ := h
      refine wp_iaload d_M_canAsk_49 (ly_a (n := 366) (N := 366) hly (by decide) hi3) ?_
      refine wp_bipush d_M_canAsk_50 (by decide) (by decide) ?_
      refine wp_icmp_ne (tgt := 81) d_M_canAsk_52 (by decide) (fun hc => ?_) (fun hc => ?_)
      · replace h := h.1 hc
        refine wp_aload_n d_M_canAsk_81 (i := 0) rfl 0 rfl ?_
        refine wp_iload_n d_M_canAsk_82 (i := 1) rfl 1 rfl ?_
        refine wp_iconst d_M_canAsk_83 (by decide) ?_
        refine wp_callV (A := [vi x1, vi 0]) (S := []) d_M_canAsk_84 cv_M_canAsk_323 (ly_o hly (by decide)) rfl (Nat.le_of_ble_eq_true rfl) (by decide) (MetS.mono h (fun r w4 hh => ?_))
        obtain ⟨z5, er, h⟩ := hh
        subst er
        refine wp_ly (fun hly => ?_)
        refine wp_if_eq (tgt := 103) d_M_canAsk_87 (by decide) (fun hc => ?_) (fun hc => ?_)
        · replace h := h.1 hc
          refine wp_iconst d_M_canAsk_103 (by decide) ?_
          exact wp_zret d_M_canAsk_104 rfl (by decide) (by decide) h
        · replace h := h.2 hc
          refine wp_aload_n d_M_canAsk_90 (i := 0) rfl 0 rfl ?_
          refine wp_iload_n d_M_canAsk_91 (i := 1) rfl 1 rfl ?_
          refine wp_iconst d_M_canAsk_92 (by decide) ?_
          refine wp_callV (A := [vi x1, vi 1]) (S := []) d_M_canAsk_93 cv_M_canAsk_323 (ly_o hly (by decide)) rfl (Nat.le_of_ble_eq_true rfl) (by decide) (MetS.mono h (fun r w6 hh => ?_))
          obtain ⟨z7, er, h⟩ := hh
          subst er
          refine wp_ly (fun hly => ?_)
          refine wp_if_eq (tgt := 103) d_M_canAsk_96 (by decide) (fun hc => ?_) (fun hc => ?_)
          · replace h := h.1 hc
            refine wp_iconst d_M_canAsk_103 (by decide) ?_
            exact wp_zret d_M_canAsk_104 rfl (by decide) (by decide) h
          · replace h := h.2 hc
            refine wp_iconst d_M_canAsk_99 (by decide) ?_
            refine wp_goto (tgt := 104) d_M_canAsk_100 (by decide) ?_
            exact wp_zret d_M_canAsk_104 rfl (by decide) (by decide) h
      · replace h := h.2 hc
        refine wp_aload_n d_M_canAsk_55 (i := 0) rfl 0 rfl ?_
        refine wp_iload_n d_M_canAsk_56 (i := 1) rfl 1 rfl ?_
        refine wp_iconst d_M_canAsk_57 (by decide) ?_
        refine wp_callV (A := [vi x1, vi 0]) (S := []) d_M_canAsk_58 cv_M_canAsk_323 (ly_o hly (by decide)) rfl (Nat.le_of_ble_eq_true rfl) (by decide) (MetS.mono h (fun r w8 hh => ?_))
        obtain ⟨z9, er, h⟩ := hh
        subst er
        refine wp_ly (fun hly => ?_)
        refine wp_if_ne (tgt := 73) d_M_canAsk_61 (by decide) (fun hc => ?_) (fun hc => ?_)
        · replace h := h.1 hc
          refine wp_iconst d_M_canAsk_73 (by decide) ?_
          refine wp_goto (tgt := 104) d_M_canAsk_74 (by decide) ?_
          exact wp_zret d_M_canAsk_104 rfl (by decide) (by decide) h
        · replace h := h.2 hc
          refine wp_aload_n d_M_canAsk_64 (i := 0) rfl 0 rfl ?_
          refine wp_iload_n d_M_canAsk_65 (i := 1) rfl 1 rfl ?_
          refine wp_iconst d_M_canAsk_66 (by decide) ?_
          refine wp_callV (A := [vi x1, vi 1]) (S := []) d_M_canAsk_67 cv_M_canAsk_323 (ly_o hly (by decide)) rfl (Nat.le_of_ble_eq_true rfl) (by decide) (MetS.mono h (fun r w10 hh => ?_))
          obtain ⟨z11, er, h⟩ := hh
          subst er
          refine wp_ly (fun hly => ?_)
          refine wp_if_eq (tgt := 77) d_M_canAsk_70 (by decide) (fun hc => ?_) (fun hc => ?_)
          · replace h := h.1 hc
            refine wp_iconst d_M_canAsk_77 (by decide) ?_
            refine wp_goto (tgt := 104) d_M_canAsk_78 (by decide) ?_
            exact wp_zret d_M_canAsk_104 rfl (by decide) (by decide) h
          · replace h := h.2 hc
            refine wp_iconst d_M_canAsk_73 (by decide) ?_
            refine wp_goto (tgt := 104) d_M_canAsk_74 (by decide) ?_
            exact wp_zret d_M_canAsk_104 rfl (by decide) (by decide) h
  · replace h := h.2 hc
    refine wp_aload_n d_M_canAsk_10 (i := 0) rfl 0 rfl ?_
    refine wp_iload_n d_M_canAsk_11 (i := 1) rfl 1 rfl ?_
    refine wp_iconst d_M_canAsk_12 (by decide) ?_
    refine wp_callV (A := [vi x1, vi 1]) (S := []) d_M_canAsk_13 cv_M_canAsk_323 (ly_o hly (by decide)) rfl (Nat.le_of_ble_eq_true rfl) (by decide) (MetS.mono h (fun r w12 hh => ?_))
    obtain ⟨z13, er, h⟩ := hh
    subst er
    refine wp_ly (fun hly => ?_)
    refine wp_if_eq (tgt := 32) d_M_canAsk_16 (by decide) (fun hc => ?_) (fun hc => ?_)
    · replace h := h.1 hc
      refine wp_iconst d_M_canAsk_32 (by decide) ?_
      exact wp_zret d_M_canAsk_33 rfl (by decide) (by decide) h
    · replace h := h.2 hc
      refine wp_aload_n d_M_canAsk_19 (i := 0) rfl 0 rfl ?_
      refine wp_iload_n d_M_canAsk_20 (i := 1) rfl 1 rfl ?_
      refine wp_iconst d_M_canAsk_21 (by decide) ?_
      refine wp_callV (A := [vi x1, vi 2]) (S := []) d_M_canAsk_22 cv_M_canAsk_323 (ly_o hly (by decide)) rfl (Nat.le_of_ble_eq_true rfl) (by decide) (MetS.mono h (fun r w14 hh => ?_))
      obtain ⟨z15, er, h⟩ := hh
      subst er
      refine wp_ly (fun hly => ?_)
      refine wp_if_eq (tgt := 32) d_M_canAsk_25 (by decide) (fun hc => ?_) (fun hc => ?_)
      · replace h := h.1 hc
        refine wp_iconst d_M_canAsk_32 (by decide) ?_
        exact wp_zret d_M_canAsk_33 rfl (by decide) (by decide) h
      · replace h := h.2 hc
        refine wp_iconst d_M_canAsk_28 (by decide) ?_
        refine wp_goto (tgt := 33) d_M_canAsk_29 (by decide) ?_
        exact wp_zret d_M_canAsk_33 rfl (by decide) (by decide) h
set_option maxRecDepth 20000 in
set_option maxHeartbeats 2000000 in
theorem t_M_canAsk_107 {x1 : Int} {x2 : Int}  {w : Wo} {Q : Option AV → Wo → Prop} (h : (0 ≤ x1 ∧ x1 < 366) ∧ (((gI w 109 x1.toNat) ≤ x2 → Q (some (vi 1)) w) ∧ (¬ (gI w 109 x1.toNat) ≤ x2 → inr32 (4 * x1) ∧ inr32 ((4 * x1) + x2) ∧ (0 ≤ ((4 * x1) + x2) ∧ ((4 * x1) + x2) < 1464) ∧ (((gI w 98 ((4 * x1) + x2).toNat) = 2 → inr32 (x2 + 1) ∧ Wp m_M_canAsk 107 [(0, vr 78), (1, vi x1), (2, vi (x2 + 1))] [] (0, 0) w Q) ∧ (¬ (gI w 98 ((4 * x1) + x2).toNat) = 2 → MetI m_M_isKnownTerm [vr 78, vi x1, vi x2] w (fun z4 w3 => ((¬ z4 = 0 → inr32 (x2 + 1) ∧ Wp m_M_canAsk 107 [(0, vr 78), (1, vi x1), (2, vi (x2 + 1))] [] (0, 0) w3 Q) ∧ (z4 = 0 → Q (some (vi 0)) w3)))))))) : Wp m_M_canAsk 107 [(0, vr 78), (1, vi x1), (2, vi x2)] [] (0, 0) w Q := by
  refine wp_ly (fun hly => ?_)
  refine wp_iload_n d_M_canAsk_107 (i := 2) rfl 2 rfl ?_
  refine wp_aload_n d_M_canAsk_108 (i := 0) rfl 0 rfl ?_
  refine wp_getP d_M_canAsk_109 fl_M_102 cl_9 rfl (ly_o hly (by decide)) (ly_r (v := 109) hly (by decide +kernel)) ?_
  refine wp_iload_n d_M_canAsk_112 (i := 1) rfl 1 rfl ?_
  obtain ⟨hi1, h⟩ := h
  refine wp_iaload d_M_canAsk_113 (ly_a (n := 366) (N := 366) hly (by decide) hi1) ?_
  refine wp_icmp_ge (tgt := 148) d_M_canAsk_114 (by decide) (fun hc => ?_) (fun hc => ?_)
  · replace h := h.1 hc
    refine wp_iconst d_M_canAsk_148 (by decide) ?_
    exact wp_zret d_M_canAsk_149 rfl (by decide) (by decide) h
  · replace h := h.2 hc
    refine wp_aload_n d_M_canAsk_117 (i := 0) rfl 0 rfl ?_
    refine wp_getP d_M_canAsk_118 fl_M_68 cl_9 rfl (ly_o hly (by decide)) (ly_r (v := 98) hly (by decide +kernel)) ?_
    refine wp_iconst d_M_canAsk_121 (by decide) ?_
    refine wp_iload_n d_M_canAsk_122 (i := 1) rfl 1 rfl ?_
    obtain ⟨ho, h⟩ := h
    refine wp_imul d_M_canAsk_123 ho ?_
    refine wp_iload_n d_M_canAsk_124 (i := 2) rfl 2 rfl ?_
    obtain ⟨ho, h⟩ := h
    refine wp_iadd d_M_canAsk_125 ho ?_
    obtain ⟨hi2, h⟩ := h
    refine wp_iaload d_M_canAsk_126 (ly_a (n := 1464) (N := 1464) hly (by decide) hi2) ?_
    refine wp_iconst d_M_canAsk_127 (by decide) ?_
    refine wp_icmp_eq (tgt := 142) d_M_canAsk_128 (by decide) (fun hc => ?_) (fun hc => ?_)
    · replace h := h.1 hc
      obtain ⟨ho, h⟩ := h
      refine wp_iinc (L' := [(2, vi (x2 + 1)), (0, vr 78), (1, vi x1)]) d_M_canAsk_142 2 rfl rfl (by decide) ho ?_
      refine wp_goto (tgt := 107) d_M_canAsk_145 (by decide) ?_
      exact wp_pick [1, 2, 0] rfl h
    · replace h := h.2 hc
      refine wp_aload_n d_M_canAsk_131 (i := 0) rfl 0 rfl ?_
      refine wp_iload_n d_M_canAsk_132 (i := 1) rfl 1 rfl ?_
      refine wp_iload_n d_M_canAsk_133 (i := 2) rfl 2 rfl ?_
      refine wp_callV (A := [vi x1, vi x2]) (S := []) d_M_canAsk_134 cv_M_canAsk_323 (ly_o hly (by decide)) rfl (Nat.le_of_ble_eq_true rfl) (by decide) (MetS.mono h (fun r w3 hh => ?_))
      obtain ⟨z4, er, h⟩ := hh
      subst er
      refine wp_ly (fun hly => ?_)
      refine wp_if_ne (tgt := 142) d_M_canAsk_137 (by decide) (fun hc => ?_) (fun hc => ?_)
      · replace h := h.1 hc
        obtain ⟨ho, h⟩ := h
        refine wp_iinc (L' := [(2, vi (x2 + 1)), (0, vr 78), (1, vi x1)]) d_M_canAsk_142 2 rfl rfl (by decide) ho ?_
        refine wp_goto (tgt := 107) d_M_canAsk_145 (by decide) ?_
        exact wp_pick [1, 2, 0] rfl h
      · replace h := h.2 hc
        refine wp_iconst d_M_canAsk_140 (by decide) ?_
        exact wp_zret d_M_canAsk_141 rfl (by decide) (by decide) h
set_option maxRecDepth 20000 in
set_option maxHeartbeats 2000000 in
theorem t_M_nextLiteral_0 {x1 : Int}  {w : Wo} {Q : Option AV → Wo → Prop} (h : Wp m_M_nextLiteral 4 [(0, vr 78), (1, vi x1), (2, vi (-1)), (3, vi 0)] [] (0, 0) w Q) : Wp m_M_nextLiteral 0 [(0, vr 78), (1, vi x1)] [] (0, 0) w Q := by
  refine wp_ly (fun hly => ?_)
  refine wp_iconst d_M_nextLiteral_0 (by decide) ?_
  refine wp_istore_n (L' := [(2, vi (-1)), (0, vr 78), (1, vi x1)]) d_M_nextLiteral_1 (i := 2) rfl rfl (by decide) ?_
  refine wp_iconst d_M_nextLiteral_2 (by decide) ?_
  refine wp_istore_n (L' := [(3, vi 0), (2, vi (-1)), (0, vr 78), (1, vi x1)]) d_M_nextLiteral_3 (i := 3) rfl rfl (by decide) ?_
  exact wp_pick [2, 3, 1, 0] rfl h
set_option maxRecDepth 20000 in
set_option maxHeartbeats 2000000 in
theorem t_M_nextLiteral_4 {x1 : Int} {x2 : Int} {x3 : Int}  {w : Wo} {Q : Option AV → Wo → Prop} (h : (0 ≤ x1 ∧ x1 < 61) ∧ (((gI w 94 x1.toNat) ≤ x3 → Wp m_M_nextLiteral 60 [(0, vr 78), (1, vi x1), (2, vi x2), (3, vi 0)] [] (0, 0) w Q) ∧ (¬ (gI w 94 x1.toNat) ≤ x3 → (0 ≤ x3 ∧ x3 < 6) ∧ ((¬ (gI w 116 x3.toNat) = 0 → inr32 (x3 + 1) ∧ Wp m_M_nextLiteral 4 [(0, vr 78), (1, vi x1), (2, vi x2), (3, vi (x3 + 1))] [] (0, 0) w Q) ∧ ((gI w 116 x3.toNat) = 0 → inr32 (6 * x1) ∧ inr32 ((6 * x1) + x3) ∧ (0 ≤ ((6 * x1) + x3) ∧ ((6 * x1) + x3) < 366) ∧ (((gI w 96 ((6 * x1) + x3).toNat) = 0 → inr32 (x3 + 1) ∧ Wp m_M_nextLiteral 4 [(0, vr 78), (1, vi x1), (2, vi x2), (3, vi (x3 + 1))] [] (0, 0) w Q) ∧ (¬ (gI w 96 ((6 * x1) + x3).toNat) = 0 → inr32 (6 * x1) ∧ inr32 ((6 * x1) + x3) ∧ MetI m_M_canAsk [vr 78, vi ((6 * x1) + x3)] w (fun z5 w4 => ((z5 = 0 → inr32 (x3 + 1) ∧ Wp m_M_nextLiteral 4 [(0, vr 78), (1, vi x1), (2, vi x2), (3, vi (x3 + 1))] [] (0, 0) w4 Q) ∧ (¬ z5 = 0 → Q (some (vi x3)) w4)))))))))) : Wp m_M_nextLiteral 4 [(0, vr 78), (1, vi x1), (2, vi x2), (3, vi x3)] [] (0, 0) w Q := by
  refine wp_ly (fun hly => ?_)
  refine wp_iload_n d_M_nextLiteral_4 (i := 3) rfl 3 rfl ?_
  refine wp_aload_n d_M_nextLiteral_5 (i := 0) rfl 0 rfl ?_
  refine wp_getP d_M_nextLiteral_6 fl_M_56 cl_9 rfl (ly_o hly (by decide)) (ly_r (v := 94) hly (by decide +kernel)) ?_
  refine wp_iload_n d_M_nextLiteral_9 (i := 1) rfl 1 rfl ?_
  obtain ⟨hi1, h⟩ := h
  refine wp_iaload d_M_nextLiteral_10 (ly_a (n := 61) (N := 61) hly (by decide) hi1) ?_
  refine wp_icmp_ge (tgt := 58) d_M_nextLiteral_11 (by decide) (fun hc => ?_) (fun hc => ?_)
  · replace h := h.1 hc
    refine wp_iconst d_M_nextLiteral_58 (by decide) ?_
    refine wp_istore_n (L' := [(3, vi 0), (0, vr 78), (1, vi x1), (2, vi x2)]) d_M_nextLiteral_59 (i := 3) rfl rfl (by decide) ?_
    exact wp_pick [1, 2, 3, 0] rfl h
  · replace h := h.2 hc
    refine wp_aload_n d_M_nextLiteral_14 (i := 0) rfl 0 rfl ?_
    refine wp_getP d_M_nextLiteral_15 fl_M_123 cl_9 rfl (ly_o hly (by decide)) (ly_r (v := 116) hly (by decide +kernel)) ?_
    refine wp_iload_n d_M_nextLiteral_18 (i := 3) rfl 3 rfl ?_
    obtain ⟨hi2, h⟩ := h
    refine wp_zaload d_M_nextLiteral_19 (ly_a (n := 6) (N := 6) hly (by decide) hi2) ?_
    refine wp_if_ne (tgt := 52) d_M_nextLiteral_20 (by decide) (fun hc => ?_) (fun hc => ?_)
    · replace h := h.1 hc
      obtain ⟨ho, h⟩ := h
      refine wp_iinc (L' := [(3, vi (x3 + 1)), (0, vr 78), (1, vi x1), (2, vi x2)]) d_M_nextLiteral_52 3 rfl rfl (by decide) ho ?_
      refine wp_goto (tgt := 4) d_M_nextLiteral_55 (by decide) ?_
      exact wp_pick [1, 2, 3, 0] rfl h
    · replace h := h.2 hc
      refine wp_aload_n d_M_nextLiteral_23 (i := 0) rfl 0 rfl ?_
      refine wp_getP d_M_nextLiteral_24 fl_M_62 cl_9 rfl (ly_o hly (by decide)) (ly_r (v := 96) hly (by decide +kernel)) ?_
      refine wp_bipush d_M_nextLiteral_27 (by decide) (by decide) ?_
      refine wp_iload_n d_M_nextLiteral_29 (i := 1) rfl 1 rfl ?_
      obtain ⟨ho, h⟩ := h
      refine wp_imul d_M_nextLiteral_30 ho ?_
      refine wp_iload_n d_M_nextLiteral_31 (i := 3) rfl 3 rfl ?_
      obtain ⟨ho, h⟩ := h
      refine wp_iadd d_M_nextLiteral_32 ho ?_
      obtain ⟨hi3, h⟩ := h
      refine wp_iaload d_M_nextLiteral_33 (ly_a (n := 366) (N := 366) hly (by decide) hi3) ?_
      refine wp_if_eq (tgt := 52) d_M_nextLiteral_34 (by decide) (fun hc => ?_) (fun hc => ?_)
      · replace h := h.1 hc
        obtain ⟨ho, h⟩ := h
        refine wp_iinc (L' := [(3, vi (x3 + 1)), (0, vr 78), (1, vi x1), (2, vi x2)]) d_M_nextLiteral_52 3 rfl rfl (by decide) ho ?_
        refine wp_goto (tgt := 4) d_M_nextLiteral_55 (by decide) ?_
        exact wp_pick [1, 2, 3, 0] rfl h
      · replace h := h.2 hc
        refine wp_aload_n d_M_nextLiteral_37 (i := 0) rfl 0 rfl ?_
        refine wp_bipush d_M_nextLiteral_38 (by decide) (by decide) ?_
        refine wp_iload_n d_M_nextLiteral_40 (i := 1) rfl 1 rfl ?_
        obtain ⟨ho, h⟩ := h
        refine wp_imul d_M_nextLiteral_41 ho ?_
        refine wp_iload_n d_M_nextLiteral_42 (i := 3) rfl 3 rfl ?_
        obtain ⟨ho, h⟩ := h
        refine wp_iadd d_M_nextLiteral_43 ho ?_
        refine wp_callV (A := [vi ((6 * x1) + x3)]) (S := []) d_M_nextLiteral_44 cv_M_nextLiteral_326 (ly_o hly (by decide)) rfl (Nat.le_of_ble_eq_true rfl) (by decide) (MetS.mono h (fun r w4 hh => ?_))
        obtain ⟨z5, er, h⟩ := hh
        subst er
        refine wp_ly (fun hly => ?_)
        refine wp_if_eq (tgt := 52) d_M_nextLiteral_47 (by decide) (fun hc => ?_) (fun hc => ?_)
        · replace h := h.1 hc
          obtain ⟨ho, h⟩ := h
          refine wp_iinc (L' := [(3, vi (x3 + 1)), (0, vr 78), (1, vi x1), (2, vi x2)]) d_M_nextLiteral_52 3 rfl rfl (by decide) ho ?_
          refine wp_goto (tgt := 4) d_M_nextLiteral_55 (by decide) ?_
          exact wp_pick [1, 2, 3, 0] rfl h
        · replace h := h.2 hc
          refine wp_iload_n d_M_nextLiteral_50 (i := 3) rfl 3 rfl ?_
          exact wp_iret d_M_nextLiteral_51 rfl (by decide) h
set_option maxRecDepth 20000 in
set_option maxHeartbeats 2000000 in
theorem t_M_nextLiteral_60 {x1 : Int} {x2 : Int} {x3 : Int}  {w : Wo} {Q : Option AV → Wo → Prop} (h : (0 ≤ x1 ∧ x1 < 61) ∧ (((gI w 94 x1.toNat) ≤ x3 → Q (some (vi x2)) w) ∧ (¬ (gI w 94 x1.toNat) ≤ x3 → (0 ≤ x3 ∧ x3 < 6) ∧ ((¬ (gI w 116 x3.toNat) = 0 → inr32 (x3 + 1) ∧ Wp m_M_nextLiteral 60 [(0, vr 78), (1, vi x1), (2, vi x2), (3, vi (x3 + 1))] [] (0, 0) w Q) ∧ ((gI w 116 x3.toNat) = 0 → inr32 (6 * x1) ∧ inr32 ((6 * x1) + x3) ∧ (0 ≤ ((6 * x1) + x3) ∧ ((6 * x1) + x3) < 366) ∧ (((gI w 96 ((6 * x1) + x3).toNat) = 0 → ((x2 = (-1) → inr32 (x3 + 1) ∧ Wp m_M_nextLiteral 60 [(0, vr 78), (1, vi x1), (2, vi x3), (3, vi (x3 + 1))] [] (0, 0) w Q) ∧ (¬ x2 = (-1) → inr32 (6 * x1) ∧ inr32 ((6 * x1) + x3) ∧ MetI m_M_knownIn [vr 78, vi ((6 * x1) + x3)] w (fun z5 w4 => MetI m_M_many [vi z5] w4 (fun z7 w6 => inr32 (6 * x1) ∧ inr32 ((6 * x1) + x2) ∧ MetI m_M_knownIn [vr 78, vi ((6 * x1) + x2)] w6 (fun z9 w8 => MetI m_M_many [vi z9] w8 (fun z11 w10 => ((z7 ≤ z11 → inr32 (x3 + 1) ∧ Wp m_M_nextLiteral 60 [(0, vr 78), (1, vi x1), (2, vi x2), (3, vi (x3 + 1))] [] (0, 0) w10 Q) ∧ (¬ z7 ≤ z11 → inr32 (x3 + 1) ∧ Wp m_M_nextLiteral 60 [(0, vr 78), (1, vi x1), (2, vi x3), (3, vi (x3 + 1))] [] (0, 0) w10 Q))))))))) ∧ (¬ (gI w 96 ((6 * x1) + x3).toNat) = 0 → inr32 (x3 + 1) ∧ Wp m_M_nextLiteral 60 [(0, vr 78), (1, vi x1), (2, vi x2), (3, vi (x3 + 1))] [] (0, 0) w Q))))))) : Wp m_M_nextLiteral 60 [(0, vr 78), (1, vi x1), (2, vi x2), (3, vi x3)] [] (0, 0) w Q := by
  refine wp_ly (fun hly => ?_)
  refine wp_iload_n d_M_nextLiteral_60 (i := 3) rfl 3 rfl ?_
  refine wp_aload_n d_M_nextLiteral_61 (i := 0) rfl 0 rfl ?_
  refine wp_getP d_M_nextLiteral_62 fl_M_56 cl_9 rfl (ly_o hly (by decide)) (ly_r (v := 94) hly (by decide +kernel)) ?_
  refine wp_iload_n d_M_nextLiteral_65 (i := 1) rfl 1 rfl ?_
  obtain ⟨hi1, h⟩ := h
  refine wp_iaload d_M_nextLiteral_66 (ly_a (n := 61) (N := 61) hly (by decide) hi1) ?_
  refine wp_icmp_ge (tgt := 138) d_M_nextLiteral_67 (by decide) (fun hc => ?_) (fun hc => ?_)
  · replace h := h.1 hc
    refine wp_iload_n d_M_nextLiteral_138 (i := 2) rfl 2 rfl ?_
    exact wp_iret d_M_nextLiteral_139 rfl (by decide) h
  · replace h := h.2 hc
    refine wp_aload_n d_M_nextLiteral_70 (i := 0) rfl 0 rfl ?_
    refine wp_getP d_M_nextLiteral_71 fl_M_123 cl_9 rfl (ly_o hly (by decide)) (ly_r (v := 116) hly (by decide +kernel)) ?_
    refine wp_iload_n d_M_nextLiteral_74 (i := 3) rfl 3 rfl ?_
    obtain ⟨hi2, h⟩ := h
    refine wp_zaload d_M_nextLiteral_75 (ly_a (n := 6) (N := 6) hly (by decide) hi2) ?_
    refine wp_if_ne (tgt := 132) d_M_nextLiteral_76 (by decide) (fun hc => ?_) (fun hc => ?_)
    · replace h := h.1 hc
      obtain ⟨ho, h⟩ := h
      refine wp_iinc (L' := [(3, vi (x3 + 1)), (0, vr 78), (1, vi x1), (2, vi x2)]) d_M_nextLiteral_132 3 rfl rfl (by decide) ho ?_
      refine wp_goto (tgt := 60) d_M_nextLiteral_135 (by decide) ?_
      exact wp_pick [1, 2, 3, 0] rfl h
    · replace h := h.2 hc
      refine wp_aload_n d_M_nextLiteral_79 (i := 0) rfl 0 rfl ?_
      refine wp_getP d_M_nextLiteral_80 fl_M_62 cl_9 rfl (ly_o hly (by decide)) (ly_r (v := 96) hly (by decide +kernel)) ?_
      refine wp_bipush d_M_nextLiteral_83 (by decide) (by decide) ?_
      refine wp_iload_n d_M_nextLiteral_85 (i := 1) rfl 1 rfl ?_
      obtain ⟨ho, h⟩ := h
      refine wp_imul d_M_nextLiteral_86 ho ?_
      refine wp_iload_n d_M_nextLiteral_87 (i := 3) rfl 3 rfl ?_
      obtain ⟨ho, h⟩ := h
      refine wp_iadd d_M_nextLiteral_88 ho ?_
      obtain ⟨hi3, h⟩ := h
      refine wp_iaload d_M_nextLiteral_89 (ly_a (n := 366) (N := 366) hly (by decide) hi3) ?_
      refine wp_if_eq (tgt := 96) d_M_nextLiteral_90 (by decide) (fun hc => ?_) (fun hc => ?_)
      · replace h := h.1 hc
        refine wp_iload_n d_M_nextLiteral_96 (i := 2) rfl 2 rfl ?_
        refine wp_iconst d_M_nextLiteral_97 (by decide) ?_
        refine wp_icmp_eq (tgt := 130) d_M_nextLiteral_98 (by decide) (fun hc => ?_) (fun hc => ?_)
        · replace h := h.1 hc
          refine wp_iload_n d_M_nextLiteral_130 (i := 3) rfl 3 rfl ?_
          refine wp_istore_n (L' := [(2, vi x3), (0, vr 78), (1, vi x1), (3, vi x3)]) d_M_nextLiteral_131 (i := 2) rfl rfl (by decide) ?_
          obtain ⟨ho, h⟩ := h
          refine wp_iinc (L' := [(3, vi (x3 + 1)), (2, vi x3), (0, vr 78), (1, vi x1)]) d_M_nextLiteral_132 3 rfl rfl (by decide) ho ?_
          refine wp_goto (tgt := 60) d_M_nextLiteral_135 (by decide) ?_
          exact wp_pick [2, 3, 1, 0] rfl h
        · replace h := h.2 hc
          refine wp_aload_n d_M_nextLiteral_101 (i := 0) rfl 0 rfl ?_
          refine wp_bipush d_M_nextLiteral_102 (by decide) (by decide) ?_
          refine wp_iload_n d_M_nextLiteral_104 (i := 1) rfl 1 rfl ?_
          obtain ⟨ho, h⟩ := h
          refine wp_imul d_M_nextLiteral_105 ho ?_
          refine wp_iload_n d_M_nextLiteral_106 (i := 3) rfl 3 rfl ?_
          obtain ⟨ho, h⟩ := h
          refine wp_iadd d_M_nextLiteral_107 ho ?_
          refine wp_callV (A := [vi ((6 * x1) + x3)]) (S := []) d_M_nextLiteral_108 cv_M_nextLiteral_329 (ly_o hly (by decide)) rfl (Nat.le_of_ble_eq_true rfl) (by decide) (MetS.mono h (fun r w4 hh => ?_))
          obtain ⟨z5, er, h⟩ := hh
          subst er
          refine wp_ly (fun hly => ?_)
          refine wp_callS (A := [vi z5]) (S := []) d_M_nextLiteral_111 cs_M_nextLiteral_332 rfl (Nat.le_of_ble_eq_true rfl) (by decide) (MetS.mono h (fun r w6 hh => ?_))
          obtain ⟨z7, er, h⟩ := hh
          subst er
          refine wp_ly (fun hly => ?_)
          refine wp_aload_n d_M_nextLiteral_114 (i := 0) rfl 0 rfl ?_
          refine wp_bipush d_M_nextLiteral_115 (by decide) (by decide) ?_
          refine wp_iload_n d_M_nextLiteral_117 (i := 1) rfl 1 rfl ?_
          obtain ⟨ho, h⟩ := h
          refine wp_imul d_M_nextLiteral_118 ho ?_
          refine wp_iload_n d_M_nextLiteral_119 (i := 2) rfl 2 rfl ?_
          obtain ⟨ho, h⟩ := h
          refine wp_iadd d_M_nextLiteral_120 ho ?_
          refine wp_callV (A := [vi ((6 * x1) + x2)]) (S := [vi z7]) d_M_nextLiteral_121 cv_M_nextLiteral_329 (ly_o hly (by decide)) rfl (Nat.le_of_ble_eq_true rfl) (by decide) (MetS.mono h (fun r w8 hh => ?_))
          obtain ⟨z9, er, h⟩ := hh
          subst er
          refine wp_ly (fun hly => ?_)
          refine wp_callS (A := [vi z9]) (S := [vi z7]) d_M_nextLiteral_124 cs_M_nextLiteral_332 rfl (Nat.le_of_ble_eq_true rfl) (by decide) (MetS.mono h (fun r w10 hh => ?_))
          obtain ⟨z11, er, h⟩ := hh
          subst er
          refine wp_ly (fun hly => ?_)
          refine wp_icmp_le (tgt := 132) d_M_nextLiteral_127 (by decide) (fun hc => ?_) (fun hc => ?_)
          · replace h := h.1 hc
            obtain ⟨ho, h⟩ := h
            refine wp_iinc (L' := [(3, vi (x3 + 1)), (0, vr 78), (1, vi x1), (2, vi x2)]) d_M_nextLiteral_132 3 rfl rfl (by decide) ho ?_
            refine wp_goto (tgt := 60) d_M_nextLiteral_135 (by decide) ?_
            exact wp_pick [1, 2, 3, 0] rfl h
          · replace h := h.2 hc
            refine wp_iload_n d_M_nextLiteral_130 (i := 3) rfl 3 rfl ?_
            refine wp_istore_n (L' := [(2, vi x3), (0, vr 78), (1, vi x1), (3, vi x3)]) d_M_nextLiteral_131 (i := 2) rfl rfl (by decide) ?_
            obtain ⟨ho, h⟩ := h
            refine wp_iinc (L' := [(3, vi (x3 + 1)), (2, vi x3), (0, vr 78), (1, vi x1)]) d_M_nextLiteral_132 3 rfl rfl (by decide) ho ?_
            refine wp_goto (tgt := 60) d_M_nextLiteral_135 (by decide) ?_
            exact wp_pick [2, 3, 1, 0] rfl h
      · replace h := h.2 hc
        refine wp_goto (tgt := 132) d_M_nextLiteral_93 (by decide) ?_
        obtain ⟨ho, h⟩ := h
        refine wp_iinc (L' := [(3, vi (x3 + 1)), (0, vr 78), (1, vi x1), (2, vi x2)]) d_M_nextLiteral_132 3 rfl rfl (by decide) ho ?_
        refine wp_goto (tgt := 60) d_M_nextLiteral_135 (by decide) ?_
        exact wp_pick [1, 2, 3, 0] rfl h
set_option maxRecDepth 20000 in
set_option maxHeartbeats 2000000 in
theorem t_M_plan_0 {x1 : Int}  {w : Wo} {Q : Option AV → Wo → Prop} (h : Wp m_M_plan 2 [(0, vr 78), (1, vi x1), (2, vi 0)] [] (0, 0) w Q) : Wp m_M_plan 0 [(0, vr 78), (1, vi x1)] [] (0, 0) w Q := by
  refine wp_ly (fun hly => ?_)
  refine wp_iconst d_M_plan_0 (by decide) ?_
  refine wp_istore_n (L' := [(2, vi 0), (0, vr 78), (1, vi x1)]) d_M_plan_1 (i := 2) rfl rfl (by decide) ?_
  exact wp_pick [1, 2, 0] rfl h
set_option maxRecDepth 20000 in
set_option maxHeartbeats 2000000 in
theorem t_M_plan_2 {x1 : Int} {x2 : Int}  {w : Wo} {Q : Option AV → Wo → Prop} (h : ((9 ≤ x2 → Wp m_M_plan 23 [(0, vr 78), (1, vi x1), (2, vi 0)] [] (0, 0) w Q) ∧ (¬ 9 ≤ x2 → (0 ≤ x2 ∧ x2 < 9) ∧ (∀ w2 : Wo, w2 = uI w 115 x2.toNat 0 → inr32 (x2 + 1) ∧ Wp m_M_plan 2 [(0, vr 78), (1, vi x1), (2, vi (x2 + 1))] [] (0, 0) w2 Q)))) : Wp m_M_plan 2 [(0, vr 78), (1, vi x1), (2, vi x2)] [] (0, 0) w Q := by
  refine wp_ly (fun hly => ?_)
  refine wp_iload_n d_M_plan_2 (i := 2) rfl 2 rfl ?_
  refine wp_bipush d_M_plan_3 (by decide) (by decide) ?_
  refine wp_icmp_ge (tgt := 21) d_M_plan_5 (by decide) (fun hc => ?_) (fun hc => ?_)
  · replace h := h.1 hc
    refine wp_iconst d_M_plan_21 (by decide) ?_
    refine wp_istore_n (L' := [(2, vi 0), (0, vr 78), (1, vi x1)]) d_M_plan_22 (i := 2) rfl rfl (by decide) ?_
    exact wp_pick [1, 2, 0] rfl h
  · replace h := h.2 hc
    refine wp_aload_n d_M_plan_8 (i := 0) rfl 0 rfl ?_
    refine wp_getP d_M_plan_9 fl_M_120 cl_9 rfl (ly_o hly (by decide)) (ly_r (v := 115) hly (by decide +kernel)) ?_
    refine wp_iload_n d_M_plan_12 (i := 2) rfl 2 rfl ?_
    refine wp_iconst d_M_plan_13 (by decide) ?_
    obtain ⟨hi1, h⟩ := h
    refine wp_zastore d_M_plan_14 (ly_a (n := 9) (N := 9) hly (by decide) hi1) (by decide) (fun w2 e3 => ?_)
    replace h := h w2 e3
    refine wp_ly (fun hly => ?_)
    obtain ⟨ho, h⟩ := h
    refine wp_iinc (L' := [(2, vi (x2 + 1)), (0, vr 78), (1, vi x1)]) d_M_plan_15 2 rfl rfl (by decide) ho ?_
    refine wp_goto (tgt := 2) d_M_plan_18 (by decide) ?_
    exact wp_pick [1, 2, 0] rfl h
set_option maxRecDepth 20000 in
set_option maxHeartbeats 2000000 in
theorem t_M_plan_23 {x1 : Int} {x2 : Int}  {w : Wo} {Q : Option AV → Wo → Prop} (h : ((6 ≤ x2 → Wp m_M_plan 46 [(0, vr 78), (1, vi x1), (2, vi 0), (3, vi 0)] [] (0, 0) w Q) ∧ (¬ 6 ≤ x2 → (0 ≤ x2 ∧ x2 < 6) ∧ (∀ w2 : Wo, w2 = uI w 116 x2.toNat 0 → inr32 (x2 + 1) ∧ Wp m_M_plan 23 [(0, vr 78), (1, vi x1), (2, vi (x2 + 1))] [] (0, 0) w2 Q)))) : Wp m_M_plan 23 [(0, vr 78), (1, vi x1), (2, vi x2)] [] (0, 0) w Q := by
  refine wp_ly (fun hly => ?_)
  refine wp_iload_n d_M_plan_23 (i := 2) rfl 2 rfl ?_
  refine wp_bipush d_M_plan_24 (by decide) (by decide) ?_
  refine wp_icmp_ge (tgt := 42) d_M_plan_26 (by decide) (fun hc => ?_) (fun hc => ?_)
  · replace h := h.1 hc
    refine wp_iconst d_M_plan_42 (by decide) ?_
    refine wp_istore_n (L' := [(2, vi 0), (0, vr 78), (1, vi x1)]) d_M_plan_43 (i := 2) rfl rfl (by decide) ?_
    refine wp_iconst d_M_plan_44 (by decide) ?_
    refine wp_istore_n (L' := [(3, vi 0), (2, vi 0), (0, vr 78), (1, vi x1)]) d_M_plan_45 (i := 3) rfl rfl (by decide) ?_
    exact wp_pick [2, 3, 1, 0] rfl h
  · replace h := h.2 hc
    refine wp_aload_n d_M_plan_29 (i := 0) rfl 0 rfl ?_
    refine wp_getP d_M_plan_30 fl_M_123 cl_9 rfl (ly_o hly (by decide)) (ly_r (v := 116) hly (by decide +kernel)) ?_
    refine wp_iload_n d_M_plan_33 (i := 2) rfl 2 rfl ?_
    refine wp_iconst d_M_plan_34 (by decide) ?_
    obtain ⟨hi1, h⟩ := h
    refine wp_zastore d_M_plan_35 (ly_a (n := 6) (N := 6) hly (by decide) hi1) (by decide) (fun w2 e3 => ?_)
    replace h := h w2 e3
    refine wp_ly (fun hly => ?_)
    obtain ⟨ho, h⟩ := h
    refine wp_iinc (L' := [(2, vi (x2 + 1)), (0, vr 78), (1, vi x1)]) d_M_plan_36 2 rfl rfl (by decide) ho ?_
    refine wp_goto (tgt := 23) d_M_plan_39 (by decide) ?_
    exact wp_pick [1, 2, 0] rfl h
set_option maxRecDepth 20000 in
set_option maxHeartbeats 2000000 in
theorem t_M_plan_46 {x1 : Int} {x2 : Int} {x3 : Int}  {w : Wo} {Q : Option AV → Wo → Prop} (h : (0 ≤ x1 ∧ x1 < 61) ∧ (((gI w 94 x1.toNat) ≤ x3 → Q none w) ∧ (¬ (gI w 94 x1.toNat) ≤ x3 → MetI m_M_nextLiteral [vr 78, vi x1] w (fun z3 w2 => inr32 (6 * x1) ∧ inr32 ((6 * x1) + z3) ∧ (0 ≤ z3 ∧ z3 < 6) ∧ (∀ w5 : Wo, w5 = uI w2 116 z3.toNat 1 → (0 ≤ x3 ∧ x3 < 6) ∧ (∀ w8 : Wo, w8 = uI w5 112 x3.toNat z3 → MetI m_M_isAtom [vr 78, vi ((6 * x1) + z3)] w8 (fun z11 w10 => ((z11 = 0 → (0 ≤ x3 ∧ x3 < 6) ∧ (∀ w13 : Wo, w13 = uI w10 113 x3.toNat 0 → MetI m_M_isAtom [vr 78, vi ((6 * x1) + z3)] w13 (fun z16 w15 => ((z16 = 0 → (0 ≤ ((6 * x1) + z3) ∧ ((6 * x1) + z3) < 366) ∧ ((¬ (gI w15 96 ((6 * x1) + z3).toNat) = 3 → Wp m_M_plan 153 [(0, vr 78), (1, vi x1), (2, vi x2), (3, vi x3), (5, vi ((6 * x1) + z3)), (6, vi 2), (7, vi 0)] [] (0, 0) w15 Q) ∧ ((gI w15 96 ((6 * x1) + z3).toNat) = 3 → Wp m_M_plan 153 [(0, vr 78), (1, vi x1), (2, vi x2), (3, vi x3), (5, vi ((6 * x1) + z3)), (6, vi 3), (7, vi 0)] [] (0, 0) w15 Q))) ∧ (¬ z16 = 0 → (0 ≤ ((6 * x1) + z3) ∧ ((6 * x1) + z3) < 366) ∧ Wp m_M_plan 153 [(0, vr 78), (1, vi x1), (2, vi x2), (3, vi x3), (5, vi ((6 * x1) + z3)), (6, vi (gI w15 109 ((6 * x1) + z3).toNat)), (7, vi 0)] [] (0, 0) w15 Q))))) ∧ (¬ z11 = 0 → MetI m_M_knownIn [vr 78, vi ((6 * x1) + z3)] w10 (fun z20 w19 => (0 ≤ x3 ∧ x3 < 6) ∧ (∀ w22 : Wo, w22 = uI w19 113 x3.toNat z20 → MetI m_M_isAtom [vr 78, vi ((6 * x1) + z3)] w22 (fun z25 w24 => ((z25 = 0 → (0 ≤ ((6 * x1) + z3) ∧ ((6 * x1) + z3) < 366) ∧ ((¬ (gI w24 96 ((6 * x1) + z3).toNat) = 3 → Wp m_M_plan 153 [(0, vr 78), (1, vi x1), (2, vi x2), (3, vi x3), (5, vi ((6 * x1) + z3)), (6, vi 2), (7, vi 0)] [] (0, 0) w24 Q) ∧ ((gI w24 96 ((6 * x1) + z3).toNat) = 3 → Wp m_M_plan 153 [(0, vr 78), (1, vi x1), (2, vi x2), (3, vi x3), (5, vi ((6 * x1) + z3)), (6, vi 3), (7, vi 0)] [] (0, 0) w24 Q))) ∧ (¬ z25 = 0 → (0 ≤ ((6 * x1) + z3) ∧ ((6 * x1) + z3) < 366) ∧ Wp m_M_plan 153 [(0, vr 78), (1, vi x1), (2, vi x2), (3, vi x3), (5, vi ((6 * x1) + z3)), (6, vi (gI w24 109 ((6 * x1) + z3).toNat)), (7, vi 0)] [] (0, 0) w24 Q)))))))))))))) : Wp m_M_plan 46 [(0, vr 78), (1, vi x1), (2, vi x2), (3, vi x3)] [] (0, 0) w Q := by
  refine wp_ly (fun hly => ?_)
  refine wp_iload_n d_M_plan_46 (i := 3) rfl 3 rfl ?_
  refine wp_aload_n d_M_plan_47 (i := 0) rfl 0 rfl ?_
  refine wp_getP d_M_plan_48 fl_M_56 cl_9 rfl (ly_o hly (by decide)) (ly_r (v := 94) hly (by decide +kernel)) ?_
  refine wp_iload_n d_M_plan_51 (i := 1) rfl 1 rfl ?_
  obtain ⟨hi1, h⟩ := h
  refine wp_iaload d_M_plan_52 (ly_a (n := 61) (N := 61) hly (by decide) hi1) ?_
  refine wp_icmp_ge (tgt := 241) d_M_plan_53 (by decide) (fun hc => ?_) (fun hc => ?_)
  · replace h := h.1 hc
    exact wp_vret d_M_plan_241 rfl (by decide) h
  · replace h := h.2 hc
    refine wp_aload_n d_M_plan_56 (i := 0) rfl 0 rfl ?_
    refine wp_iload_n d_M_plan_57 (i := 1) rfl 1 rfl ?_
    refine wp_callV (A := [vi x1]) (S := []) d_M_plan_58 cv_M_plan_335 (ly_o hly (by decide)) rfl (Nat.le_of_ble_eq_true rfl) (by decide) (MetS.mono h (fun r w2 hh => ?_))
    obtain ⟨z3, er, h⟩ := hh
    subst er
    refine wp_ly (fun hly => ?_)
    refine wp_istore (L' := [(4, vi z3), (0, vr 78), (1, vi x1), (2, vi x2), (3, vi x3)]) d_M_plan_61 rfl (by decide) ?_
    refine wp_bipush d_M_plan_63 (by decide) (by decide) ?_
    refine wp_iload_n d_M_plan_65 (i := 1) rfl 2 rfl ?_
    obtain ⟨ho, h⟩ := h
    refine wp_imul d_M_plan_66 ho ?_
    refine wp_iload d_M_plan_67 0 rfl ?_
    obtain ⟨ho, h⟩ := h
    refine wp_iadd d_M_plan_69 ho ?_
    refine wp_istore (L' := [(5, vi ((6 * x1) + z3)), (4, vi z3), (0, vr 78), (1, vi x1), (2, vi x2), (3, vi x3)]) d_M_plan_70 rfl (by decide) ?_
    refine wp_aload_n d_M_plan_72 (i := 0) rfl 2 rfl ?_
    refine wp_getP d_M_plan_73 fl_M_123 cl_9 rfl (ly_o hly (by decide)) (ly_r (v := 116) hly (by decide +kernel)) ?_
    refine wp_iload d_M_plan_76 1 rfl ?_
    refine wp_iconst d_M_plan_78 (by decide) ?_
    obtain ⟨hi4, h⟩ := h
    refine wp_zastore d_M_plan_79 (ly_a (n := 6) (N := 6) hly (by decide) hi4) (by decide) (fun w5 e6 => ?_)
    replace h := h w5 e6
    refine wp_ly (fun hly => ?_)
    refine wp_aload_n d_M_plan_80 (i := 0) rfl 2 rfl ?_
    refine wp_getP d_M_plan_81 fl_M_111 cl_9 rfl (ly_o hly (by decide)) (ly_r (v := 112) hly (by decide +kernel)) ?_
    refine wp_iload_n d_M_plan_84 (i := 3) rfl 5 rfl ?_
    refine wp_iload d_M_plan_85 1 rfl ?_
    obtain ⟨hi7, h⟩ := h
    refine wp_iastore d_M_plan_87 (ly_a (n := 6) (N := 6) hly (by decide) hi7) (fun w8 e9 => ?_)
    replace h := h w8 e9
    refine wp_ly (fun hly => ?_)
    refine wp_aload_n d_M_plan_88 (i := 0) rfl 2 rfl ?_
    refine wp_getP d_M_plan_89 fl_M_114 cl_9 rfl (ly_o hly (by decide)) (ly_r (v := 113) hly (by decide +kernel)) ?_
    refine wp_iload_n d_M_plan_92 (i := 3) rfl 5 rfl ?_
    refine wp_aload_n d_M_plan_93 (i := 0) rfl 2 rfl ?_
    refine wp_iload d_M_plan_94 0 rfl ?_
    refine wp_callV (A := [vi ((6 * x1) + z3)]) (S := [vi x3, vr 113]) d_M_plan_96 cv_M_plan_296 (ly_o hly (by decide)) rfl (Nat.le_of_ble_eq_true rfl) (by decide) (MetS.mono h (fun r w10 hh => ?_))
    obtain ⟨z11, er, h⟩ := hh
    subst er
    refine wp_ly (fun hly => ?_)
    refine wp_if_eq (tgt := 111) d_M_plan_99 (by decide) (fun hc => ?_) (fun hc => ?_)
    · replace h := h.1 hc
      refine wp_iconst d_M_plan_111 (by decide) ?_
      obtain ⟨hi12, h⟩ := h
      refine wp_iastore d_M_plan_112 (ly_a (n := 6) (N := 6) hly (by decide) hi12) (fun w13 e14 => ?_)
      replace h := h w13 e14
      refine wp_ly (fun hly => ?_)
      refine wp_aload_n d_M_plan_113 (i := 0) rfl 2 rfl ?_
      refine wp_iload d_M_plan_114 0 rfl ?_
      refine wp_callV (A := [vi ((6 * x1) + z3)]) (S := []) d_M_plan_116 cv_M_plan_296 (ly_o hly (by decide)) rfl (Nat.le_of_ble_eq_true rfl) (by decide) (MetS.mono h (fun r w15 hh => ?_))
      obtain ⟨z16, er, h⟩ := hh
      subst er
      refine wp_ly (fun hly => ?_)
      refine wp_if_eq (tgt := 132) d_M_plan_119 (by decide) (fun hc => ?_) (fun hc => ?_)
      · replace h := h.1 hc
        refine wp_aload_n d_M_plan_132 (i := 0) rfl 2 rfl ?_
        refine wp_getP d_M_plan_133 fl_M_62 cl_9 rfl (ly_o hly (by decide)) (ly_r (v := 96) hly (by decide +kernel)) ?_
        refine wp_iload d_M_plan_136 0 rfl ?_
        obtain ⟨hi17, h⟩ := h
        refine wp_iaload d_M_plan_138 (ly_a (n := 366) (N := 366) hly (by decide) hi17) ?_
        refine wp_iconst d_M_plan_139 (by decide) ?_
        refine wp_icmp_ne (tgt := 147) d_M_plan_140 (by decide) (fun hc => ?_) (fun hc => ?_)
        · replace h := h.1 hc
          refine wp_iconst d_M_plan_147 (by decide) ?_
          refine wp_istore (L' := [(6, vi 2), (5, vi ((6 * x1) + z3)), (4, vi z3), (0, vr 78), (1, vi x1), (2, vi x2), (3, vi x3)]) d_M_plan_148 rfl (by decide) ?_
          refine wp_iconst d_M_plan_150 (by decide) ?_
          refine wp_istore (L' := [(7, vi 0), (6, vi 2), (5, vi ((6 * x1) + z3)), (4, vi z3), (0, vr 78), (1, vi x1), (2, vi x2), (3, vi x3)]) d_M_plan_151 rfl (by decide) ?_
          exact wp_pick [4, 5, 6, 7, 2, 1, 0] rfl h
        · replace h := h.2 hc
          refine wp_iconst d_M_plan_143 (by decide) ?_
          refine wp_goto (tgt := 148) d_M_plan_144 (by decide) ?_
          refine wp_istore (L' := [(6, vi 3), (5, vi ((6 * x1) + z3)), (4, vi z3), (0, vr 78), (1, vi x1), (2, vi x2), (3, vi x3)]) d_M_plan_148 rfl (by decide) ?_
          refine wp_iconst d_M_plan_150 (by decide) ?_
          refine wp_istore (L' := [(7, vi 0), (6, vi 3), (5, vi ((6 * x1) + z3)), (4, vi z3), (0, vr 78), (1, vi x1), (2, vi x2), (3, vi x3)]) d_M_plan_151 rfl (by decide) ?_
          exact wp_pick [4, 5, 6, 7, 2, 1, 0] rfl h
      · replace h := h.2 hc
        refine wp_aload_n d_M_plan_122 (i := 0) rfl 2 rfl ?_
        refine wp_getP d_M_plan_123 fl_M_102 cl_9 rfl (ly_o hly (by decide)) (ly_r (v := 109) hly (by decide +kernel)) ?_
        refine wp_iload d_M_plan_126 0 rfl ?_
        obtain ⟨hi18, h⟩ := h
        refine wp_iaload d_M_plan_128 (ly_a (n := 366) (N := 366) hly (by decide) hi18) ?_
        refine wp_goto (tgt := 148) d_M_plan_129 (by decide) ?_
        refine wp_istore (L' := [(6, vi (gI w15 109 ((6 * x1) + z3).toNat)), (5, vi ((6 * x1) + z3)), (4, vi z3), (0, vr 78), (1, vi x1), (2, vi x2), (3, vi x3)]) d_M_plan_148 rfl (by decide) ?_
        refine wp_iconst d_M_plan_150 (by decide) ?_
        refine wp_istore (L' := [(7, vi 0), (6, vi (gI w15 109 ((6 * x1) + z3).toNat)), (5, vi ((6 * x1) + z3)), (4, vi z3), (0, vr 78), (1, vi x1), (2, vi x2), (3, vi x3)]) d_M_plan_151 rfl (by decide) ?_
        exact wp_pick [4, 5, 6, 7, 2, 1, 0] rfl h
    · replace h := h.2 hc
      refine wp_aload_n d_M_plan_102 (i := 0) rfl 2 rfl ?_
      refine wp_iload d_M_plan_103 0 rfl ?_
      refine wp_callV (A := [vi ((6 * x1) + z3)]) (S := [vi x3, vr 113]) d_M_plan_105 cv_M_plan_329 (ly_o hly (by decide)) rfl (Nat.le_of_ble_eq_true rfl) (by decide) (MetS.mono h (fun r w19 hh => ?_))
      obtain ⟨z20, er, h⟩ := hh
      subst er
      refine wp_ly (fun hly => ?_)
      refine wp_goto (tgt := 112) d_M_plan_108 (by decide) ?_
      obtain ⟨hi21, h⟩ := h
      refine wp_iastore d_M_plan_112 (ly_a (n := 6) (N := 6) hly (by decide) hi21) (fun w22 e23 => ?_)
      replace h := h w22 e23
      refine wp_ly (fun hly => ?_)
      refine wp_aload_n d_M_plan_113 (i := 0) rfl 2 rfl ?_
      refine wp_iload d_M_plan_114 0 rfl ?_
      refine wp_callV (A := [vi ((6 * x1) + z3)]) (S := []) d_M_plan_116 cv_M_plan_296 (ly_o hly (by decide)) rfl (Nat.le_of_ble_eq_true rfl) (by decide) (MetS.mono h (fun r w24 hh => ?_))
      obtain ⟨z25, er, h⟩ := hh
      subst er
      refine wp_ly (fun hly => ?_)
      refine wp_if_eq (tgt := 132) d_M_plan_119 (by decide) (fun hc => ?_) (fun hc => ?_)
      · replace h := h.1 hc
        refine wp_aload_n d_M_plan_132 (i := 0) rfl 2 rfl ?_
        refine wp_getP d_M_plan_133 fl_M_62 cl_9 rfl (ly_o hly (by decide)) (ly_r (v := 96) hly (by decide +kernel)) ?_
        refine wp_iload d_M_plan_136 0 rfl ?_
        obtain ⟨hi26, h⟩ := h
        refine wp_iaload d_M_plan_138 (ly_a (n := 366) (N := 366) hly (by decide) hi26) ?_
        refine wp_iconst d_M_plan_139 (by decide) ?_
        refine wp_icmp_ne (tgt := 147) d_M_plan_140 (by decide) (fun hc => ?_) (fun hc => ?_)
        · replace h := h.1 hc
          refine wp_iconst d_M_plan_147 (by decide) ?_
          refine wp_istore (L' := [(6, vi 2), (5, vi ((6 * x1) + z3)), (4, vi z3), (0, vr 78), (1, vi x1), (2, vi x2), (3, vi x3)]) d_M_plan_148 rfl (by decide) ?_
          refine wp_iconst d_M_plan_150 (by decide) ?_
          refine wp_istore (L' := [(7, vi 0), (6, vi 2), (5, vi ((6 * x1) + z3)), (4, vi z3), (0, vr 78), (1, vi x1), (2, vi x2), (3, vi x3)]) d_M_plan_151 rfl (by decide) ?_
          exact wp_pick [4, 5, 6, 7, 2, 1, 0] rfl h
        · replace h := h.2 hc
          refine wp_iconst d_M_plan_143 (by decide) ?_
          refine wp_goto (tgt := 148) d_M_plan_144 (by decide) ?_
          refine wp_istore (L' := [(6, vi 3), (5, vi ((6 * x1) + z3)), (4, vi z3), (0, vr 78), (1, vi x1), (2, vi x2), (3, vi x3)]) d_M_plan_148 rfl (by decide) ?_
          refine wp_iconst d_M_plan_150 (by decide) ?_
          refine wp_istore (L' := [(7, vi 0), (6, vi 3), (5, vi ((6 * x1) + z3)), (4, vi z3), (0, vr 78), (1, vi x1), (2, vi x2), (3, vi x3)]) d_M_plan_151 rfl (by decide) ?_
          exact wp_pick [4, 5, 6, 7, 2, 1, 0] rfl h
      · replace h := h.2 hc
        refine wp_aload_n d_M_plan_122 (i := 0) rfl 2 rfl ?_
        refine wp_getP d_M_plan_123 fl_M_102 cl_9 rfl (ly_o hly (by decide)) (ly_r (v := 109) hly (by decide +kernel)) ?_
        refine wp_iload d_M_plan_126 0 rfl ?_
        obtain ⟨hi27, h⟩ := h
        refine wp_iaload d_M_plan_128 (ly_a (n := 366) (N := 366) hly (by decide) hi27) ?_
        refine wp_goto (tgt := 148) d_M_plan_129 (by decide) ?_
        refine wp_istore (L' := [(6, vi (gI w24 109 ((6 * x1) + z3).toNat)), (5, vi ((6 * x1) + z3)), (4, vi z3), (0, vr 78), (1, vi x1), (2, vi x2), (3, vi x3)]) d_M_plan_148 rfl (by decide) ?_
        refine wp_iconst d_M_plan_150 (by decide) ?_
        refine wp_istore (L' := [(7, vi 0), (6, vi (gI w24 109 ((6 * x1) + z3).toNat)), (5, vi ((6 * x1) + z3)), (4, vi z3), (0, vr 78), (1, vi x1), (2, vi x2), (3, vi x3)]) d_M_plan_151 rfl (by decide) ?_
        exact wp_pick [4, 5, 6, 7, 2, 1, 0] rfl h

set_option maxRecDepth 20000 in
set_option maxHeartbeats 2000000 in
theorem t_JI_bitCount_0 {x0 : Int}  {w : Wo} {Q : Option AV → Wo → Prop} (h : inr32 (x0 - (b_iand (b_iushr x0 1) 1431655765)) ∧ inr32 ((b_iand (x0 - (b_iand (b_iushr x0 1) 1431655765)) 858993459) + (b_iand (b_iushr (x0 - (b_iand (b_iushr x0 1) 1431655765)) 2) 858993459)) ∧ inr32 (((b_iand (x0 - (b_iand (b_iushr x0 1) 1431655765)) 858993459) + (b_iand (b_iushr (x0 - (b_iand (b_iushr x0 1) 1431655765)) 2) 858993459)) + (b_iushr ((b_iand (x0 - (b_iand (b_iushr x0 1) 1431655765)) 858993459) + (b_iand (b_iushr (x0 - (b_iand (b_iushr x0 1) 1431655765)) 2) 858993459)) 4)) ∧ inr32 ((b_iand (((b_iand (x0 - (b_iand (b_iushr x0 1) 1431655765)) 858993459) + (b_iand (b_iushr (x0 - (b_iand (b_iushr x0 1) 1431655765)) 2) 858993459)) + (b_iushr ((b_iand (x0 - (b_iand (b_iushr x0 1) 1431655765)) 858993459) + (b_iand (b_iushr (x0 - (b_iand (b_iushr x0 1) 1431655765)) 2) 858993459)) 4)) 252645135) + (b_iushr (b_iand (((b_iand (x0 - (b_iand (b_iushr x0 1) 1431655765)) 858993459) + (b_iand (b_iushr (x0 - (b_iand (b_iushr x0 1) 1431655765)) 2) 858993459)) + (b_iushr ((b_iand (x0 - (b_iand (b_iushr x0 1) 1431655765)) 858993459) + (b_iand (b_iushr (x0 - (b_iand (b_iushr x0 1) 1431655765)) 2) 858993459)) 4)) 252645135) 8)) ∧ inr32 (((b_iand (((b_iand (x0 - (b_iand (b_iushr x0 1) 1431655765)) 858993459) + (b_iand (b_iushr (x0 - (b_iand (b_iushr x0 1) 1431655765)) 2) 858993459)) + (b_iushr ((b_iand (x0 - (b_iand (b_iushr x0 1) 1431655765)) 858993459) + (b_iand (b_iushr (x0 - (b_iand (b_iushr x0 1) 1431655765)) 2) 858993459)) 4)) 252645135) + (b_iushr (b_iand (((b_iand (x0 - (b_iand (b_iushr x0 1) 1431655765)) 858993459) + (b_iand (b_iushr (x0 - (b_iand (b_iushr x0 1) 1431655765)) 2) 858993459)) + (b_iushr ((b_iand (x0 - (b_iand (b_iushr x0 1) 1431655765)) 858993459) + (b_iand (b_iushr (x0 - (b_iand (b_iushr x0 1) 1431655765)) 2) 858993459)) 4)) 252645135) 8)) + (b_iushr ((b_iand (((b_iand (x0 - (b_iand (b_iushr x0 1) 1431655765)) 858993459) + (b_iand (b_iushr (x0 - (b_iand (b_iushr x0 1) 1431655765)) 2) 858993459)) + (b_iushr ((b_iand (x0 - (b_iand (b_iushr x0 1) 1431655765)) 858993459) + (b_iand (b_iushr (x0 - (b_iand (b_iushr x0 1) 1431655765)) 2) 858993459)) 4)) 252645135) + (b_iushr (b_iand (((b_iand (x0 - (b_iand (b_iushr x0 1) 1431655765)) 858993459) + (b_iand (b_iushr (x0 - (b_iand (b_iushr x0 1) 1431655765)) 2) 858993459)) + (b_iushr ((b_iand (x0 - (b_iand (b_iushr x0 1) 1431655765)) 858993459) + (b_iand (b_iushr (x0 - (b_iand (b_iushr x0 1) 1431655765)) 2) 858993459)) 4)) 252645135) 8)) 16)) ∧ Q (some (vi (b_iand (((b_iand (((b_iand (x0 - (b_iand (b_iushr x0 1) 1431655765)) 858993459) + (b_iand (b_iushr (x0 - (b_iand (b_iushr x0 1) 1431655765)) 2) 858993459)) + (b_iushr ((b_iand (x0 - (b_iand (b_iushr x0 1) 1431655765)) 858993459) + (b_iand (b_iushr (x0 - (b_iand (b_iushr x0 1) 1431655765)) 2) 858993459)) 4)) 252645135) + (b_iushr (b_iand (((b_iand (x0 - (b_iand (b_iushr x0 1) 1431655765)) 858993459) + (b_iand (b_iushr (x0 - (b_iand (b_iushr x0 1) 1431655765)) 2) 858993459)) + (b_iushr ((b_iand (x0 - (b_iand (b_iushr x0 1) 1431655765)) 858993459) + (b_iand (b_iushr (x0 - (b_iand (b_iushr x0 1) 1431655765)) 2) 858993459)) 4)) 252645135) 8)) + (b_iushr ((b_iand (((b_iand (x0 - (b_iand (b_iushr x0 1) 1431655765)) 858993459) + (b_iand (b_iushr (x0 - (b_iand (b_iushr x0 1) 1431655765)) 2) 858993459)) + (b_iushr ((b_iand (x0 - (b_iand (b_iushr x0 1) 1431655765)) 858993459) + (b_iand (b_iushr (x0 - (b_iand (b_iushr x0 1) 1431655765)) 2) 858993459)) 4)) 252645135) + (b_iushr (b_iand (((b_iand (x0 - (b_iand (b_iushr x0 1) 1431655765)) 858993459) + (b_iand (b_iushr (x0 - (b_iand (b_iushr x0 1) 1431655765)) 2) 858993459)) + (b_iushr ((b_iand (x0 - (b_iand (b_iushr x0 1) 1431655765)) 858993459) + (b_iand (b_iushr (x0 - (b_iand (b_iushr x0 1) 1431655765)) 2) 858993459)) 4)) 252645135) 8)) 16)) 63))) w) : Wp m_JI_bitCount 0 [(0, vi x0)] [] (0, 0) w Q := by
  refine wp_ly (fun hly => ?_)
  refine wp_iload_n d_JI_bitCount_0 (i := 0) rfl 0 rfl ?_
  refine wp_iload_n d_JI_bitCount_1 (i := 0) rfl 0 rfl ?_
  refine wp_iconst d_JI_bitCount_2 (by decide) ?_
  refine wp_iushr d_JI_bitCount_3 ?_
  refine wp_ldcw d_JI_bitCount_4 (x := 1431655765) lc_JI_265 (by decide) ?_
  refine wp_iand d_JI_bitCount_7 ?_
  obtain ⟨ho, h⟩ := h
  refine wp_isub d_JI_bitCount_8 ho ?_
  refine wp_istore_n (L' := [(0, vi (x0 - (b_iand (b_iushr x0 1) 1431655765)))]) d_JI_bitCount_9 (i := 0) rfl rfl (by decide) ?_
  refine wp_iload_n d_JI_bitCount_10 (i := 0) rfl 0 rfl ?_
  refine wp_ldcw d_JI_bitCount_11 (x := 858993459) lc_JI_266 (by decide) ?_
  refine wp_iand d_JI_bitCount_14 ?_
  refine wp_iload_n d_JI_bitCount_15 (i := 0) rfl 0 rfl ?_
  refine wp_iconst d_JI_bitCount_16 (by decide) ?_
  refine wp_iushr d_JI_bitCount_17 ?_
  refine wp_ldcw d_JI_bitCount_18 (x := 858993459) lc_JI_266 (by decide) ?_
  refine wp_iand d_JI_bitCount_21 ?_
  obtain ⟨ho, h⟩ := h
  refine wp_iadd d_JI_bitCount_22 ho ?_
  refine wp_istore_n (L' := [(0, vi ((b_iand (x0 - (b_iand (b_iushr x0 1) 1431655765)) 858993459) + (b_iand (b_iushr (x0 - (b_iand (b_iushr x0 1) 1431655765)) 2) 858993459)))]) d_JI_bitCount_23 (i := 0) rfl rfl (by decide) ?_
  refine wp_iload_n d_JI_bitCount_24 (i := 0) rfl 0 rfl ?_
  refine wp_iload_n d_JI_bitCount_25 (i := 0) rfl 0 rfl ?_
  refine wp_iconst d_JI_bitCount_26 (by decide) ?_
  refine wp_iushr d_JI_bitCount_27 ?_
  obtain ⟨ho, h⟩ := h
  refine wp_iadd d_JI_bitCount_28 ho ?_
  refine wp_ldcw d_JI_bitCount_29 (x := 252645135) lc_JI_267 (by decide) ?_
  refine wp_iand d_JI_bitCount_32 ?_
  refine wp_istore_n (L' := [(0, vi (b_iand (((b_iand (x0 - (b_iand (b_iushr x0 1) 1431655765)) 858993459) + (b_iand (b_iushr (x0 - (b_iand (b_iushr x0 1) 1431655765)) 2) 858993459)) + (b_iushr ((b_iand (x0 - (b_iand (b_iushr x0 1) 1431655765)) 858993459) + (b_iand (b_iushr (x0 - (b_iand (b_iushr x0 1) 1431655765)) 2) 858993459)) 4)) 252645135))]) d_JI_bitCount_33 (i := 0) rfl rfl (by decide) ?_
  refine wp_iload_n d_JI_bitCount_34 (i := 0) rfl 0 rfl ?_
  refine wp_iload_n d_JI_bitCount_35 (i := 0) rfl 0 rfl ?_
  refine wp_bipush d_JI_bitCount_36 (by decide) (by decide) ?_
  refine wp_iushr d_JI_bitCount_38 ?_
  obtain ⟨ho, h⟩ := h
  refine wp_iadd d_JI_bitCount_39 ho ?_
  refine wp_istore_n (L' := [(0, vi ((b_iand (((b_iand (x0 - (b_iand (b_iushr x0 1) 1431655765)) 858993459) + (b_iand (b_iushr (x0 - (b_iand (b_iushr x0 1) 1431655765)) 2) 858993459)) + (b_iushr ((b_iand (x0 - (b_iand (b_iushr x0 1) 1431655765)) 858993459) + (b_iand (b_iushr (x0 - (b_iand (b_iushr x0 1) 1431655765)) 2) 858993459)) 4)) 252645135) + (b_iushr (b_iand (((b_iand (x0 - (b_iand (b_iushr x0 1) 1431655765)) 858993459) + (b_iand (b_iushr (x0 - (b_iand (b_iushr x0 1) 1431655765)) 2) 858993459)) + (b_iushr ((b_iand (x0 - (b_iand (b_iushr x0 1) 1431655765)) 858993459) + (b_iand (b_iushr (x0 - (b_iand (b_iushr x0 1) 1431655765)) 2) 858993459)) 4)) 252645135) 8)))]) d_JI_bitCount_40 (i := 0) rfl rfl (by decide) ?_
  refine wp_iload_n d_JI_bitCount_41 (i := 0) rfl 0 rfl ?_
  refine wp_iload_n d_JI_bitCount_42 (i := 0) rfl 0 rfl ?_
  refine wp_bipush d_JI_bitCount_43 (by decide) (by decide) ?_
  refine wp_iushr d_JI_bitCount_45 ?_
  obtain ⟨ho, h⟩ := h
  refine wp_iadd d_JI_bitCount_46 ho ?_
  refine wp_istore_n (L' := [(0, vi (((b_iand (((b_iand (x0 - (b_iand (b_iushr x0 1) 1431655765)) 858993459) + (b_iand (b_iushr (x0 - (b_iand (b_iushr x0 1) 1431655765)) 2) 858993459)) + (b_iushr ((b_iand (x0 - (b_iand (b_iushr x0 1) 1431655765)) 858993459) + (b_iand (b_iushr (x0 - (b_iand (b_iushr x0 1) 1431655765)) 2) 858993459)) 4)) 252645135) + (b_iushr (b_iand (((b_iand (x0 - (b_iand (b_iushr x0 1) 1431655765)) 858993459) + (b_iand (b_iushr (x0 - (b_iand (b_iushr x0 1) 1431655765)) 2) 858993459)) + (b_iushr ((b_iand (x0 - (b_iand (b_iushr x0 1) 1431655765)) 858993459) + (b_iand (b_iushr (x0 - (b_iand (b_iushr x0 1) 1431655765)) 2) 858993459)) 4)) 252645135) 8)) + (b_iushr ((b_iand (((b_iand (x0 - (b_iand (b_iushr x0 1) 1431655765)) 858993459) + (b_iand (b_iushr (x0 - (b_iand (b_iushr x0 1) 1431655765)) 2) 858993459)) + (b_iushr ((b_iand (x0 - (b_iand (b_iushr x0 1) 1431655765)) 858993459) + (b_iand (b_iushr (x0 - (b_iand (b_iushr x0 1) 1431655765)) 2) 858993459)) 4)) 252645135) + (b_iushr (b_iand (((b_iand (x0 - (b_iand (b_iushr x0 1) 1431655765)) 858993459) + (b_iand (b_iushr (x0 - (b_iand (b_iushr x0 1) 1431655765)) 2) 858993459)) + (b_iushr ((b_iand (x0 - (b_iand (b_iushr x0 1) 1431655765)) 858993459) + (b_iand (b_iushr (x0 - (b_iand (b_iushr x0 1) 1431655765)) 2) 858993459)) 4)) 252645135) 8)) 16)))]) d_JI_bitCount_47 (i := 0) rfl rfl (by decide) ?_
  refine wp_iload_n d_JI_bitCount_48 (i := 0) rfl 0 rfl ?_
  refine wp_bipush d_JI_bitCount_49 (by decide) (by decide) ?_
  refine wp_iand d_JI_bitCount_51 ?_
  exact wp_iret d_JI_bitCount_52 rfl (by decide) h

set_option maxRecDepth 20000 in
set_option maxHeartbeats 2000000 in
theorem t_Rd_read_0 {r2 : Nat} (hr2 : isBk r2) {w : Wo} {Q : Option AV → Wo → Prop} (h : MetV m_Tk_cut [vr 5, vr 2] w (fun w1 => (∀ w2 : Wo, w2 = uP w1 4 3 r2 → isBk (gP w2 4 3) ∧ MetV m_Bk_clear [vr (gP w2 4 3)] w2 (fun w5 => (∀ w6 : Wo, w6 = uI w5 37 2 0 → (∀ w8 : Wo, w8 = uI w6 4 4 0 → (∀ w10 : Wo, w10 = uI w8 4 5 0 → MetV m_Rd_moveTo [vr 4, vi 0] w10 (fun w12 => Wp m_Rd_read 45 [(0, vr 4), (3, vi 0)] [] (0, 0) w12 Q)))))))) : Wp m_Rd_read 0 [(0, vr 4), (1, vr 2), (2, vr r2)] [] (0, 0) w Q := by
  refine wp_ly (fun hly => ?_)
  refine wp_aload_n d_Rd_read_0 (i := 0) rfl 0 rfl ?_
  refine wp_getP d_Rd_read_1 fl_Rd_12 cl_4 rfl (ly_o hly (by decide)) (ly_r (v := 5) hly (by decide +kernel)) ?_
  refine wp_aload_n d_Rd_read_4 (i := 1) rfl 1 rfl ?_
  refine wp_callV (A := [vr 2]) (S := []) d_Rd_read_5 cv_Rd_read_32 (ly_o hly (by decide)) rfl (Nat.le_of_ble_eq_true rfl) (by decide) (MetS.mono h (fun r w1 hh => ?_))
  obtain ⟨er, h⟩ := hh
  subst er
  refine wp_ly (fun hly => ?_)
  refine wp_aload_n d_Rd_read_8 (i := 0) rfl 0 rfl ?_
  refine wp_aload_n d_Rd_read_9 (i := 2) rfl 2 rfl ?_
  refine wp_putP d_Rd_read_10 fl_Rd_36 (Or.inl rfl) (Or.inl rfl) cl_4 ⟨rfl, by first | exact Or.inl ⟨_, rfl⟩ | exact Or.inr ⟨_, rfl⟩⟩ (ly_o hly (by decide)) (fun _ hl => ly_ptarget hl hr2) (fun w2 e3 => ?_)
  replace h := h w2 e3
  refine wp_ly (fun hly => ?_)
  refine wp_aload_n d_Rd_read_13 (i := 0) rfl 0 rfl ?_
  obtain ⟨hb4, h⟩ := h
  refine wp_getP d_Rd_read_14 fl_Rd_36 cl_4 rfl (ly_o hly (by decide)) rfl ?_
  refine wp_callV (A := []) (S := []) d_Rd_read_17 cv_Rd_read_40 (ly_o hly (bk_o hb4)) rfl (Nat.le_of_ble_eq_true rfl) (by decide) (MetS.mono h (fun r w5 hh => ?_))
  obtain ⟨er, h⟩ := hh
  subst er
  refine wp_ly (fun hly => ?_)
  refine wp_aload_n d_Rd_read_20 (i := 0) rfl 0 rfl ?_
  refine wp_getP d_Rd_read_21 fl_Rd_28 cl_4 rfl (ly_o hly (by decide)) (ly_r (v := 37) hly (by decide +kernel)) ?_
  refine wp_iconst d_Rd_read_24 (by decide) ?_
  refine wp_putI d_Rd_read_25 fl_Rd_45 cl_2 ⟨rfl, rfl⟩ (ly_o hly (by decide)) (fun w6 e7 => ?_)
  replace h := h w6 e7
  refine wp_ly (fun hly => ?_)
  refine wp_aload_n d_Rd_read_28 (i := 0) rfl 0 rfl ?_
  refine wp_iconst d_Rd_read_29 (by decide) ?_
  refine wp_putI d_Rd_read_30 fl_Rd_49 cl_4 ⟨rfl, rfl⟩ (ly_o hly (by decide)) (fun w8 e9 => ?_)
  replace h := h w8 e9
  refine wp_ly (fun hly => ?_)
  refine wp_aload_n d_Rd_read_33 (i := 0) rfl 0 rfl ?_
  refine wp_iconst d_Rd_read_34 (by decide) ?_
  refine wp_putI d_Rd_read_35 fl_Rd_52 cl_4 ⟨rfl, rfl⟩ (ly_o hly (by decide)) (fun w10 e11 => ?_)
  replace h := h w10 e11
  refine wp_ly (fun hly => ?_)
  refine wp_aload_n d_Rd_read_38 (i := 0) rfl 0 rfl ?_
  refine wp_iconst d_Rd_read_39 (by decide) ?_
  refine wp_callV (A := [vi 0]) (S := []) d_Rd_read_40 cv_Rd_read_55 (ly_o hly (by decide)) rfl (Nat.le_of_ble_eq_true rfl) (by decide) (MetS.mono h (fun r w12 hh => ?_))
  obtain ⟨er, h⟩ := hh
  subst er
  refine wp_ly (fun hly => ?_)
  refine wp_iconst d_Rd_read_43 (by decide) ?_
  refine wp_istore_n (L' := [(3, vi 0), (0, vr 4), (1, vr 2), (2, vr r2)]) d_Rd_read_44 (i := 3) rfl rfl (by decide) ?_
  exact wp_pick [1, 0] rfl h
set_option maxRecDepth 20000 in
set_option maxHeartbeats 2000000 in
theorem t_Rd_read_45 {x3 : Int}  {w : Wo} {Q : Option AV → Wo → Prop} (h : (((gI w 5 3) ≤ x3 → ((¬ (gI w 4 4) = 0 → ((¬ (gI w 4 4) = 0 → Q (some (vi 0)) w) ∧ ((gI w 4 4) = 0 → Q (some (vi 1)) w))) ∧ ((gI w 4 4) = 0 → MetV m_Rd_finish [vr 4] w (fun w1 => ((¬ (gI w1 4 4) = 0 → Q (some (vi 0)) w1) ∧ ((gI w1 4 4) = 0 → Q (some (vi 1)) w1)))))) ∧ (¬ (gI w 5 3) ≤ x3 → (((gI w 4 7) = 0 → ((¬ (gI w 4 4) = 0 → ((¬ (gI w 4 4) = 0 → Q (some (vi 0)) w) ∧ ((gI w 4 4) = 0 → Q (some (vi 1)) w))) ∧ ((gI w 4 4) = 0 → MetV m_Rd_finish [vr 4] w (fun w2 => ((¬ (gI w2 4 4) = 0 → Q (some (vi 0)) w2) ∧ ((gI w2 4 4) = 0 → Q (some (vi 1)) w2)))))) ∧ (¬ (gI w 4 7) = 0 → MetV m_Cl_begin [vr 9, vi (gI w 4 8)] w (fun w3 => MetI m_Rd_readAtom [vr 4, vr 10] w3 (fun z5 w4 => ((z5 = 0 → Q (some (vi 0)) w4) ∧ (¬ z5 = 0 → MetI m_Rd_readBody [vr 4] w4 (fun z7 w6 => ((¬ z7 = 0 → (((gI w6 9 2) ≤ 0 → MetI m_Rd_endFact [vr 4] w6 (fun z9 w8 => ((¬ z9 = 0 → inr32 (x3 + 1) ∧ Wp m_Rd_read 45 [(0, vr 4), (3, vi (x3 + 1))] [] (0, 0) w8 Q) ∧ (z9 = 0 → Q (some (vi 0)) w8)))) ∧ (¬ (gI w6 9 2) ≤ 0 → MetI m_Rd_endRule [vr 4] w6 (fun z11 w10 => ((z11 = 0 → Q (some (vi 0)) w10) ∧ (¬ z11 = 0 → inr32 (x3 + 1) ∧ Wp m_Rd_read 45 [(0, vr 4), (3, vi (x3 + 1))] [] (0, 0) w10 Q)))))) ∧ (z7 = 0 → Q (some (vi 0)) w6)))))))))))) : Wp m_Rd_read 45 [(0, vr 4), (3, vi x3)] [] (0, 0) w Q := by
  refine wp_ly (fun hly => ?_)
  refine wp_iload_n d_Rd_read_45 (i := 3) rfl 1 rfl ?_
  refine wp_aload_n d_Rd_read_46 (i := 0) rfl 0 rfl ?_
  refine wp_getP d_Rd_read_47 fl_Rd_12 cl_4 rfl (ly_o hly (by decide)) (ly_r (v := 5) hly (by decide +kernel)) ?_
  refine wp_getI d_Rd_read_50 fl_Rd_59 cl_7 rfl (ly_o hly (by decide)) ?_
  refine wp_icmp_ge (tgt := 132) d_Rd_read_53 (by decide) (fun hc => ?_) (fun hc => ?_)
  · replace h := h.1 hc
    refine wp_aload_n d_Rd_read_132 (i := 0) rfl 0 rfl ?_
    refine wp_getI d_Rd_read_133 fl_Rd_49 cl_4 rfl (ly_o hly (by decide)) ?_
    refine wp_if_ne (tgt := 143) d_Rd_read_136 (by decide) (fun hc => ?_) (fun hc => ?_)
    · replace h := h.1 hc
      refine wp_aload_n d_Rd_read_143 (i := 0) rfl 0 rfl ?_
      refine wp_getI d_Rd_read_144 fl_Rd_49 cl_4 rfl (ly_o hly (by decide)) ?_
      refine wp_if_ne (tgt := 154) d_Rd_read_147 (by decide) (fun hc => ?_) (fun hc => ?_)
      · replace h := h.1 hc
        refine wp_iconst d_Rd_read_154 (by decide) ?_
        exact wp_zret d_Rd_read_155 rfl (by decide) (by decide) h
      · replace h := h.2 hc
        refine wp_iconst d_Rd_read_150 (by decide) ?_
        refine wp_goto (tgt := 155) d_Rd_read_151 (by decide) ?_
        exact wp_zret d_Rd_read_155 rfl (by decide) (by decide) h
    · replace h := h.2 hc
      refine wp_aload_n d_Rd_read_139 (i := 0) rfl 0 rfl ?_
      refine wp_callV (A := []) (S := []) d_Rd_read_140 cv_Rd_read_90 (ly_o hly (by decide)) rfl (Nat.le_of_ble_eq_true rfl) (by decide) (MetS.mono h (fun r w1 hh => ?_))
      obtain ⟨er, h⟩ := hh
      subst er
      refine wp_ly (fun hly => ?_)
      refine wp_aload_n d_Rd_read_143 (i := 0) rfl 0 rfl ?_
      refine wp_getI d_Rd_read_144 fl_Rd_49 cl_4 rfl (ly_o hly (by decide)) ?_
      refine wp_if_ne (tgt := 154) d_Rd_read_147 (by decide) (fun hc => ?_) (fun hc => ?_)
      · replace h := h.1 hc
        refine wp_iconst d_Rd_read_154 (by decide) ?_
        exact wp_zret d_Rd_read_155 rfl (by decide) (by decide) h
      · replace h := h.2 hc
        refine wp_iconst d_Rd_read_150 (by decide) ?_
        refine wp_goto (tgt := 155) d_Rd_read_151 (by decide) ?_
        exact wp_zret d_Rd_read_155 rfl (by decide) (by decide) h
  · replace h := h.2 hc
    refine wp_aload_n d_Rd_read_56 (i := 0) rfl 0 rfl ?_
    refine wp_getI d_Rd_read_57 fl_Rd_60 cl_4 rfl (ly_o hly (by decide)) ?_
    refine wp_if_eq (tgt := 132) d_Rd_read_60 (by decide) (fun hc => ?_) (fun hc => ?_)
    · replace h := h.1 hc
      refine wp_aload_n d_Rd_read_132 (i := 0) rfl 0 rfl ?_
      refine wp_getI d_Rd_read_133 fl_Rd_49 cl_4 rfl (ly_o hly (by decide)) ?_
      refine wp_if_ne (tgt := 143) d_Rd_read_136 (by decide) (fun hc => ?_) (fun hc => ?_)
      · replace h := h.1 hc
        refine wp_aload_n d_Rd_read_143 (i := 0) rfl 0 rfl ?_
        refine wp_getI d_Rd_read_144 fl_Rd_49 cl_4 rfl (ly_o hly (by decide)) ?_
        refine wp_if_ne (tgt := 154) d_Rd_read_147 (by decide) (fun hc => ?_) (fun hc => ?_)
        · replace h := h.1 hc
          refine wp_iconst d_Rd_read_154 (by decide) ?_
          exact wp_zret d_Rd_read_155 rfl (by decide) (by decide) h
        · replace h := h.2 hc
          refine wp_iconst d_Rd_read_150 (by decide) ?_
          refine wp_goto (tgt := 155) d_Rd_read_151 (by decide) ?_
          exact wp_zret d_Rd_read_155 rfl (by decide) (by decide) h
      · replace h := h.2 hc
        refine wp_aload_n d_Rd_read_139 (i := 0) rfl 0 rfl ?_
        refine wp_callV (A := []) (S := []) d_Rd_read_140 cv_Rd_read_90 (ly_o hly (by decide)) rfl (Nat.le_of_ble_eq_true rfl) (by decide) (MetS.mono h (fun r w2 hh => ?_))
        obtain ⟨er, h⟩ := hh
        subst er
        refine wp_ly (fun hly => ?_)
        refine wp_aload_n d_Rd_read_143 (i := 0) rfl 0 rfl ?_
        refine wp_getI d_Rd_read_144 fl_Rd_49 cl_4 rfl (ly_o hly (by decide)) ?_
        refine wp_if_ne (tgt := 154) d_Rd_read_147 (by decide) (fun hc => ?_) (fun hc => ?_)
        · replace h := h.1 hc
          refine wp_iconst d_Rd_read_154 (by decide) ?_
          exact wp_zret d_Rd_read_155 rfl (by decide) (by decide) h
        · replace h := h.2 hc
          refine wp_iconst d_Rd_read_150 (by decide) ?_
          refine wp_goto (tgt := 155) d_Rd_read_151 (by decide) ?_
          exact wp_zret d_Rd_read_155 rfl (by decide) (by decide) h
    · replace h := h.2 hc
      refine wp_aload_n d_Rd_read_63 (i := 0) rfl 0 rfl ?_
      refine wp_getP d_Rd_read_64 fl_Rd_21 cl_4 rfl (ly_o hly (by decide)) (ly_r (v := 9) hly (by decide +kernel)) ?_
      refine wp_aload_n d_Rd_read_67 (i := 0) rfl 0 rfl ?_
      refine wp_getI d_Rd_read_68 fl_Rd_63 cl_4 rfl (ly_o hly (by decide)) ?_
      refine wp_callV (A := [vi (gI w 4 8)]) (S := []) d_Rd_read_71 cv_Rd_read_66 (ly_o hly (by decide)) rfl (Nat.le_of_ble_eq_true rfl) (by decide) (MetS.mono h (fun r w3 hh => ?_))
      obtain ⟨er, h⟩ := hh
      subst er
      refine wp_ly (fun hly => ?_)
      refine wp_aload_n d_Rd_read_74 (i := 0) rfl 0 rfl ?_
      refine wp_aload_n d_Rd_read_75 (i := 0) rfl 0 rfl ?_
      refine wp_getP d_Rd_read_76 fl_Rd_21 cl_4 rfl (ly_o hly (by decide)) (ly_r (v := 9) hly (by decide +kernel)) ?_
      refine wp_getP d_Rd_read_79 fl_Rd_69 cl_1 rfl (ly_o hly (by decide)) (ly_r (v := 10) hly (by decide +kernel)) ?_
      refine wp_callV (A := [vr 10]) (S := []) d_Rd_read_82 cv_Rd_read_73 (ly_o hly (by decide)) rfl (Nat.le_of_ble_eq_true rfl) (by decide) (MetS.mono h (fun r w4 hh => ?_))
      obtain ⟨z5, er, h⟩ := hh
      subst er
      refine wp_ly (fun hly => ?_)
      refine wp_if_eq (tgt := 95) d_Rd_read_85 (by decide) (fun hc => ?_) (fun hc => ?_)
      · replace h := h.1 hc
        refine wp_iconst d_Rd_read_95 (by decide) ?_
        exact wp_zret d_Rd_read_96 rfl (by decide) (by decide) h
      · replace h := h.2 hc
        refine wp_aload_n d_Rd_read_88 (i := 0) rfl 0 rfl ?_
        refine wp_callV (A := []) (S := []) d_Rd_read_89 cv_Rd_read_77 (ly_o hly (by decide)) rfl (Nat.le_of_ble_eq_true rfl) (by decide) (MetS.mono h (fun r w6 hh => ?_))
        obtain ⟨z7, er, h⟩ := hh
        subst er
        refine wp_ly (fun hly => ?_)
        refine wp_if_ne (tgt := 97) d_Rd_read_92 (by decide) (fun hc => ?_) (fun hc => ?_)
        · replace h := h.1 hc
          refine wp_aload_n d_Rd_read_97 (i := 0) rfl 0 rfl ?_
          refine wp_getP d_Rd_read_98 fl_Rd_21 cl_4 rfl (ly_o hly (by decide)) (ly_r (v := 9) hly (by decide +kernel)) ?_
          refine wp_getI d_Rd_read_101 fl_Rd_81 cl_1 rfl (ly_o hly (by decide)) ?_
          refine wp_if_le (tgt := 117) d_Rd_read_104 (by decide) (fun hc => ?_) (fun hc => ?_)
          · replace h := h.1 hc
            refine wp_aload_n d_Rd_read_117 (i := 0) rfl 0 rfl ?_
            refine wp_callV (A := []) (S := []) d_Rd_read_118 cv_Rd_read_87 (ly_o hly (by decide)) rfl (Nat.le_of_ble_eq_true rfl) (by decide) (MetS.mono h (fun r w8 hh => ?_))
            obtain ⟨z9, er, h⟩ := hh
            subst er
            refine wp_ly (fun hly => ?_)
            refine wp_if_ne (tgt := 126) d_Rd_read_121 (by decide) (fun hc => ?_) (fun hc => ?_)
            · replace h := h.1 hc
              obtain ⟨ho, h⟩ := h
              refine wp_iinc (L' := [(3, vi (x3 + 1)), (0, vr 4)]) d_Rd_read_126 1 rfl rfl (by decide) ho ?_
              refine wp_goto (tgt := 45) d_Rd_read_129 (by decide) ?_
              exact wp_pick [1, 0] rfl h
            · replace h := h.2 hc
              refine wp_iconst d_Rd_read_124 (by decide) ?_
              exact wp_zret d_Rd_read_125 rfl (by decide) (by decide) h
          · replace h := h.2 hc
            refine wp_aload_n d_Rd_read_107 (i := 0) rfl 0 rfl ?_
            refine wp_callV (A := []) (S := []) d_Rd_read_108 cv_Rd_read_84 (ly_o hly (by decide)) rfl (Nat.le_of_ble_eq_true rfl) (by decide) (MetS.mono h (fun r w10 hh => ?_))
            obtain ⟨z11, er, h⟩ := hh
            subst er
            refine wp_ly (fun hly => ?_)
            refine wp_if_eq (tgt := 124) d_Rd_read_111 (by decide) (fun hc => ?_) (fun hc => ?_)
            · replace h := h.1 hc
              refine wp_iconst d_Rd_read_124 (by decide) ?_
              exact wp_zret d_Rd_read_125 rfl (by decide) (by decide) h
            · replace h := h.2 hc
              refine wp_goto (tgt := 126) d_Rd_read_114 (by decide) ?_
              obtain ⟨ho, h⟩ := h
              refine wp_iinc (L' := [(3, vi (x3 + 1)), (0, vr 4)]) d_Rd_read_126 1 rfl rfl (by decide) ho ?_
              refine wp_goto (tgt := 45) d_Rd_read_129 (by decide) ?_
              exact wp_pick [1, 0] rfl h
        · replace h := h.2 hc
          refine wp_iconst d_Rd_read_95 (by decide) ?_
          exact wp_zret d_Rd_read_96 rfl (by decide) (by decide) h
set_option maxRecDepth 20000 in
set_option maxHeartbeats 2000000 in
theorem t_Rd_finish_0   {w : Wo} {Q : Option AV → Wo → Prop} (h : isBk (gP w 4 3) ∧ MetV m_Bk_spreadHanging [vr (gP w 4 3)] w (fun w2 => isBk (gP w2 4 3) ∧ MetI m_Bk_knotPlace [vr (gP w2 4 3)] w2 (fun z5 w4 => ((z5 = (-1) → isBk (gP w4 4 3) ∧ MetV m_Bk_layStrata [vr (gP w4 4 3)] w4 (fun w7 => Q none w7)) ∧ (¬ z5 = (-1) → MetV m_Rd_note [vr 4, vi 4, vi z5] w4 (fun w8 => Q none w8)))))) : Wp m_Rd_finish 0 [(0, vr 4)] [] (0, 0) w Q := by
  refine wp_ly (fun hly => ?_)
  refine wp_aload_n d_Rd_finish_0 (i := 0) rfl 0 rfl ?_
  obtain ⟨hb1, h⟩ := h
  refine wp_getP d_Rd_finish_1 fl_Rd_36 cl_4 rfl (ly_o hly (by decide)) rfl ?_
  refine wp_callV (A := []) (S := []) d_Rd_finish_4 cv_Rd_finish_93 (ly_o hly (bk_o hb1)) rfl (Nat.le_of_ble_eq_true rfl) (by decide) (MetS.mono h (fun r w2 hh => ?_))
  obtain ⟨er, h⟩ := hh
  subst er
  refine wp_ly (fun hly => ?_)
  refine wp_aload_n d_Rd_finish_7 (i := 0) rfl 0 rfl ?_
  obtain ⟨hb3, h⟩ := h
  refine wp_getP d_Rd_finish_8 fl_Rd_36 cl_4 rfl (ly_o hly (by decide)) rfl ?_
  refine wp_callV (A := []) (S := []) d_Rd_finish_11 cv_Rd_finish_96 (ly_o hly (bk_o hb3)) rfl (Nat.le_of_ble_eq_true rfl) (by decide) (MetS.mono h (fun r w4 hh => ?_))
  obtain ⟨z5, er, h⟩ := hh
  subst er
  refine wp_ly (fun hly => ?_)
  refine wp_istore_n (L' := [(1, vi z5), (0, vr 4)]) d_Rd_finish_14 (i := 1) rfl rfl (by decide) ?_
  refine wp_iload_n d_Rd_finish_15 (i := 1) rfl 0 rfl ?_
  refine wp_iconst d_Rd_finish_16 (by decide) ?_
  refine wp_icmp_eq (tgt := 29) d_Rd_finish_17 (by decide) (fun hc => ?_) (fun hc => ?_)
  · replace h := h.1 hc
    refine wp_aload_n d_Rd_finish_29 (i := 0) rfl 1 rfl ?_
    obtain ⟨hb6, h⟩ := h
    refine wp_getP d_Rd_finish_30 fl_Rd_36 cl_4 rfl (ly_o hly (by decide)) rfl ?_
    refine wp_callV (A := []) (S := []) d_Rd_finish_33 cv_Rd_finish_104 (ly_o hly (bk_o hb6)) rfl (Nat.le_of_ble_eq_true rfl) (by decide) (MetS.mono h (fun r w7 hh => ?_))
    obtain ⟨er, h⟩ := hh
    subst er
    refine wp_ly (fun hly => ?_)
    exact wp_vret d_Rd_finish_36 rfl (by decide) h
  · replace h := h.2 hc
    refine wp_aload_n d_Rd_finish_20 (i := 0) rfl 1 rfl ?_
    refine wp_iconst d_Rd_finish_21 (by decide) ?_
    refine wp_iload_n d_Rd_finish_22 (i := 1) rfl 0 rfl ?_
    refine wp_callV (A := [vi 4, vi z5]) (S := []) d_Rd_finish_23 cv_Rd_finish_100 (ly_o hly (by decide)) rfl (Nat.le_of_ble_eq_true rfl) (by decide) (MetS.mono h (fun r w8 hh => ?_))
    obtain ⟨er, h⟩ := hh
    subst er
    refine wp_ly (fun hly => ?_)
    refine wp_goto (tgt := 36) d_Rd_finish_26 (by decide) ?_
    exact wp_vret d_Rd_finish_36 rfl (by decide) h
set_option maxRecDepth 20000 in
set_option maxHeartbeats 2000000 in
theorem t_Rd_moveTo_0 {x1 : Int}  {w : Wo} {Q : Option AV → Wo → Prop} (h : ((x1 < 0 → Q none w) ∧ (¬ x1 < 0 → (((gI w 5 3) ≤ x1 → Q none w) ∧ (¬ (gI w 5 3) ≤ x1 → (∀ w1 : Wo, w1 = uI w 4 6 x1 → (0 ≤ x1 ∧ x1 < 601) ∧ (∀ w4 : Wo, w4 = uI w1 4 7 (gI w1 6 x1.toNat) → (0 ≤ x1 ∧ x1 < 601) ∧ (∀ w7 : Wo, w7 = uI w4 4 8 (gI w4 7 x1.toNat) → (0 ≤ x1 ∧ x1 < 601) ∧ (∀ w10 : Wo, w10 = uJ w7 4 9 (gJ w7 8 x1.toNat) → Q none w10))))))))) : Wp m_Rd_moveTo 0 [(0, vr 4), (1, vi x1)] [] (0, 0) w Q := by
  refine wp_ly (fun hly => ?_)
  refine wp_iload_n d_Rd_moveTo_0 (i := 1) rfl 1 rfl ?_
  refine wp_if_lt (tgt := 59) d_Rd_moveTo_1 (by decide) (fun hc => ?_) (fun hc => ?_)
  · replace h := h.1 hc
    exact wp_vret d_Rd_moveTo_59 rfl (by decide) h
  · replace h := h.2 hc
    refine wp_iload_n d_Rd_moveTo_4 (i := 1) rfl 1 rfl ?_
    refine wp_aload_n d_Rd_moveTo_5 (i := 0) rfl 0 rfl ?_
    refine wp_getP d_Rd_moveTo_6 fl_Rd_12 cl_4 rfl (ly_o hly (by decide)) (ly_r (v := 5) hly (by decide +kernel)) ?_
    refine wp_getI d_Rd_moveTo_9 fl_Rd_59 cl_7 rfl (ly_o hly (by decide)) ?_
    refine wp_icmp_ge (tgt := 59) d_Rd_moveTo_12 (by decide) (fun hc => ?_) (fun hc => ?_)
    · replace h := h.1 hc
      exact wp_vret d_Rd_moveTo_59 rfl (by decide) h
    · replace h := h.2 hc
      refine wp_aload_n d_Rd_moveTo_15 (i := 0) rfl 0 rfl ?_
      refine wp_iload_n d_Rd_moveTo_16 (i := 1) rfl 1 rfl ?_
      refine wp_putI d_Rd_moveTo_17 fl_Rd_107 cl_4 ⟨rfl, rfl⟩ (ly_o hly (by decide)) (fun w1 e2 => ?_)
      replace h := h w1 e2
      refine wp_ly (fun hly => ?_)
      refine wp_aload_n d_Rd_moveTo_20 (i := 0) rfl 0 rfl ?_
      refine wp_aload_n d_Rd_moveTo_21 (i := 0) rfl 0 rfl ?_
      refine wp_getP d_Rd_moveTo_22 fl_Rd_12 cl_4 rfl (ly_o hly (by decide)) (ly_r (v := 5) hly (by decide +kernel)) ?_
      refine wp_getP d_Rd_moveTo_25 fl_Rd_110 cl_7 rfl (ly_o hly (by decide)) (ly_r (v := 6) hly (by decide +kernel)) ?_
      refine wp_iload_n d_Rd_moveTo_28 (i := 1) rfl 1 rfl ?_
      obtain ⟨hi3, h⟩ := h
      refine wp_iaload d_Rd_moveTo_29 (ly_a (n := 601) (N := 601) hly (by decide) hi3) ?_
      refine wp_putI d_Rd_moveTo_30 fl_Rd_60 cl_4 ⟨rfl, rfl⟩ (ly_o hly (by decide)) (fun w4 e5 => ?_)
      replace h := h w4 e5
      refine wp_ly (fun hly => ?_)
      refine wp_aload_n d_Rd_moveTo_33 (i := 0) rfl 0 rfl ?_
      refine wp_aload_n d_Rd_moveTo_34 (i := 0) rfl 0 rfl ?_
      refine wp_getP d_Rd_moveTo_35 fl_Rd_12 cl_4 rfl (ly_o hly (by decide)) (ly_r (v := 5) hly (by decide +kernel)) ?_
      refine wp_getP d_Rd_moveTo_38 fl_Rd_114 cl_7 rfl (ly_o hly (by decide)) (ly_r (v := 7) hly (by decide +kernel)) ?_
      refine wp_iload_n d_Rd_moveTo_41 (i := 1) rfl 1 rfl ?_
      obtain ⟨hi6, h⟩ := h
      refine wp_iaload d_Rd_moveTo_42 (ly_a (n := 601) (N := 601) hly (by decide) hi6) ?_
      refine wp_putI d_Rd_moveTo_43 fl_Rd_63 cl_4 ⟨rfl, rfl⟩ (ly_o hly (by decide)) (fun w7 e8 => ?_)
      replace h := h w7 e8
      refine wp_ly (fun hly => ?_)
      refine wp_aload_n d_Rd_moveTo_46 (i := 0) rfl 0 rfl ?_
      refine wp_aload_n d_Rd_moveTo_47 (i := 0) rfl 0 rfl ?_
      refine wp_getP d_Rd_moveTo_48 fl_Rd_12 cl_4 rfl (ly_o hly (by decide)) (ly_r (v := 5) hly (by decide +kernel)) ?_
      refine wp_getP d_Rd_moveTo_51 fl_Rd_117 cl_7 rfl (ly_o hly (by decide)) (ly_r (v := 8) hly (by decide +kernel)) ?_
      refine wp_iload_n d_Rd_moveTo_54 (i := 1) rfl 1 rfl ?_
      obtain ⟨hi9, h⟩ := h
      refine wp_laload d_Rd_moveTo_55 (ly_a (n := 601) (N := 601) hly (by decide) hi9) ?_
      refine wp_putJ d_Rd_moveTo_56 fl_Rd_121 cl_4 ⟨rfl, rfl⟩ (ly_o hly (by decide)) (fun w10 e11 => ?_)
      replace h := h w10 e11
      refine wp_ly (fun hly => ?_)
      exact wp_vret d_Rd_moveTo_59 rfl (by decide) h
set_option maxRecDepth 20000 in
set_option maxHeartbeats 2000000 in
theorem t_Rd_refuse_0 {x1 : Int}  {w : Wo} {Q : Option AV → Wo → Prop} (h : (∀ w1 : Wo, w1 = uI w 4 4 1 → (∀ w3 : Wo, w3 = uI w1 4 5 x1 → Q (some (vi 0)) w3))) : Wp m_Rd_refuse 0 [(0, vr 4), (1, vi x1)] [] (0, 0) w Q := by
  refine wp_ly (fun hly => ?_)
  refine wp_aload_n d_Rd_refuse_0 (i := 0) rfl 0 rfl ?_
  refine wp_iconst d_Rd_refuse_1 (by decide) ?_
  refine wp_putI d_Rd_refuse_2 fl_Rd_49 cl_4 ⟨rfl, rfl⟩ (ly_o hly (by decide)) (fun w1 e2 => ?_)
  replace h := h w1 e2
  refine wp_ly (fun hly => ?_)
  refine wp_aload_n d_Rd_refuse_5 (i := 0) rfl 0 rfl ?_
  refine wp_iload_n d_Rd_refuse_6 (i := 1) rfl 1 rfl ?_
  refine wp_putI d_Rd_refuse_7 fl_Rd_52 cl_4 ⟨rfl, rfl⟩ (ly_o hly (by decide)) (fun w3 e4 => ?_)
  replace h := h w3 e4
  refine wp_ly (fun hly => ?_)
  refine wp_iconst d_Rd_refuse_10 (by decide) ?_
  exact wp_zret d_Rd_refuse_11 rfl (by decide) (by decide) h
set_option maxRecDepth 20000 in
set_option maxHeartbeats 2000000 in
theorem t_Rd_note_0 {x1 : Int} {x2 : Int}  {w : Wo} {Q : Option AV → Wo → Prop} (h : (((gI w 4 4) = 0 → (∀ w1 : Wo, w1 = uI w 4 4 x1 → (∀ w3 : Wo, w3 = uI w1 4 5 x2 → Q none w3))) ∧ (¬ (gI w 4 4) = 0 → (((gI w 4 5) ≤ x2 → Q none w) ∧ (¬ (gI w 4 5) ≤ x2 → (∀ w5 : Wo, w5 = uI w 4 4 x1 → (∀ w7 : Wo, w7 = uI w5 4 5 x2 → Q none w7))))))) : Wp m_Rd_note 0 [(0, vr 4), (1, vi x1), (2, vi x2)] [] (0, 0) w Q := by
  refine wp_ly (fun hly => ?_)
  refine wp_aload_n d_Rd_note_0 (i := 0) rfl 0 rfl ?_
  refine wp_getI d_Rd_note_1 fl_Rd_49 cl_4 rfl (ly_o hly (by decide)) ?_
  refine wp_if_eq (tgt := 15) d_Rd_note_4 (by decide) (fun hc => ?_) (fun hc => ?_)
  · replace h := h.1 hc
    refine wp_aload_n d_Rd_note_15 (i := 0) rfl 0 rfl ?_
    refine wp_iload_n d_Rd_note_16 (i := 1) rfl 1 rfl ?_
    refine wp_putI d_Rd_note_17 fl_Rd_49 cl_4 ⟨rfl, rfl⟩ (ly_o hly (by decide)) (fun w1 e2 => ?_)
    replace h := h w1 e2
    refine wp_ly (fun hly => ?_)
    refine wp_aload_n d_Rd_note_20 (i := 0) rfl 0 rfl ?_
    refine wp_iload_n d_Rd_note_21 (i := 2) rfl 2 rfl ?_
    refine wp_putI d_Rd_note_22 fl_Rd_52 cl_4 ⟨rfl, rfl⟩ (ly_o hly (by decide)) (fun w3 e4 => ?_)
    replace h := h w3 e4
    refine wp_ly (fun hly => ?_)
    exact wp_vret d_Rd_note_25 rfl (by decide) h
  · replace h := h.2 hc
    refine wp_iload_n d_Rd_note_7 (i := 2) rfl 2 rfl ?_
    refine wp_aload_n d_Rd_note_8 (i := 0) rfl 0 rfl ?_
    refine wp_getI d_Rd_note_9 fl_Rd_52 cl_4 rfl (ly_o hly (by decide)) ?_
    refine wp_icmp_ge (tgt := 25) d_Rd_note_12 (by decide) (fun hc => ?_) (fun hc => ?_)
    · replace h := h.1 hc
      exact wp_vret d_Rd_note_25 rfl (by decide) h
    · replace h := h.2 hc
      refine wp_aload_n d_Rd_note_15 (i := 0) rfl 0 rfl ?_
      refine wp_iload_n d_Rd_note_16 (i := 1) rfl 1 rfl ?_
      refine wp_putI d_Rd_note_17 fl_Rd_49 cl_4 ⟨rfl, rfl⟩ (ly_o hly (by decide)) (fun w5 e6 => ?_)
      replace h := h w5 e6
      refine wp_ly (fun hly => ?_)
      refine wp_aload_n d_Rd_note_20 (i := 0) rfl 0 rfl ?_
      refine wp_iload_n d_Rd_note_21 (i := 2) rfl 2 rfl ?_
      refine wp_putI d_Rd_note_22 fl_Rd_52 cl_4 ⟨rfl, rfl⟩ (ly_o hly (by decide)) (fun w7 e8 => ?_)
      replace h := h w7 e8
      refine wp_ly (fun hly => ?_)
      exact wp_vret d_Rd_note_25 rfl (by decide) h
set_option maxRecDepth 20000 in
set_option maxHeartbeats 2000000 in
theorem t_Rd_take_0 {x1 : Int}  {w : Wo} {Q : Option AV → Wo → Prop} (h : (((gI w 4 7) = x1 → inr32 ((gI w 4 6) + 1) ∧ MetV m_Rd_moveTo [vr 4, vi ((gI w 4 6) + 1)] w (fun w1 => Q (some (vi 1)) w1)) ∧ (¬ (gI w 4 7) = x1 → MetI m_Rd_refuse [vr 4, vi (gI w 4 8)] w (fun z3 w2 => (z3 = 0 ∨ z3 = 1) ∧ Q (some (vi z3)) w2)))) : Wp m_Rd_take 0 [(0, vr 4), (1, vi x1)] [] (0, 0) w Q := by
  refine wp_ly (fun hly => ?_)
  refine wp_aload_n d_Rd_take_0 (i := 0) rfl 0 rfl ?_
  refine wp_getI d_Rd_take_1 fl_Rd_60 cl_4 rfl (ly_o hly (by decide)) ?_
  refine wp_iload_n d_Rd_take_4 (i := 1) rfl 1 rfl ?_
  refine wp_icmp_eq (tgt := 17) d_Rd_take_5 (by decide) (fun hc => ?_) (fun hc => ?_)
  · replace h := h.1 hc
    refine wp_aload_n d_Rd_take_17 (i := 0) rfl 0 rfl ?_
    refine wp_aload_n d_Rd_take_18 (i := 0) rfl 0 rfl ?_
    refine wp_getI d_Rd_take_19 fl_Rd_107 cl_4 rfl (ly_o hly (by decide)) ?_
    refine wp_iconst d_Rd_take_22 (by decide) ?_
    obtain ⟨ho, h⟩ := h
    refine wp_iadd d_Rd_take_23 ho ?_
    refine wp_callV (A := [vi ((gI w 4 6) + 1)]) (S := []) d_Rd_take_24 cv_Rd_take_55 (ly_o hly (by decide)) rfl (Nat.le_of_ble_eq_true rfl) (by decide) (MetS.mono h (fun r w1 hh => ?_))
    obtain ⟨er, h⟩ := hh
    subst er
    refine wp_ly (fun hly => ?_)
    refine wp_iconst d_Rd_take_27 (by decide) ?_
    exact wp_zret d_Rd_take_28 rfl (by decide) (by decide) h
  · replace h := h.2 hc
    refine wp_aload_n d_Rd_take_8 (i := 0) rfl 0 rfl ?_
    refine wp_aload_n d_Rd_take_9 (i := 0) rfl 0 rfl ?_
    refine wp_getI d_Rd_take_10 fl_Rd_63 cl_4 rfl (ly_o hly (by decide)) ?_
    refine wp_callV (A := [vi (gI w 4 8)]) (S := []) d_Rd_take_13 cv_Rd_take_125 (ly_o hly (by decide)) rfl (Nat.le_of_ble_eq_true rfl) (by decide) (MetS.mono h (fun r w2 hh => ?_))
    obtain ⟨z3, er, h⟩ := hh
    subst er
    refine wp_ly (fun hly => ?_)
    exact wp_zret d_Rd_take_16 rfl (by decide) h.1 h.2
set_option maxRecDepth 20000 in
set_option maxHeartbeats 2000000 in
theorem t_Rd_readBody_0   {w : Wo} {Q : Option AV → Wo → Prop} (h : ((¬ (gI w 4 7) = 8 → ((¬ (gI w 4 7) = 11 → MetI m_Rd_take [vr 4, vi 11] w (fun z2 w1 => ((¬ z2 = 0 → Wp m_Rd_readBody 63 [(0, vr 4), (1, vi 0)] [] (0, 0) w1 Q) ∧ (z2 = 0 → Q (some (vi 0)) w1)))) ∧ ((gI w 4 7) = 11 → isBk (gP w 4 3) ∧ (((gI w ((gP w 4 3) + 1) 0) < 30 → MetI m_Rd_take [vr 4, vi 11] w (fun z5 w4 => ((¬ z5 = 0 → Wp m_Rd_readBody 63 [(0, vr 4), (1, vi 0)] [] (0, 0) w4 Q) ∧ (z5 = 0 → Q (some (vi 0)) w4)))) ∧ (¬ (gI w ((gP w 4 3) + 1) 0) < 30 → MetI m_Rd_refuse [vr 4, vi (gI w 10 1)] w (fun z7 w6 => (z7 = 0 ∨ z7 = 1) ∧ Q (some (vi z7)) w6)))))) ∧ ((gI w 4 7) = 8 → Q (some (vi 1)) w))) : Wp m_Rd_readBody 0 [(0, vr 4)] [] (0, 0) w Q := by
  refine wp_ly (fun hly => ?_)
  refine wp_aload_n d_Rd_readBody_0 (i := 0) rfl 0 rfl ?_
  refine wp_getI d_Rd_readBody_1 fl_Rd_60 cl_4 rfl (ly_o hly (by decide)) ?_
  refine wp_bipush d_Rd_readBody_4 (by decide) (by decide) ?_
  refine wp_icmp_ne (tgt := 11) d_Rd_readBody_6 (by decide) (fun hc => ?_) (fun hc => ?_)
  · replace h := h.1 hc
    refine wp_aload_n d_Rd_readBody_11 (i := 0) rfl 0 rfl ?_
    refine wp_getI d_Rd_readBody_12 fl_Rd_60 cl_4 rfl (ly_o hly (by decide)) ?_
    refine wp_bipush d_Rd_readBody_15 (by decide) (by decide) ?_
    refine wp_icmp_ne (tgt := 50) d_Rd_readBody_17 (by decide) (fun hc => ?_) (fun hc => ?_)
    · replace h := h.1 hc
      refine wp_aload_n d_Rd_readBody_50 (i := 0) rfl 0 rfl ?_
      refine wp_bipush d_Rd_readBody_51 (by decide) (by decide) ?_
      refine wp_callV (A := [vi 11]) (S := []) d_Rd_readBody_53 cv_Rd_readBody_139 (ly_o hly (by decide)) rfl (Nat.le_of_ble_eq_true rfl) (by decide) (MetS.mono h (fun r w1 hh => ?_))
      obtain ⟨z2, er, h⟩ := hh
      subst er
      refine wp_ly (fun hly => ?_)
      refine wp_if_ne (tgt := 61) d_Rd_readBody_56 (by decide) (fun hc => ?_) (fun hc => ?_)
      · replace h := h.1 hc
        refine wp_iconst d_Rd_readBody_61 (by decide) ?_
        refine wp_istore_n (L' := [(1, vi 0), (0, vr 4)]) d_Rd_readBody_62 (i := 1) rfl rfl (by decide) ?_
        exact wp_pick [1, 0] rfl h
      · replace h := h.2 hc
        refine wp_iconst d_Rd_readBody_59 (by decide) ?_
        exact wp_zret d_Rd_readBody_60 rfl (by decide) (by decide) h
    · replace h := h.2 hc
      refine wp_aload_n d_Rd_readBody_20 (i := 0) rfl 0 rfl ?_
      obtain ⟨hb3, h⟩ := h
      refine wp_getP d_Rd_readBody_21 fl_Rd_36 cl_4 rfl (ly_o hly (by decide)) rfl ?_
      refine wp_getP d_Rd_readBody_24 fl_Rd_129 cl_0 rfl (ly_o hly (bk_o hb3)) (bk_r0 hly hb3) ?_
      refine wp_getI d_Rd_readBody_27 fl_Rd_133 cl_5 rfl (ly_o hly (rl_o (bk_m0 hb3))) ?_
      refine wp_bipush d_Rd_readBody_30 (by decide) (by decide) ?_
      refine wp_icmp_lt (tgt := 50) d_Rd_readBody_32 (by decide) (fun hc => ?_) (fun hc => ?_)
      · replace h := h.1 hc
        refine wp_aload_n d_Rd_readBody_50 (i := 0) rfl 0 rfl ?_
        refine wp_bipush d_Rd_readBody_51 (by decide) (by decide) ?_
        refine wp_callV (A := [vi 11]) (S := []) d_Rd_readBody_53 cv_Rd_readBody_139 (ly_o hly (by decide)) rfl (Nat.le_of_ble_eq_true rfl) (by decide) (MetS.mono h (fun r w4 hh => ?_))
        obtain ⟨z5, er, h⟩ := hh
        subst er
        refine wp_ly (fun hly => ?_)
        refine wp_if_ne (tgt := 61) d_Rd_readBody_56 (by decide) (fun hc => ?_) (fun hc => ?_)
        · replace h := h.1 hc
          refine wp_iconst d_Rd_readBody_61 (by decide) ?_
          refine wp_istore_n (L' := [(1, vi 0), (0, vr 4)]) d_Rd_readBody_62 (i := 1) rfl rfl (by decide) ?_
          exact wp_pick [1, 0] rfl h
        · replace h := h.2 hc
          refine wp_iconst d_Rd_readBody_59 (by decide) ?_
          exact wp_zret d_Rd_readBody_60 rfl (by decide) (by decide) h
      · replace h := h.2 hc
        refine wp_aload_n d_Rd_readBody_35 (i := 0) rfl 0 rfl ?_
        refine wp_aload_n d_Rd_readBody_36 (i := 0) rfl 0 rfl ?_
        refine wp_getP d_Rd_readBody_37 fl_Rd_21 cl_4 rfl (ly_o hly (by decide)) (ly_r (v := 9) hly (by decide +kernel)) ?_
        refine wp_getP d_Rd_readBody_40 fl_Rd_69 cl_1 rfl (ly_o hly (by decide)) (ly_r (v := 10) hly (by decide +kernel)) ?_
        refine wp_getI d_Rd_readBody_43 fl_Rd_136 cl_3 rfl (ly_o hly (by decide)) ?_
        refine wp_callV (A := [vi (gI w 10 1)]) (S := []) d_Rd_readBody_46 cv_Rd_readBody_125 (ly_o hly (by decide)) rfl (Nat.le_of_ble_eq_true rfl) (by decide) (MetS.mono h (fun r w6 hh => ?_))
        obtain ⟨z7, er, h⟩ := hh
        subst er
        refine wp_ly (fun hly => ?_)
        exact wp_zret d_Rd_readBody_49 rfl (by decide) h.1 h.2
  · replace h := h.2 hc
    refine wp_iconst d_Rd_readBody_9 (by decide) ?_
    exact wp_zret d_Rd_readBody_10 rfl (by decide) (by decide) h
set_option maxRecDepth 20000 in
set_option maxHeartbeats 2000000 in
theorem t_Rd_readBody_63 {x1 : Int}  {w : Wo} {Q : Option AV → Wo → Prop} (h : ((6 ≤ x1 → MetI m_Rd_refuse [vr 4, vi (gI w 4 8)] w (fun z2 w1 => (z2 = 0 ∨ z2 = 1) ∧ Q (some (vi z2)) w1)) ∧ (¬ 6 ≤ x1 → (0 ≤ x1 ∧ x1 < 6) ∧ MetI m_Rd_readLiteral [vr 4, vr (19 + 3 * x1.toNat)] w (fun z6 w5 => ((¬ z6 = 0 → inr32 ((gI w5 9 2) + 1) ∧ (∀ w7 : Wo, w7 = uI w5 9 2 ((gI w5 9 2) + 1) → ((¬ (gI w7 4 7) = 8 → MetI m_Rd_take [vr 4, vi 7] w7 (fun z10 w9 => ((¬ z10 = 0 → inr32 (x1 + 1) ∧ Wp m_Rd_readBody 63 [(0, vr 4), (1, vi (x1 + 1))] [] (0, 0) w9 Q) ∧ (z10 = 0 → Q (some (vi 0)) w9)))) ∧ ((gI w7 4 7) = 8 → Q (some (vi 1)) w7)))) ∧ (z6 = 0 → Q (some (vi 0)) w5)))))) : Wp m_Rd_readBody 63 [(0, vr 4), (1, vi x1)] [] (0, 0) w Q := by
  refine wp_ly (fun hly => ?_)
  refine wp_iload_n d_Rd_readBody_63 (i := 1) rfl 1 rfl ?_
  refine wp_bipush d_Rd_readBody_64 (by decide) (by decide) ?_
  refine wp_icmp_ge (tgt := 128) d_Rd_readBody_66 (by decide) (fun hc => ?_) (fun hc => ?_)
  · replace h := h.1 hc
    refine wp_aload_n d_Rd_readBody_128 (i := 0) rfl 0 rfl ?_
    refine wp_aload_n d_Rd_readBody_129 (i := 0) rfl 0 rfl ?_
    refine wp_getI d_Rd_readBody_130 fl_Rd_63 cl_4 rfl (ly_o hly (by decide)) ?_
    refine wp_callV (A := [vi (gI w 4 8)]) (S := []) d_Rd_readBody_133 cv_Rd_readBody_125 (ly_o hly (by decide)) rfl (Nat.le_of_ble_eq_true rfl) (by decide) (MetS.mono h (fun r w1 hh => ?_))
    obtain ⟨z2, er, h⟩ := hh
    subst er
    refine wp_ly (fun hly => ?_)
    exact wp_zret d_Rd_readBody_136 rfl (by decide) h.1 h.2
  · replace h := h.2 hc
    refine wp_aload_n d_Rd_readBody_69 (i := 0) rfl 0 rfl ?_
    refine wp_aload_n d_Rd_readBody_70 (i := 0) rfl 0 rfl ?_
    refine wp_getP d_Rd_readBody_71 fl_Rd_21 cl_4 rfl (ly_o hly (by decide)) (ly_r (v := 9) hly (by decide +kernel)) ?_
    refine wp_getP d_Rd_readBody_74 fl_Rd_142 cl_1 rfl (ly_o hly (by decide)) (ly_r (v := 13) hly (by decide +kernel)) ?_
    refine wp_iload_n d_Rd_readBody_77 (i := 1) rfl 1 rfl ?_
    obtain ⟨hi3, h⟩ := h
    have hb4 := body_m hi3
    refine wp_aaload d_Rd_readBody_78 (ly_a (n := 6) (N := 6) hly (by decide) hi3) (body_r hi3 hly) ?_
    refine wp_callV (A := [vr (19 + 3 * x1.toNat)]) (S := []) d_Rd_readBody_79 cv_Rd_readBody_146 (ly_o hly (by decide)) rfl (Nat.le_of_ble_eq_true rfl) (by decide) (MetS.mono h (fun r w5 hh => ?_))
    obtain ⟨z6, er, h⟩ := hh
    subst er
    refine wp_ly (fun hly => ?_)
    refine wp_if_ne (tgt := 87) d_Rd_readBody_82 (by decide) (fun hc => ?_) (fun hc => ?_)
    · replace h := h.1 hc
      refine wp_aload_n d_Rd_readBody_87 (i := 0) rfl 0 rfl ?_
      refine wp_getP d_Rd_readBody_88 fl_Rd_21 cl_4 rfl (ly_o hly (by decide)) (ly_r (v := 9) hly (by decide +kernel)) ?_
      refine wp_dup d_Rd_readBody_91 rfl ?_
      refine wp_getI d_Rd_readBody_92 fl_Rd_81 cl_1 rfl (ly_o hly (by decide)) ?_
      refine wp_iconst d_Rd_readBody_95 (by decide) ?_
      obtain ⟨ho, h⟩ := h
      refine wp_iadd d_Rd_readBody_96 ho ?_
      refine wp_putI d_Rd_readBody_97 fl_Rd_81 cl_1 ⟨rfl, rfl⟩ (ly_o hly (by decide)) (fun w7 e8 => ?_)
      replace h := h w7 e8
      refine wp_ly (fun hly => ?_)
      refine wp_aload_n d_Rd_readBody_100 (i := 0) rfl 0 rfl ?_
      refine wp_getI d_Rd_readBody_101 fl_Rd_60 cl_4 rfl (ly_o hly (by decide)) ?_
      refine wp_bipush d_Rd_readBody_104 (by decide) (by decide) ?_
      refine wp_icmp_ne (tgt := 111) d_Rd_readBody_106 (by decide) (fun hc => ?_) (fun hc => ?_)
      · replace h := h.1 hc
        refine wp_aload_n d_Rd_readBody_111 (i := 0) rfl 0 rfl ?_
        refine wp_bipush d_Rd_readBody_112 (by decide) (by decide) ?_
        refine wp_callV (A := [vi 7]) (S := []) d_Rd_readBody_114 cv_Rd_readBody_139 (ly_o hly (by decide)) rfl (Nat.le_of_ble_eq_true rfl) (by decide) (MetS.mono h (fun r w9 hh => ?_))
        obtain ⟨z10, er, h⟩ := hh
        subst er
        refine wp_ly (fun hly => ?_)
        refine wp_if_ne (tgt := 122) d_Rd_readBody_117 (by decide) (fun hc => ?_) (fun hc => ?_)
        · replace h := h.1 hc
          obtain ⟨ho, h⟩ := h
          refine wp_iinc (L' := [(1, vi (x1 + 1)), (0, vr 4)]) d_Rd_readBody_122 1 rfl rfl (by decide) ho ?_
          refine wp_goto (tgt := 63) d_Rd_readBody_125 (by decide) ?_
          exact wp_pick [1, 0] rfl h
        · replace h := h.2 hc
          refine wp_iconst d_Rd_readBody_120 (by decide) ?_
          exact wp_zret d_Rd_readBody_121 rfl (by decide) (by decide) h
      · replace h := h.2 hc
        refine wp_iconst d_Rd_readBody_109 (by decide) ?_
        exact wp_zret d_Rd_readBody_110 rfl (by decide) (by decide) h
    · replace h := h.2 hc
      refine wp_iconst d_Rd_readBody_85 (by decide) ?_
      exact wp_zret d_Rd_readBody_86 rfl (by decide) (by decide) h
set_option maxRecDepth 20000 in
set_option maxHeartbeats 2000000 in
theorem t_Rd_endRule_0   {w : Wo} {Q : Option AV → Wo → Prop} (h : MetI m_Cl_plan [vr 9] w (fun z2 w1 => ((z2 = (-1) → Wp m_Rd_endRule 19 [(0, vr 4)] [] (0, 0) w1 Q) ∧ (¬ z2 = (-1) → MetV m_Rd_note [vr 4, vi 3, vi z2] w1 (fun w3 => Wp m_Rd_endRule 19 [(0, vr 4)] [] (0, 0) w3 Q))))) : Wp m_Rd_endRule 0 [(0, vr 4)] [] (0, 0) w Q := by
  refine wp_ly (fun hly => ?_)
  refine wp_aload_n d_Rd_endRule_0 (i := 0) rfl 0 rfl ?_
  refine wp_getP d_Rd_endRule_1 fl_Rd_21 cl_4 rfl (ly_o hly (by decide)) (ly_r (v := 9) hly (by decide +kernel)) ?_
  refine wp_callV (A := []) (S := []) d_Rd_endRule_4 cv_Rd_endRule_149 (ly_o hly (by decide)) rfl (Nat.le_of_ble_eq_true rfl) (by decide) (MetS.mono h (fun r w1 hh => ?_))
  obtain ⟨z2, er, h⟩ := hh
  subst er
  refine wp_ly (fun hly => ?_)
  refine wp_istore_n (L' := [(1, vi z2), (0, vr 4)]) d_Rd_endRule_7 (i := 1) rfl rfl (by decide) ?_
  refine wp_iload_n d_Rd_endRule_8 (i := 1) rfl 0 rfl ?_
  refine wp_iconst d_Rd_endRule_9 (by decide) ?_
  refine wp_icmp_eq (tgt := 19) d_Rd_endRule_10 (by decide) (fun hc => ?_) (fun hc => ?_)
  · replace h := h.1 hc
    exact wp_pick [1] rfl h
  · replace h := h.2 hc
    refine wp_aload_n d_Rd_endRule_13 (i := 0) rfl 1 rfl ?_
    refine wp_iconst d_Rd_endRule_14 (by decide) ?_
    refine wp_iload_n d_Rd_endRule_15 (i := 1) rfl 0 rfl ?_
    refine wp_callV (A := [vi 3, vi z2]) (S := []) d_Rd_endRule_16 cv_Rd_endRule_100 (ly_o hly (by decide)) rfl (Nat.le_of_ble_eq_true rfl) (by decide) (MetS.mono h (fun r w3 hh => ?_))
    obtain ⟨er, h⟩ := hh
    subst er
    refine wp_ly (fun hly => ?_)
    exact wp_pick [1] rfl h
set_option maxRecDepth 20000 in
set_option maxHeartbeats 2000000 in
theorem t_Rd_endRule_19   {w : Wo} {Q : Option AV → Wo → Prop} (h : isBk (gP w 4 3) ∧ MetV m_Bk_addRule [vr (gP w 4 3), vr 9] w (fun w2 => MetI m_Rd_take [vr 4, vi 8] w2 (fun z4 w3 => (z4 = 0 ∨ z4 = 1) ∧ Q (some (vi z4)) w3))) : Wp m_Rd_endRule 19 [(0, vr 4)] [] (0, 0) w Q := by
  refine wp_ly (fun hly => ?_)
  refine wp_aload_n d_Rd_endRule_19 (i := 0) rfl 0 rfl ?_
  obtain ⟨hb1, h⟩ := h
  refine wp_getP d_Rd_endRule_20 fl_Rd_36 cl_4 rfl (ly_o hly (by decide)) rfl ?_
  refine wp_aload_n d_Rd_endRule_23 (i := 0) rfl 0 rfl ?_
  refine wp_getP d_Rd_endRule_24 fl_Rd_21 cl_4 rfl (ly_o hly (by decide)) (ly_r (v := 9) hly (by decide +kernel)) ?_
  refine wp_callV (A := [vr 9]) (S := []) d_Rd_endRule_27 cv_Rd_endRule_152 (ly_o hly (bk_o hb1)) rfl (Nat.le_of_ble_eq_true rfl) (by decide) (MetS.mono h (fun r w2 hh => ?_))
  obtain ⟨er, h⟩ := hh
  subst er
  refine wp_ly (fun hly => ?_)
  refine wp_aload_n d_Rd_endRule_30 (i := 0) rfl 0 rfl ?_
  refine wp_bipush d_Rd_endRule_31 (by decide) (by decide) ?_
  refine wp_callV (A := [vi 8]) (S := []) d_Rd_endRule_33 cv_Rd_endRule_139 (ly_o hly (by decide)) rfl (Nat.le_of_ble_eq_true rfl) (by decide) (MetS.mono h (fun r w3 hh => ?_))
  obtain ⟨z4, er, h⟩ := hh
  subst er
  refine wp_ly (fun hly => ?_)
  exact wp_zret d_Rd_endRule_36 rfl (by decide) h.1 h.2
set_option maxRecDepth 20000 in
set_option maxHeartbeats 2000000 in
theorem t_Rd_endFact_0   {w : Wo} {Q : Option AV → Wo → Prop} (h : MetI m_Cl_openPlace [vr 9] w (fun z2 w1 => ((z2 = (-1) → MetI m_Fc_add [vr 37, vr 10] w1 (fun z4 w3 => ((z4 = 0 → MetI m_Rd_take [vr 4, vi 8] w3 (fun z6 w5 => (z6 = 0 ∨ z6 = 1) ∧ Q (some (vi z6)) w5)) ∧ (¬ z4 = 0 → isBk (gP w3 4 3) ∧ MetV m_Bk_addFact [vr (gP w3 4 3), vi (gI w3 10 2)] w3 (fun w8 => MetI m_Rd_take [vr 4, vi 8] w8 (fun z10 w9 => (z10 = 0 ∨ z10 = 1) ∧ Q (some (vi z10)) w9)))))) ∧ (¬ z2 = (-1) → MetI m_Rd_refuse [vr 4, vi z2] w1 (fun z12 w11 => (z12 = 0 ∨ z12 = 1) ∧ Q (some (vi z12)) w11))))) : Wp m_Rd_endFact 0 [(0, vr 4)] [] (0, 0) w Q := by
  refine wp_ly (fun hly => ?_)
  refine wp_aload_n d_Rd_endFact_0 (i := 0) rfl 0 rfl ?_
  refine wp_getP d_Rd_endFact_1 fl_Rd_21 cl_4 rfl (ly_o hly (by decide)) (ly_r (v := 9) hly (by decide +kernel)) ?_
  refine wp_callV (A := []) (S := []) d_Rd_endFact_4 cv_Rd_endFact_156 (ly_o hly (by decide)) rfl (Nat.le_of_ble_eq_true rfl) (by decide) (MetS.mono h (fun r w1 hh => ?_))
  obtain ⟨z2, er, h⟩ := hh
  subst er
  refine wp_ly (fun hly => ?_)
  refine wp_istore_n (L' := [(1, vi z2), (0, vr 4)]) d_Rd_endFact_7 (i := 1) rfl rfl (by decide) ?_
  refine wp_iload_n d_Rd_endFact_8 (i := 1) rfl 0 rfl ?_
  refine wp_iconst d_Rd_endFact_9 (by decide) ?_
  refine wp_icmp_eq (tgt := 19) d_Rd_endFact_10 (by decide) (fun hc => ?_) (fun hc => ?_)
  · replace h := h.1 hc
    refine wp_aload_n d_Rd_endFact_19 (i := 0) rfl 1 rfl ?_
    refine wp_getP d_Rd_endFact_20 fl_Rd_28 cl_4 rfl (ly_o hly (by decide)) (ly_r (v := 37) hly (by decide +kernel)) ?_
    refine wp_aload_n d_Rd_endFact_23 (i := 0) rfl 1 rfl ?_
    refine wp_getP d_Rd_endFact_24 fl_Rd_21 cl_4 rfl (ly_o hly (by decide)) (ly_r (v := 9) hly (by decide +kernel)) ?_
    refine wp_getP d_Rd_endFact_27 fl_Rd_69 cl_1 rfl (ly_o hly (by decide)) (ly_r (v := 10) hly (by decide +kernel)) ?_
    refine wp_callV (A := [vr 10]) (S := []) d_Rd_endFact_30 cv_Rd_endFact_159 (ly_o hly (by decide)) rfl (Nat.le_of_ble_eq_true rfl) (by decide) (MetS.mono h (fun r w3 hh => ?_))
    obtain ⟨z4, er, h⟩ := hh
    subst er
    refine wp_ly (fun hly => ?_)
    refine wp_if_eq (tgt := 53) d_Rd_endFact_33 (by decide) (fun hc => ?_) (fun hc => ?_)
    · replace h := h.1 hc
      refine wp_aload_n d_Rd_endFact_53 (i := 0) rfl 1 rfl ?_
      refine wp_bipush d_Rd_endFact_54 (by decide) (by decide) ?_
      refine wp_callV (A := [vi 8]) (S := []) d_Rd_endFact_56 cv_Rd_endFact_139 (ly_o hly (by decide)) rfl (Nat.le_of_ble_eq_true rfl) (by decide) (MetS.mono h (fun r w5 hh => ?_))
      obtain ⟨z6, er, h⟩ := hh
      subst er
      refine wp_ly (fun hly => ?_)
      exact wp_zret d_Rd_endFact_59 rfl (by decide) h.1 h.2
    · replace h := h.2 hc
      refine wp_aload_n d_Rd_endFact_36 (i := 0) rfl 1 rfl ?_
      obtain ⟨hb7, h⟩ := h
      refine wp_getP d_Rd_endFact_37 fl_Rd_36 cl_4 rfl (ly_o hly (by decide)) rfl ?_
      refine wp_aload_n d_Rd_endFact_40 (i := 0) rfl 1 rfl ?_
      refine wp_getP d_Rd_endFact_41 fl_Rd_21 cl_4 rfl (ly_o hly (by decide)) (ly_r (v := 9) hly (by decide +kernel)) ?_
      refine wp_getP d_Rd_endFact_44 fl_Rd_69 cl_1 rfl (ly_o hly (by decide)) (ly_r (v := 10) hly (by decide +kernel)) ?_
      refine wp_getI d_Rd_endFact_47 fl_Rd_162 cl_3 rfl (ly_o hly (by decide)) ?_
      refine wp_callV (A := [vi (gI w3 10 2)]) (S := []) d_Rd_endFact_50 cv_Rd_endFact_165 (ly_o hly (bk_o hb7)) rfl (Nat.le_of_ble_eq_true rfl) (by decide) (MetS.mono h (fun r w8 hh => ?_))
      obtain ⟨er, h⟩ := hh
      subst er
      refine wp_ly (fun hly => ?_)
      refine wp_aload_n d_Rd_endFact_53 (i := 0) rfl 1 rfl ?_
      refine wp_bipush d_Rd_endFact_54 (by decide) (by decide) ?_
      refine wp_callV (A := [vi 8]) (S := []) d_Rd_endFact_56 cv_Rd_endFact_139 (ly_o hly (by decide)) rfl (Nat.le_of_ble_eq_true rfl) (by decide) (MetS.mono h (fun r w9 hh => ?_))
      obtain ⟨z10, er, h⟩ := hh
      subst er
      refine wp_ly (fun hly => ?_)
      exact wp_zret d_Rd_endFact_59 rfl (by decide) h.1 h.2
  · replace h := h.2 hc
    refine wp_aload_n d_Rd_endFact_13 (i := 0) rfl 1 rfl ?_
    refine wp_iload_n d_Rd_endFact_14 (i := 1) rfl 0 rfl ?_
    refine wp_callV (A := [vi z2]) (S := []) d_Rd_endFact_15 cv_Rd_endFact_125 (ly_o hly (by decide)) rfl (Nat.le_of_ble_eq_true rfl) (by decide) (MetS.mono h (fun r w11 hh => ?_))
    obtain ⟨z12, er, h⟩ := hh
    subst er
    refine wp_ly (fun hly => ?_)
    exact wp_zret d_Rd_endFact_18 rfl (by decide) h.1 h.2
set_option maxRecDepth 20000 in
set_option maxHeartbeats 2000000 in
theorem t_Rd_readLiteral_0 {r1 : Nat} (hr1 : isLt r1) {w : Wo} {Q : Option AV → Wo → Prop} (h : ((¬ (gI w 4 7) = 9 → ((¬ (gI w 4 7) = 2 → MetI m_Rd_readTest [vr 4, vr r1] w (fun z2 w1 => (z2 = 0 ∨ z2 = 1) ∧ Q (some (vi z2)) w1)) ∧ ((gI w 4 7) = 2 → MetI m_Rd_isOpenNext [vr 4] w (fun z4 w3 => ((z4 = 0 → MetI m_Rd_readTest [vr 4, vr r1] w3 (fun z6 w5 => (z6 = 0 ∨ z6 = 1) ∧ Q (some (vi z6)) w5)) ∧ (¬ z4 = 0 → (((gI w3 9 3) < 3 → inr32 ((gI w3 9 3) + 1) ∧ (∀ w7 : Wo, w7 = uI w3 9 3 ((gI w3 9 3) + 1) → MetV m_Lt_begin [vr r1, vi 0, vi (gI w7 4 8)] w7 (fun w9 => MetI m_Rd_readAtom [vr 4, vr r1] w9 (fun z11 w10 => (z11 = 0 ∨ z11 = 1) ∧ Q (some (vi z11)) w10)))) ∧ (¬ (gI w3 9 3) < 3 → MetI m_Rd_refuse [vr 4, vi (gI w3 4 8)] w3 (fun z13 w12 => (z13 = 0 ∨ z13 = 1) ∧ Q (some (vi z13)) w12))))))))) ∧ ((gI w 4 7) = 9 → MetV m_Lt_begin [vr r1, vi 1, vi (gI w 4 8)] w (fun w14 => inr32 ((gI w14 4 6) + 1) ∧ MetV m_Rd_moveTo [vr 4, vi ((gI w14 4 6) + 1)] w14 (fun w15 => MetI m_Rd_readAtom [vr 4, vr r1] w15 (fun z17 w16 => (z17 = 0 ∨ z17 = 1) ∧ Q (some (vi z17)) w16)))))) : Wp m_Rd_readLiteral 0 [(0, vr 4), (1, vr r1)] [] (0, 0) w Q := by
  refine wp_ly (fun hly => ?_)
  refine wp_aload_n d_Rd_readLiteral_0 (i := 0) rfl 0 rfl ?_
  refine wp_getI d_Rd_readLiteral_1 fl_Rd_60 cl_4 rfl (ly_o hly (by decide)) ?_
  refine wp_bipush d_Rd_readLiteral_4 (by decide) (by decide) ?_
  refine wp_icmp_ne (tgt := 34) d_Rd_readLiteral_6 (by decide) (fun hc => ?_) (fun hc => ?_)
  · replace h := h.1 hc
    refine wp_aload_n d_Rd_readLiteral_34 (i := 0) rfl 0 rfl ?_
    refine wp_getI d_Rd_readLiteral_35 fl_Rd_60 cl_4 rfl (ly_o hly (by decide)) ?_
    refine wp_iconst d_Rd_readLiteral_38 (by decide) ?_
    refine wp_icmp_ne (tgt := 97) d_Rd_readLiteral_39 (by decide) (fun hc => ?_) (fun hc => ?_)
    · replace h := h.1 hc
      refine wp_aload_n d_Rd_readLiteral_97 (i := 0) rfl 0 rfl ?_
      refine wp_aload_n d_Rd_readLiteral_98 (i := 1) rfl 1 rfl ?_
      refine wp_callV (A := [vr r1]) (S := []) d_Rd_readLiteral_99 cv_Rd_readLiteral_176 (ly_o hly (by decide)) rfl (Nat.le_of_ble_eq_true rfl) (by decide) (MetS.mono h (fun r w1 hh => ?_))
      obtain ⟨z2, er, h⟩ := hh
      subst er
      refine wp_ly (fun hly => ?_)
      exact wp_zret d_Rd_readLiteral_102 rfl (by decide) h.1 h.2
    · replace h := h.2 hc
      refine wp_aload_n d_Rd_readLiteral_42 (i := 0) rfl 0 rfl ?_
      refine wp_callV (A := []) (S := []) d_Rd_readLiteral_43 cv_Rd_readLiteral_170 (ly_o hly (by decide)) rfl (Nat.le_of_ble_eq_true rfl) (by decide) (MetS.mono h (fun r w3 hh => ?_))
      obtain ⟨z4, er, h⟩ := hh
      subst er
      refine wp_ly (fun hly => ?_)
      refine wp_if_eq (tgt := 97) d_Rd_readLiteral_46 (by decide) (fun hc => ?_) (fun hc => ?_)
      · replace h := h.1 hc
        refine wp_aload_n d_Rd_readLiteral_97 (i := 0) rfl 0 rfl ?_
        refine wp_aload_n d_Rd_readLiteral_98 (i := 1) rfl 1 rfl ?_
        refine wp_callV (A := [vr r1]) (S := []) d_Rd_readLiteral_99 cv_Rd_readLiteral_176 (ly_o hly (by decide)) rfl (Nat.le_of_ble_eq_true rfl) (by decide) (MetS.mono h (fun r w5 hh => ?_))
        obtain ⟨z6, er, h⟩ := hh
        subst er
        refine wp_ly (fun hly => ?_)
        exact wp_zret d_Rd_readLiteral_102 rfl (by decide) h.1 h.2
      · replace h := h.2 hc
        refine wp_aload_n d_Rd_readLiteral_49 (i := 0) rfl 0 rfl ?_
        refine wp_getP d_Rd_readLiteral_50 fl_Rd_21 cl_4 rfl (ly_o hly (by decide)) (ly_r (v := 9) hly (by decide +kernel)) ?_
        refine wp_getI d_Rd_readLiteral_53 fl_Rd_173 cl_1 rfl (ly_o hly (by decide)) ?_
        refine wp_iconst d_Rd_readLiteral_56 (by decide) ?_
        refine wp_icmp_lt (tgt := 69) d_Rd_readLiteral_57 (by decide) (fun hc => ?_) (fun hc => ?_)
        · replace h := h.1 hc
          refine wp_aload_n d_Rd_readLiteral_69 (i := 0) rfl 0 rfl ?_
          refine wp_getP d_Rd_readLiteral_70 fl_Rd_21 cl_4 rfl (ly_o hly (by decide)) (ly_r (v := 9) hly (by decide +kernel)) ?_
          refine wp_dup d_Rd_readLiteral_73 rfl ?_
          refine wp_getI d_Rd_readLiteral_74 fl_Rd_173 cl_1 rfl (ly_o hly (by decide)) ?_
          refine wp_iconst d_Rd_readLiteral_77 (by decide) ?_
          obtain ⟨ho, h⟩ := h
          refine wp_iadd d_Rd_readLiteral_78 ho ?_
          refine wp_putI d_Rd_readLiteral_79 fl_Rd_173 cl_1 ⟨rfl, rfl⟩ (ly_o hly (by decide)) (fun w7 e8 => ?_)
          replace h := h w7 e8
          refine wp_ly (fun hly => ?_)
          refine wp_aload_n d_Rd_readLiteral_82 (i := 1) rfl 1 rfl ?_
          refine wp_iconst d_Rd_readLiteral_83 (by decide) ?_
          refine wp_aload_n d_Rd_readLiteral_84 (i := 0) rfl 0 rfl ?_
          refine wp_getI d_Rd_readLiteral_85 fl_Rd_63 cl_4 rfl (ly_o hly (by decide)) ?_
          refine wp_callV (A := [vi 0, vi (gI w7 4 8)]) (S := []) d_Rd_readLiteral_88 cv_Rd_readLiteral_168 (ly_o hly (lt_o hr1)) rfl (Nat.le_of_ble_eq_true rfl) (by decide) (MetS.mono h (fun r w9 hh => ?_))
          obtain ⟨er, h⟩ := hh
          subst er
          refine wp_ly (fun hly => ?_)
          refine wp_aload_n d_Rd_readLiteral_91 (i := 0) rfl 0 rfl ?_
          refine wp_aload_n d_Rd_readLiteral_92 (i := 1) rfl 1 rfl ?_
          refine wp_callV (A := [vr r1]) (S := []) d_Rd_readLiteral_93 cv_Rd_readLiteral_73 (ly_o hly (by decide)) rfl (Nat.le_of_ble_eq_true rfl) (by decide) (MetS.mono h (fun r w10 hh => ?_))
          obtain ⟨z11, er, h⟩ := hh
          subst er
          refine wp_ly (fun hly => ?_)
          exact wp_zret d_Rd_readLiteral_96 rfl (by decide) h.1 h.2
        · replace h := h.2 hc
          refine wp_aload_n d_Rd_readLiteral_60 (i := 0) rfl 0 rfl ?_
          refine wp_aload_n d_Rd_readLiteral_61 (i := 0) rfl 0 rfl ?_
          refine wp_getI d_Rd_readLiteral_62 fl_Rd_63 cl_4 rfl (ly_o hly (by decide)) ?_
          refine wp_callV (A := [vi (gI w3 4 8)]) (S := []) d_Rd_readLiteral_65 cv_Rd_readLiteral_125 (ly_o hly (by decide)) rfl (Nat.le_of_ble_eq_true rfl) (by decide) (MetS.mono h (fun r w12 hh => ?_))
          obtain ⟨z13, er, h⟩ := hh
          subst er
          refine wp_ly (fun hly => ?_)
          exact wp_zret d_Rd_readLiteral_68 rfl (by decide) h.1 h.2
  · replace h := h.2 hc
    refine wp_aload_n d_Rd_readLiteral_9 (i := 1) rfl 1 rfl ?_
    refine wp_iconst d_Rd_readLiteral_10 (by decide) ?_
    refine wp_aload_n d_Rd_readLiteral_11 (i := 0) rfl 0 rfl ?_
    refine wp_getI d_Rd_readLiteral_12 fl_Rd_63 cl_4 rfl (ly_o hly (by decide)) ?_
    refine wp_callV (A := [vi 1, vi (gI w 4 8)]) (S := []) d_Rd_readLiteral_15 cv_Rd_readLiteral_168 (ly_o hly (lt_o hr1)) rfl (Nat.le_of_ble_eq_true rfl) (by decide) (MetS.mono h (fun r w14 hh => ?_))
    obtain ⟨er, h⟩ := hh
    subst er
    refine wp_ly (fun hly => ?_)
    refine wp_aload_n d_Rd_readLiteral_18 (i := 0) rfl 0 rfl ?_
    refine wp_aload_n d_Rd_readLiteral_19 (i := 0) rfl 0 rfl ?_
    refine wp_getI d_Rd_readLiteral_20 fl_Rd_107 cl_4 rfl (ly_o hly (by decide)) ?_
    refine wp_iconst d_Rd_readLiteral_23 (by decide) ?_
    obtain ⟨ho, h⟩ := h
    refine wp_iadd d_Rd_readLiteral_24 ho ?_
    refine wp_callV (A := [vi ((gI w14 4 6) + 1)]) (S := []) d_Rd_readLiteral_25 cv_Rd_readLiteral_55 (ly_o hly (by decide)) rfl (Nat.le_of_ble_eq_true rfl) (by decide) (MetS.mono h (fun r w15 hh => ?_))
    obtain ⟨er, h⟩ := hh
    subst er
    refine wp_ly (fun hly => ?_)
    refine wp_aload_n d_Rd_readLiteral_28 (i := 0) rfl 0 rfl ?_
    refine wp_aload_n d_Rd_readLiteral_29 (i := 1) rfl 1 rfl ?_
    refine wp_callV (A := [vr r1]) (S := []) d_Rd_readLiteral_30 cv_Rd_readLiteral_73 (ly_o hly (by decide)) rfl (Nat.le_of_ble_eq_true rfl) (by decide) (MetS.mono h (fun r w16 hh => ?_))
    obtain ⟨z17, er, h⟩ := hh
    subst er
    refine wp_ly (fun hly => ?_)
    exact wp_zret d_Rd_readLiteral_33 rfl (by decide) h.1 h.2
set_option maxRecDepth 20000 in
set_option maxHeartbeats 2000000 in
theorem t_Rd_isOpenNext_0   {w : Wo} {Q : Option AV → Wo → Prop} (h : inr32 ((gI w 4 6) + 1) ∧ (((gI w 5 3) ≤ ((gI w 4 6) + 1) → Q (some (vi 0)) w) ∧ (¬ (gI w 5 3) ≤ ((gI w 4 6) + 1) → inr32 ((gI w 4 6) + 1) ∧ (0 ≤ ((gI w 4 6) + 1) ∧ ((gI w 4 6) + 1) < 601) ∧ ((¬ (gI w 6 ((gI w 4 6) + 1).toNat) = 5 → Q (some (vi 0)) w) ∧ ((gI w 6 ((gI w 4 6) + 1).toNat) = 5 → Q (some (vi 1)) w))))) : Wp m_Rd_isOpenNext 0 [(0, vr 4)] [] (0, 0) w Q := by
  refine wp_ly (fun hly => ?_)
  refine wp_aload_n d_Rd_isOpenNext_0 (i := 0) rfl 0 rfl ?_
  refine wp_getI d_Rd_isOpenNext_1 fl_Rd_107 cl_4 rfl (ly_o hly (by decide)) ?_
  refine wp_iconst d_Rd_isOpenNext_4 (by decide) ?_
  obtain ⟨ho, h⟩ := h
  refine wp_iadd d_Rd_isOpenNext_5 ho ?_
  refine wp_aload_n d_Rd_isOpenNext_6 (i := 0) rfl 0 rfl ?_
  refine wp_getP d_Rd_isOpenNext_7 fl_Rd_12 cl_4 rfl (ly_o hly (by decide)) (ly_r (v := 5) hly (by decide +kernel)) ?_
  refine wp_getI d_Rd_isOpenNext_10 fl_Rd_59 cl_7 rfl (ly_o hly (by decide)) ?_
  refine wp_icmp_ge (tgt := 38) d_Rd_isOpenNext_13 (by decide) (fun hc => ?_) (fun hc => ?_)
  · replace h := h.1 hc
    refine wp_iconst d_Rd_isOpenNext_38 (by decide) ?_
    exact wp_zret d_Rd_isOpenNext_39 rfl (by decide) (by decide) h
  · replace h := h.2 hc
    refine wp_aload_n d_Rd_isOpenNext_16 (i := 0) rfl 0 rfl ?_
    refine wp_getP d_Rd_isOpenNext_17 fl_Rd_12 cl_4 rfl (ly_o hly (by decide)) (ly_r (v := 5) hly (by decide +kernel)) ?_
    refine wp_getP d_Rd_isOpenNext_20 fl_Rd_110 cl_7 rfl (ly_o hly (by decide)) (ly_r (v := 6) hly (by decide +kernel)) ?_
    refine wp_aload_n d_Rd_isOpenNext_23 (i := 0) rfl 0 rfl ?_
    refine wp_getI d_Rd_isOpenNext_24 fl_Rd_107 cl_4 rfl (ly_o hly (by decide)) ?_
    refine wp_iconst d_Rd_isOpenNext_27 (by decide) ?_
    obtain ⟨ho, h⟩ := h
    refine wp_iadd d_Rd_isOpenNext_28 ho ?_
    obtain ⟨hi1, h⟩ := h
    refine wp_iaload d_Rd_isOpenNext_29 (ly_a (n := 601) (N := 601) hly (by decide) hi1) ?_
    refine wp_iconst d_Rd_isOpenNext_30 (by decide) ?_
    refine wp_icmp_ne (tgt := 38) d_Rd_isOpenNext_31 (by decide) (fun hc => ?_) (fun hc => ?_)
    · replace h := h.1 hc
      refine wp_iconst d_Rd_isOpenNext_38 (by decide) ?_
      exact wp_zret d_Rd_isOpenNext_39 rfl (by decide) (by decide) h
    · replace h := h.2 hc
      refine wp_iconst d_Rd_isOpenNext_34 (by decide) ?_
      refine wp_goto (tgt := 39) d_Rd_isOpenNext_35 (by decide) ?_
      exact wp_zret d_Rd_isOpenNext_39 rfl (by decide) (by decide) h
set_option maxRecDepth 20000 in
set_option maxHeartbeats 2000000 in
theorem t_Rd_readTest_0 {r1 : Nat} (hr1 : isLt r1) {w : Wo} {Q : Option AV → Wo → Prop} (h : ((¬ (gI w 4 7) = 3 → Wp m_Rd_readTest 13 [(0, vr 4), (1, vr r1)] [vi 0] (0, 0) w Q) ∧ ((gI w 4 7) = 3 → Wp m_Rd_readTest 13 [(0, vr 4), (1, vr r1)] [vi 1] (0, 0) w Q))) : Wp m_Rd_readTest 0 [(0, vr 4), (1, vr r1)] [] (0, 0) w Q := by
  refine wp_ly (fun hly => ?_)
  refine wp_aload_n d_Rd_readTest_0 (i := 0) rfl 0 rfl ?_
  refine wp_getI d_Rd_readTest_1 fl_Rd_60 cl_4 rfl (ly_o hly (by decide)) ?_
  refine wp_iconst d_Rd_readTest_4 (by decide) ?_
  refine wp_icmp_ne (tgt := 12) d_Rd_readTest_5 (by decide) (fun hc => ?_) (fun hc => ?_)
  · replace h := h.1 hc
    refine wp_iconst d_Rd_readTest_12 (by decide) ?_
    exact h
  · replace h := h.2 hc
    refine wp_iconst d_Rd_readTest_8 (by decide) ?_
    refine wp_goto (tgt := 13) d_Rd_readTest_9 (by decide) ?_
    exact h
set_option maxRecDepth 20000 in
set_option maxHeartbeats 2000000 in
theorem t_Rd_readTest_13 {r1 : Nat} {s0 : Int} (hr1 : isLt r1) {w : Wo} {Q : Option AV → Wo → Prop} (h : MetV m_Lt_begin [vr r1, vi 2, vi (gI w 4 8)] w (fun w1 => MetI m_Rd_readTerm [vr 4, vr r1] w1 (fun z3 w2 => ((¬ z3 = 0 → ((s0 = 0 → Wp m_Rd_readTest 90 [(0, vr 4), (1, vr r1)] [] (0, 0) w2 Q) ∧ (¬ s0 = 0 → ((¬ (gI w2 4 7) = 16 → Wp m_Rd_readTest 90 [(0, vr 4), (1, vr r1)] [] (0, 0) w2 Q) ∧ ((gI w2 4 7) = 16 → (∀ w4 : Wo, w4 = uI w2 r1 0 3 → inr32 ((gI w4 4 6) + 1) ∧ MetV m_Rd_moveTo [vr 4, vi ((gI w4 4 6) + 1)] w4 (fun w6 => MetI m_Rd_readTerm [vr 4, vr r1] w6 (fun z8 w7 => ((z8 = 0 → Q (some (vi 0)) w7) ∧ (¬ z8 = 0 → MetI m_Rd_readOperation [vr 4] w7 (fun z10 w9 => ((z10 = 0 → Q (some (vi 0)) w9) ∧ (¬ z10 = 0 → MetI m_Rd_readTerm [vr 4, vr r1] w9 (fun z12 w11 => ((z12 = 0 → Q (some (vi 0)) w11) ∧ (¬ z12 = 0 → Q (some (vi 1)) w11)))))))))))))))) ∧ (z3 = 0 → Q (some (vi 0)) w2))))) : Wp m_Rd_readTest 13 [(0, vr 4), (1, vr r1)] [vi s0] (0, 0) w Q := by
  refine wp_ly (fun hly => ?_)
  refine wp_istore_n (L' := [(2, vi s0), (0, vr 4), (1, vr r1)]) d_Rd_readTest_13 (i := 2) rfl rfl (by decide) ?_
  refine wp_aload_n d_Rd_readTest_14 (i := 1) rfl 2 rfl ?_
  refine wp_iconst d_Rd_readTest_15 (by decide) ?_
  refine wp_aload_n d_Rd_readTest_16 (i := 0) rfl 1 rfl ?_
  refine wp_getI d_Rd_readTest_17 fl_Rd_63 cl_4 rfl (ly_o hly (by decide)) ?_
  refine wp_callV (A := [vi 2, vi (gI w 4 8)]) (S := []) d_Rd_readTest_20 cv_Rd_readTest_168 (ly_o hly (lt_o hr1)) rfl (Nat.le_of_ble_eq_true rfl) (by decide) (MetS.mono h (fun r w1 hh => ?_))
  obtain ⟨er, h⟩ := hh
  subst er
  refine wp_ly (fun hly => ?_)
  refine wp_aload_n d_Rd_readTest_23 (i := 0) rfl 1 rfl ?_
  refine wp_aload_n d_Rd_readTest_24 (i := 1) rfl 2 rfl ?_
  refine wp_callV (A := [vr r1]) (S := []) d_Rd_readTest_25 cv_Rd_readTest_179 (ly_o hly (by decide)) rfl (Nat.le_of_ble_eq_true rfl) (by decide) (MetS.mono h (fun r w2 hh => ?_))
  obtain ⟨z3, er, h⟩ := hh
  subst er
  refine wp_ly (fun hly => ?_)
  refine wp_if_ne (tgt := 33) d_Rd_readTest_28 (by decide) (fun hc => ?_) (fun hc => ?_)
  · replace h := h.1 hc
    refine wp_iload_n d_Rd_readTest_33 (i := 2) rfl 0 rfl ?_
    refine wp_if_eq (tgt := 90) d_Rd_readTest_34 (by decide) (fun hc => ?_) (fun hc => ?_)
    · replace h := h.1 hc
      exact wp_pick [1, 2] rfl h
    · replace h := h.2 hc
      refine wp_aload_n d_Rd_readTest_37 (i := 0) rfl 1 rfl ?_
      refine wp_getI d_Rd_readTest_38 fl_Rd_60 cl_4 rfl (ly_o hly (by decide)) ?_
      refine wp_bipush d_Rd_readTest_41 (by decide) (by decide) ?_
      refine wp_icmp_ne (tgt := 90) d_Rd_readTest_43 (by decide) (fun hc => ?_) (fun hc => ?_)
      · replace h := h.1 hc
        exact wp_pick [1, 2] rfl h
      · replace h := h.2 hc
        refine wp_aload_n d_Rd_readTest_46 (i := 1) rfl 2 rfl ?_
        refine wp_iconst d_Rd_readTest_47 (by decide) ?_
        refine wp_putI d_Rd_readTest_48 fl_Rd_182 cl_3 ⟨rfl, rfl⟩ (ly_o hly (lt_o hr1)) (fun w4 e5 => ?_)
        replace h := h w4 e5
        refine wp_ly (fun hly => ?_)
        refine wp_aload_n d_Rd_readTest_51 (i := 0) rfl 1 rfl ?_
        refine wp_aload_n d_Rd_readTest_52 (i := 0) rfl 1 rfl ?_
        refine wp_getI d_Rd_readTest_53 fl_Rd_107 cl_4 rfl (ly_o hly (by decide)) ?_
        refine wp_iconst d_Rd_readTest_56 (by decide) ?_
        obtain ⟨ho, h⟩ := h
        refine wp_iadd d_Rd_readTest_57 ho ?_
        refine wp_callV (A := [vi ((gI w4 4 6) + 1)]) (S := []) d_Rd_readTest_58 cv_Rd_readTest_55 (ly_o hly (by decide)) rfl (Nat.le_of_ble_eq_true rfl) (by decide) (MetS.mono h (fun r w6 hh => ?_))
        obtain ⟨er, h⟩ := hh
        subst er
        refine wp_ly (fun hly => ?_)
        refine wp_aload_n d_Rd_readTest_61 (i := 0) rfl 1 rfl ?_
        refine wp_aload_n d_Rd_readTest_62 (i := 1) rfl 2 rfl ?_
        refine wp_callV (A := [vr r1]) (S := []) d_Rd_readTest_63 cv_Rd_readTest_179 (ly_o hly (by decide)) rfl (Nat.le_of_ble_eq_true rfl) (by decide) (MetS.mono h (fun r w7 hh => ?_))
        obtain ⟨z8, er, h⟩ := hh
        subst er
        refine wp_ly (fun hly => ?_)
        refine wp_if_eq (tgt := 88) d_Rd_readTest_66 (by decide) (fun hc => ?_) (fun hc => ?_)
        · replace h := h.1 hc
          refine wp_iconst d_Rd_readTest_88 (by decide) ?_
          exact wp_zret d_Rd_readTest_89 rfl (by decide) (by decide) h
        · replace h := h.2 hc
          refine wp_aload_n d_Rd_readTest_69 (i := 0) rfl 1 rfl ?_
          refine wp_callV (A := []) (S := []) d_Rd_readTest_70 cv_Rd_readTest_183 (ly_o hly (by decide)) rfl (Nat.le_of_ble_eq_true rfl) (by decide) (MetS.mono h (fun r w9 hh => ?_))
          obtain ⟨z10, er, h⟩ := hh
          subst er
          refine wp_ly (fun hly => ?_)
          refine wp_if_eq (tgt := 88) d_Rd_readTest_73 (by decide) (fun hc => ?_) (fun hc => ?_)
          · replace h := h.1 hc
            refine wp_iconst d_Rd_readTest_88 (by decide) ?_
            exact wp_zret d_Rd_readTest_89 rfl (by decide) (by decide) h
          · replace h := h.2 hc
            refine wp_aload_n d_Rd_readTest_76 (i := 0) rfl 1 rfl ?_
            refine wp_aload_n d_Rd_readTest_77 (i := 1) rfl 2 rfl ?_
            refine wp_callV (A := [vr r1]) (S := []) d_Rd_readTest_78 cv_Rd_readTest_179 (ly_o hly (by decide)) rfl (Nat.le_of_ble_eq_true rfl) (by decide) (MetS.mono h (fun r w11 hh => ?_))
            obtain ⟨z12, er, h⟩ := hh
            subst er
            refine wp_ly (fun hly => ?_)
            refine wp_if_eq (tgt := 88) d_Rd_readTest_81 (by decide) (fun hc => ?_) (fun hc => ?_)
            · replace h := h.1 hc
              refine wp_iconst d_Rd_readTest_88 (by decide) ?_
              exact wp_zret d_Rd_readTest_89 rfl (by decide) (by decide) h
            · replace h := h.2 hc
              refine wp_iconst d_Rd_readTest_84 (by decide) ?_
              refine wp_goto (tgt := 89) d_Rd_readTest_85 (by decide) ?_
              exact wp_zret d_Rd_readTest_89 rfl (by decide) (by decide) h
  · replace h := h.2 hc
    refine wp_iconst d_Rd_readTest_31 (by decide) ?_
    exact wp_zret d_Rd_readTest_32 rfl (by decide) (by decide) h
set_option maxRecDepth 20000 in
set_option maxHeartbeats 2000000 in
theorem t_Rd_readTest_90 {r1 : Nat} (hr1 : isLt r1) {w : Wo} {Q : Option AV → Wo → Prop} (h : (((gI w 4 7) = 12 → Wp m_Rd_readTest 117 [(0, vr 4), (1, vr r1)] [] (0, 0) w Q) ∧ (¬ (gI w 4 7) = 12 → (((gI w 4 7) = 13 → Wp m_Rd_readTest 117 [(0, vr 4), (1, vr r1)] [] (0, 0) w Q) ∧ (¬ (gI w 4 7) = 13 → MetI m_Rd_refuse [vr 4, vi (gI w 4 8)] w (fun z2 w1 => (z2 = 0 ∨ z2 = 1) ∧ Q (some (vi z2)) w1)))))) : Wp m_Rd_readTest 90 [(0, vr 4), (1, vr r1)] [] (0, 0) w Q := by
  refine wp_ly (fun hly => ?_)
  refine wp_aload_n d_Rd_readTest_90 (i := 0) rfl 0 rfl ?_
  refine wp_getI d_Rd_readTest_91 fl_Rd_60 cl_4 rfl (ly_o hly (by decide)) ?_
  refine wp_bipush d_Rd_readTest_94 (by decide) (by decide) ?_
  refine wp_icmp_eq (tgt := 117) d_Rd_readTest_96 (by decide) (fun hc => ?_) (fun hc => ?_)
  · replace h := h.1 hc
    exact h
  · replace h := h.2 hc
    refine wp_aload_n d_Rd_readTest_99 (i := 0) rfl 0 rfl ?_
    refine wp_getI d_Rd_readTest_100 fl_Rd_60 cl_4 rfl (ly_o hly (by decide)) ?_
    refine wp_bipush d_Rd_readTest_103 (by decide) (by decide) ?_
    refine wp_icmp_eq (tgt := 117) d_Rd_readTest_105 (by decide) (fun hc => ?_) (fun hc => ?_)
    · replace h := h.1 hc
      exact h
    · replace h := h.2 hc
      refine wp_aload_n d_Rd_readTest_108 (i := 0) rfl 0 rfl ?_
      refine wp_aload_n d_Rd_readTest_109 (i := 0) rfl 0 rfl ?_
      refine wp_getI d_Rd_readTest_110 fl_Rd_63 cl_4 rfl (ly_o hly (by decide)) ?_
      refine wp_callV (A := [vi (gI w 4 8)]) (S := []) d_Rd_readTest_113 cv_Rd_readTest_125 (ly_o hly (by decide)) rfl (Nat.le_of_ble_eq_true rfl) (by decide) (MetS.mono h (fun r w1 hh => ?_))
      obtain ⟨z2, er, h⟩ := hh
      subst er
      refine wp_ly (fun hly => ?_)
      exact wp_zret d_Rd_readTest_116 rfl (by decide) h.1 h.2
set_option maxRecDepth 20000 in
set_option maxHeartbeats 2000000 in
theorem t_Rd_readTest_117 {r1 : Nat} (hr1 : isLt r1) {w : Wo} {Q : Option AV → Wo → Prop} (h : ((¬ (gI w 4 7) = 12 → (∀ w1 : Wo, w1 = uI w r1 3 0 → inr32 ((gI w1 4 6) + 1) ∧ MetV m_Rd_moveTo [vr 4, vi ((gI w1 4 6) + 1)] w1 (fun w3 => MetI m_Rd_readTerm [vr 4, vr r1] w3 (fun z5 w4 => (z5 = 0 ∨ z5 = 1) ∧ Q (some (vi z5)) w4)))) ∧ ((gI w 4 7) = 12 → (∀ w6 : Wo, w6 = uI w r1 3 1 → inr32 ((gI w6 4 6) + 1) ∧ MetV m_Rd_moveTo [vr 4, vi ((gI w6 4 6) + 1)] w6 (fun w8 => MetI m_Rd_readTerm [vr 4, vr r1] w8 (fun z10 w9 => (z10 = 0 ∨ z10 = 1) ∧ Q (some (vi z10)) w9)))))) : Wp m_Rd_readTest 117 [(0, vr 4), (1, vr r1)] [] (0, 0) w Q := by
  refine wp_ly (fun hly => ?_)
  refine wp_aload_n d_Rd_readTest_117 (i := 1) rfl 1 rfl ?_
  refine wp_aload_n d_Rd_readTest_118 (i := 0) rfl 0 rfl ?_
  refine wp_getI d_Rd_readTest_119 fl_Rd_60 cl_4 rfl (ly_o hly (by decide)) ?_
  refine wp_bipush d_Rd_readTest_122 (by decide) (by decide) ?_
  refine wp_icmp_ne (tgt := 131) d_Rd_readTest_124 (by decide) (fun hc => ?_) (fun hc => ?_)
  · replace h := h.1 hc
    refine wp_iconst d_Rd_readTest_131 (by decide) ?_
    refine wp_putZ d_Rd_readTest_132 fl_Rd_186 cl_3 ⟨rfl, rfl⟩ (ly_o hly (lt_o hr1)) (by decide) (fun w1 e2 => ?_)
    replace h := h w1 e2
    refine wp_ly (fun hly => ?_)
    refine wp_aload_n d_Rd_readTest_135 (i := 0) rfl 0 rfl ?_
    refine wp_aload_n d_Rd_readTest_136 (i := 0) rfl 0 rfl ?_
    refine wp_getI d_Rd_readTest_137 fl_Rd_107 cl_4 rfl (ly_o hly (by decide)) ?_
    refine wp_iconst d_Rd_readTest_140 (by decide) ?_
    obtain ⟨ho, h⟩ := h
    refine wp_iadd d_Rd_readTest_141 ho ?_
    refine wp_callV (A := [vi ((gI w1 4 6) + 1)]) (S := []) d_Rd_readTest_142 cv_Rd_readTest_55 (ly_o hly (by decide)) rfl (Nat.le_of_ble_eq_true rfl) (by decide) (MetS.mono h (fun r w3 hh => ?_))
    obtain ⟨er, h⟩ := hh
    subst er
    refine wp_ly (fun hly => ?_)
    refine wp_aload_n d_Rd_readTest_145 (i := 0) rfl 0 rfl ?_
    refine wp_aload_n d_Rd_readTest_146 (i := 1) rfl 1 rfl ?_
    refine wp_callV (A := [vr r1]) (S := []) d_Rd_readTest_147 cv_Rd_readTest_179 (ly_o hly (by decide)) rfl (Nat.le_of_ble_eq_true rfl) (by decide) (MetS.mono h (fun r w4 hh => ?_))
    obtain ⟨z5, er, h⟩ := hh
    subst er
    refine wp_ly (fun hly => ?_)
    exact wp_zret d_Rd_readTest_150 rfl (by decide) h.1 h.2
  · replace h := h.2 hc
    refine wp_iconst d_Rd_readTest_127 (by decide) ?_
    refine wp_goto (tgt := 132) d_Rd_readTest_128 (by decide) ?_
    refine wp_putZ d_Rd_readTest_132 fl_Rd_186 cl_3 ⟨rfl, rfl⟩ (ly_o hly (lt_o hr1)) (by decide) (fun w6 e7 => ?_)
    replace h := h w6 e7
    refine wp_ly (fun hly => ?_)
    refine wp_aload_n d_Rd_readTest_135 (i := 0) rfl 0 rfl ?_
    refine wp_aload_n d_Rd_readTest_136 (i := 0) rfl 0 rfl ?_
    refine wp_getI d_Rd_readTest_137 fl_Rd_107 cl_4 rfl (ly_o hly (by decide)) ?_
    refine wp_iconst d_Rd_readTest_140 (by decide) ?_
    obtain ⟨ho, h⟩ := h
    refine wp_iadd d_Rd_readTest_141 ho ?_
    refine wp_callV (A := [vi ((gI w6 4 6) + 1)]) (S := []) d_Rd_readTest_142 cv_Rd_readTest_55 (ly_o hly (by decide)) rfl (Nat.le_of_ble_eq_true rfl) (by decide) (MetS.mono h (fun r w8 hh => ?_))
    obtain ⟨er, h⟩ := hh
    subst er
    refine wp_ly (fun hly => ?_)
    refine wp_aload_n d_Rd_readTest_145 (i := 0) rfl 0 rfl ?_
    refine wp_aload_n d_Rd_readTest_146 (i := 1) rfl 1 rfl ?_
    refine wp_callV (A := [vr r1]) (S := []) d_Rd_readTest_147 cv_Rd_readTest_179 (ly_o hly (by decide)) rfl (Nat.le_of_ble_eq_true rfl) (by decide) (MetS.mono h (fun r w9 hh => ?_))
    obtain ⟨z10, er, h⟩ := hh
    subst er
    refine wp_ly (fun hly => ?_)
    exact wp_zret d_Rd_readTest_150 rfl (by decide) h.1 h.2
set_option maxRecDepth 20000 in
set_option maxHeartbeats 2000000 in
theorem t_Rd_readOperation_0   {w : Wo} {Q : Option AV → Wo → Prop} (h : ((¬ (gI w 4 7) = 14 → MetI m_Rd_take [vr 4, vi 15] w (fun z2 w1 => (z2 = 0 ∨ z2 = 1) ∧ Q (some (vi z2)) w1)) ∧ ((gI w 4 7) = 14 → MetI m_Rd_take [vr 4, vi 14] w (fun z4 w3 => (z4 = 0 ∨ z4 = 1) ∧ Q (some (vi z4)) w3)))) : Wp m_Rd_readOperation 0 [(0, vr 4)] [] (0, 0) w Q := by
  refine wp_ly (fun hly => ?_)
  refine wp_aload_n d_Rd_readOperation_0 (i := 0) rfl 0 rfl ?_
  refine wp_aload_n d_Rd_readOperation_1 (i := 0) rfl 0 rfl ?_
  refine wp_getI d_Rd_readOperation_2 fl_Rd_60 cl_4 rfl (ly_o hly (by decide)) ?_
  refine wp_bipush d_Rd_readOperation_5 (by decide) (by decide) ?_
  refine wp_icmp_ne (tgt := 15) d_Rd_readOperation_7 (by decide) (fun hc => ?_) (fun hc => ?_)
  · replace h := h.1 hc
    refine wp_bipush d_Rd_readOperation_15 (by decide) (by decide) ?_
    refine wp_callV (A := [vi 15]) (S := []) d_Rd_readOperation_17 cv_Rd_readOperation_139 (ly_o hly (by decide)) rfl (Nat.le_of_ble_eq_true rfl) (by decide) (MetS.mono h (fun r w1 hh => ?_))
    obtain ⟨z2, er, h⟩ := hh
    subst er
    refine wp_ly (fun hly => ?_)
    exact wp_zret d_Rd_readOperation_20 rfl (by decide) h.1 h.2
  · replace h := h.2 hc
    refine wp_bipush d_Rd_readOperation_10 (by decide) (by decide) ?_
    refine wp_goto (tgt := 17) d_Rd_readOperation_12 (by decide) ?_
    refine wp_callV (A := [vi 14]) (S := []) d_Rd_readOperation_17 cv_Rd_readOperation_139 (ly_o hly (by decide)) rfl (Nat.le_of_ble_eq_true rfl) (by decide) (MetS.mono h (fun r w3 hh => ?_))
    obtain ⟨z4, er, h⟩ := hh
    subst er
    refine wp_ly (fun hly => ?_)
    exact wp_zret d_Rd_readOperation_20 rfl (by decide) h.1 h.2
set_option maxRecDepth 20000 in
set_option maxHeartbeats 2000000 in
theorem t_Rd_readAtom_0 {r1 : Nat} (hr1 : isLt r1) {w : Wo} {Q : Option AV → Wo → Prop} (h : (((gI w 4 7) = 2 → isBk (gP w 4 3) ∧ MetI m_Bk_numberOf [vr (gP w 4 3), vl (gJ w 4 9)] w (fun z3 w2 => (∀ w4 : Wo, w4 = uI w2 r1 2 z3 → ((¬ (gI w4 r1 2) = (-1) → inr32 ((gI w4 4 6) + 1) ∧ MetV m_Rd_moveTo [vr 4, vi ((gI w4 4 6) + 1)] w4 (fun w6 => MetI m_Rd_take [vr 4, vi 5] w6 (fun z8 w7 => ((¬ z8 = 0 → Wp m_Rd_readAtom 76 [(0, vr 4), (1, vr r1), (2, vi (gI w 4 8)), (3, vi 0)] [] (0, 0) w7 Q) ∧ (z8 = 0 → Q (some (vi 0)) w7))))) ∧ ((gI w4 r1 2) = (-1) → MetI m_Rd_refuse [vr 4, vi (gI w4 4 8)] w4 (fun z10 w9 => (z10 = 0 ∨ z10 = 1) ∧ Q (some (vi z10)) w9)))))) ∧ (¬ (gI w 4 7) = 2 → MetI m_Rd_refuse [vr 4, vi (gI w 4 8)] w (fun z12 w11 => (z12 = 0 ∨ z12 = 1) ∧ Q (some (vi z12)) w11)))) : Wp m_Rd_readAtom 0 [(0, vr 4), (1, vr r1)] [] (0, 0) w Q := by
  refine wp_ly (fun hly => ?_)
  refine wp_aload_n d_Rd_readAtom_0 (i := 0) rfl 0 rfl ?_
  refine wp_getI d_Rd_readAtom_1 fl_Rd_63 cl_4 rfl (ly_o hly (by decide)) ?_
  refine wp_istore_n (L' := [(2, vi (gI w 4 8)), (0, vr 4), (1, vr r1)]) d_Rd_readAtom_4 (i := 2) rfl rfl (by decide) ?_
  refine wp_aload_n d_Rd_readAtom_5 (i := 0) rfl 1 rfl ?_
  refine wp_getI d_Rd_readAtom_6 fl_Rd_60 cl_4 rfl (ly_o hly (by decide)) ?_
  refine wp_iconst d_Rd_readAtom_9 (by decide) ?_
  refine wp_icmp_eq (tgt := 22) d_Rd_readAtom_10 (by decide) (fun hc => ?_) (fun hc => ?_)
  · replace h := h.1 hc
    refine wp_aload_n d_Rd_readAtom_22 (i := 1) rfl 2 rfl ?_
    refine wp_aload_n d_Rd_readAtom_23 (i := 0) rfl 1 rfl ?_
    obtain ⟨hb1, h⟩ := h
    refine wp_getP d_Rd_readAtom_24 fl_Rd_36 cl_4 rfl (ly_o hly (by decide)) rfl ?_
    refine wp_aload_n d_Rd_readAtom_27 (i := 0) rfl 1 rfl ?_
    refine wp_getJ d_Rd_readAtom_28 fl_Rd_121 cl_4 rfl (ly_o hly (by decide)) ?_
    refine wp_callV (A := [vl (gJ w 4 9)]) (S := [vr r1]) d_Rd_readAtom_31 cv_Rd_readAtom_190 (ly_o hly (bk_o hb1)) rfl (Nat.le_of_ble_eq_true rfl) (by decide) (MetS.mono h (fun r w2 hh => ?_))
    obtain ⟨z3, er, h⟩ := hh
    subst er
    refine wp_ly (fun hly => ?_)
    refine wp_putI d_Rd_readAtom_34 fl_Rd_162 cl_3 ⟨rfl, rfl⟩ (ly_o hly (lt_o hr1)) (fun w4 e5 => ?_)
    replace h := h w4 e5
    refine wp_ly (fun hly => ?_)
    refine wp_aload_n d_Rd_readAtom_37 (i := 1) rfl 2 rfl ?_
    refine wp_getI d_Rd_readAtom_38 fl_Rd_162 cl_3 rfl (ly_o hly (lt_o hr1)) ?_
    refine wp_iconst d_Rd_readAtom_41 (by decide) ?_
    refine wp_icmp_ne (tgt := 54) d_Rd_readAtom_42 (by decide) (fun hc => ?_) (fun hc => ?_)
    · replace h := h.1 hc
      refine wp_aload_n d_Rd_readAtom_54 (i := 0) rfl 1 rfl ?_
      refine wp_aload_n d_Rd_readAtom_55 (i := 0) rfl 1 rfl ?_
      refine wp_getI d_Rd_readAtom_56 fl_Rd_107 cl_4 rfl (ly_o hly (by decide)) ?_
      refine wp_iconst d_Rd_readAtom_59 (by decide) ?_
      obtain ⟨ho, h⟩ := h
      refine wp_iadd d_Rd_readAtom_60 ho ?_
      refine wp_callV (A := [vi ((gI w4 4 6) + 1)]) (S := []) d_Rd_readAtom_61 cv_Rd_readAtom_55 (ly_o hly (by decide)) rfl (Nat.le_of_ble_eq_true rfl) (by decide) (MetS.mono h (fun r w6 hh => ?_))
      obtain ⟨er, h⟩ := hh
      subst er
      refine wp_ly (fun hly => ?_)
      refine wp_aload_n d_Rd_readAtom_64 (i := 0) rfl 1 rfl ?_
      refine wp_iconst d_Rd_readAtom_65 (by decide) ?_
      refine wp_callV (A := [vi 5]) (S := []) d_Rd_readAtom_66 cv_Rd_readAtom_139 (ly_o hly (by decide)) rfl (Nat.le_of_ble_eq_true rfl) (by decide) (MetS.mono h (fun r w7 hh => ?_))
      obtain ⟨z8, er, h⟩ := hh
      subst er
      refine wp_ly (fun hly => ?_)
      refine wp_if_ne (tgt := 74) d_Rd_readAtom_69 (by decide) (fun hc => ?_) (fun hc => ?_)
      · replace h := h.1 hc
        refine wp_iconst d_Rd_readAtom_74 (by decide) ?_
        refine wp_istore_n (L' := [(3, vi 0), (2, vi (gI w 4 8)), (0, vr 4), (1, vr r1)]) d_Rd_readAtom_75 (i := 3) rfl rfl (by decide) ?_
        exact wp_pick [2, 3, 1, 0] rfl h
      · replace h := h.2 hc
        refine wp_iconst d_Rd_readAtom_72 (by decide) ?_
        exact wp_zret d_Rd_readAtom_73 rfl (by decide) (by decide) h
    · replace h := h.2 hc
      refine wp_aload_n d_Rd_readAtom_45 (i := 0) rfl 1 rfl ?_
      refine wp_aload_n d_Rd_readAtom_46 (i := 0) rfl 1 rfl ?_
      refine wp_getI d_Rd_readAtom_47 fl_Rd_63 cl_4 rfl (ly_o hly (by decide)) ?_
      refine wp_callV (A := [vi (gI w4 4 8)]) (S := []) d_Rd_readAtom_50 cv_Rd_readAtom_125 (ly_o hly (by decide)) rfl (Nat.le_of_ble_eq_true rfl) (by decide) (MetS.mono h (fun r w9 hh => ?_))
      obtain ⟨z10, er, h⟩ := hh
      subst er
      refine wp_ly (fun hly => ?_)
      exact wp_zret d_Rd_readAtom_53 rfl (by decide) h.1 h.2
  · replace h := h.2 hc
    refine wp_aload_n d_Rd_readAtom_13 (i := 0) rfl 1 rfl ?_
    refine wp_aload_n d_Rd_readAtom_14 (i := 0) rfl 1 rfl ?_
    refine wp_getI d_Rd_readAtom_15 fl_Rd_63 cl_4 rfl (ly_o hly (by decide)) ?_
    refine wp_callV (A := [vi (gI w 4 8)]) (S := []) d_Rd_readAtom_18 cv_Rd_readAtom_125 (ly_o hly (by decide)) rfl (Nat.le_of_ble_eq_true rfl) (by decide) (MetS.mono h (fun r w11 hh => ?_))
    obtain ⟨z12, er, h⟩ := hh
    subst er
    refine wp_ly (fun hly => ?_)
    exact wp_zret d_Rd_readAtom_21 rfl (by decide) h.1 h.2
set_option maxRecDepth 20000 in
set_option maxHeartbeats 2000000 in
theorem t_Rd_readAtom_76 {r1 : Nat} {x2 : Int} {x3 : Int} (hr1 : isLt r1) {w : Wo} {Q : Option AV → Wo → Prop} (h : ((4 ≤ x3 → MetI m_Rd_refuse [vr 4, vi (gI w 4 8)] w (fun z2 w1 => (z2 = 0 ∨ z2 = 1) ∧ Q (some (vi z2)) w1)) ∧ (¬ 4 ≤ x3 → ((¬ (gI w 4 7) = 17 → ((¬ (gI w 4 7) = 10 → MetI m_Rd_readTerm [vr 4, vr r1] w (fun z4 w3 => Wp m_Rd_readAtom 120 [(0, vr 4), (1, vr r1), (2, vi x2), (3, vi x3)] [vi z4] (0, 0) w3 Q)) ∧ ((gI w 4 7) = 10 → MetI m_Rd_readAnything [vr 4, vr r1] w (fun z6 w5 => Wp m_Rd_readAtom 120 [(0, vr 4), (1, vr r1), (2, vi x2), (3, vi x3)] [vi z6] (0, 0) w5 Q)))) ∧ ((gI w 4 7) = 17 → MetI m_Rd_readTotal [vr 4, vr r1] w (fun z8 w7 => Wp m_Rd_readAtom 120 [(0, vr 4), (1, vr r1), (2, vi x2), (3, vi x3)] [vi z8] (0, 0) w7 Q)))))) : Wp m_Rd_readAtom 76 [(0, vr 4), (1, vr r1), (2, vi x2), (3, vi x3)] [] (0, 0) w Q := by
  refine wp_ly (fun hly => ?_)
  refine wp_iload_n d_Rd_readAtom_76 (i := 3) rfl 3 rfl ?_
  refine wp_iconst d_Rd_readAtom_77 (by decide) ?_
  refine wp_icmp_ge (tgt := 186) d_Rd_readAtom_78 (by decide) (fun hc => ?_) (fun hc => ?_)
  · replace h := h.1 hc
    refine wp_aload_n d_Rd_readAtom_186 (i := 0) rfl 0 rfl ?_
    refine wp_aload_n d_Rd_readAtom_187 (i := 0) rfl 0 rfl ?_
    refine wp_getI d_Rd_readAtom_188 fl_Rd_63 cl_4 rfl (ly_o hly (by decide)) ?_
    refine wp_callV (A := [vi (gI w 4 8)]) (S := []) d_Rd_readAtom_191 cv_Rd_readAtom_125 (ly_o hly (by decide)) rfl (Nat.le_of_ble_eq_true rfl) (by decide) (MetS.mono h (fun r w1 hh => ?_))
    obtain ⟨z2, er, h⟩ := hh
    subst er
    refine wp_ly (fun hly => ?_)
    exact wp_zret d_Rd_readAtom_194 rfl (by decide) h.1 h.2
  · replace h := h.2 hc
    refine wp_aload_n d_Rd_readAtom_81 (i := 0) rfl 0 rfl ?_
    refine wp_getI d_Rd_readAtom_82 fl_Rd_60 cl_4 rfl (ly_o hly (by decide)) ?_
    refine wp_bipush d_Rd_readAtom_85 (by decide) (by decide) ?_
    refine wp_icmp_ne (tgt := 98) d_Rd_readAtom_87 (by decide) (fun hc => ?_) (fun hc => ?_)
    · replace h := h.1 hc
      refine wp_aload_n d_Rd_readAtom_98 (i := 0) rfl 0 rfl ?_
      refine wp_getI d_Rd_readAtom_99 fl_Rd_60 cl_4 rfl (ly_o hly (by decide)) ?_
      refine wp_bipush d_Rd_readAtom_102 (by decide) (by decide) ?_
      refine wp_icmp_ne (tgt := 115) d_Rd_readAtom_104 (by decide) (fun hc => ?_) (fun hc => ?_)
      · replace h := h.1 hc
        refine wp_aload_n d_Rd_readAtom_115 (i := 0) rfl 0 rfl ?_
        refine wp_aload_n d_Rd_readAtom_116 (i := 1) rfl 1 rfl ?_
        refine wp_callV (A := [vr r1]) (S := []) d_Rd_readAtom_117 cv_Rd_readAtom_179 (ly_o hly (by decide)) rfl (Nat.le_of_ble_eq_true rfl) (by decide) (MetS.mono h (fun r w3 hh => ?_))
        obtain ⟨z4, er, h⟩ := hh
        subst er
        refine wp_ly (fun hly => ?_)
        exact h
      · replace h := h.2 hc
        refine wp_aload_n d_Rd_readAtom_107 (i := 0) rfl 0 rfl ?_
        refine wp_aload_n d_Rd_readAtom_108 (i := 1) rfl 1 rfl ?_
        refine wp_callV (A := [vr r1]) (S := []) d_Rd_readAtom_109 cv_Rd_readAtom_197 (ly_o hly (by decide)) rfl (Nat.le_of_ble_eq_true rfl) (by decide) (MetS.mono h (fun r w5 hh => ?_))
        obtain ⟨z6, er, h⟩ := hh
        subst er
        refine wp_ly (fun hly => ?_)
        refine wp_goto (tgt := 120) d_Rd_readAtom_112 (by decide) ?_
        exact h
    · replace h := h.2 hc
      refine wp_aload_n d_Rd_readAtom_90 (i := 0) rfl 0 rfl ?_
      refine wp_aload_n d_Rd_readAtom_91 (i := 1) rfl 1 rfl ?_
      refine wp_callV (A := [vr r1]) (S := []) d_Rd_readAtom_92 cv_Rd_readAtom_194 (ly_o hly (by decide)) rfl (Nat.le_of_ble_eq_true rfl) (by decide) (MetS.mono h (fun r w7 hh => ?_))
      obtain ⟨z8, er, h⟩ := hh
      subst er
      refine wp_ly (fun hly => ?_)
      refine wp_goto (tgt := 120) d_Rd_readAtom_95 (by decide) ?_
      exact h
set_option maxRecDepth 20000 in
set_option maxHeartbeats 2000000 in
theorem t_Rd_readAtom_120 {r1 : Nat} {x2 : Int} {x3 : Int} {s0 : Int} (hr1 : isLt r1) {w : Wo} {Q : Option AV → Wo → Prop} (h : ((¬ s0 = 0 → ((¬ (gI w 4 7) = 6 → MetI m_Rd_take [vr 4, vi 7] w (fun z2 w1 => ((¬ z2 = 0 → inr32 (x3 + 1) ∧ Wp m_Rd_readAtom 76 [(0, vr 4), (1, vr r1), (2, vi x2), (3, vi (x3 + 1))] [] (0, 0) w1 Q) ∧ (z2 = 0 → Q (some (vi 0)) w1)))) ∧ ((gI w 4 7) = 6 → isBk (gP w 4 3) ∧ MetI m_Bk_agrees [vr (gP w 4 3), vi (gI w r1 2), vi (gI w r1 4)] w (fun z5 w4 => ((¬ z5 = 0 → MetI m_Rd_take [vr 4, vi 6] w4 (fun z7 w6 => (z7 = 0 ∨ z7 = 1) ∧ Q (some (vi z7)) w6)) ∧ (z5 = 0 → MetV m_Rd_note [vr 4, vi 2, vi x2] w4 (fun w8 => MetI m_Rd_take [vr 4, vi 6] w8 (fun z10 w9 => (z10 = 0 ∨ z10 = 1) ∧ Q (some (vi z10)) w9)))))))) ∧ (s0 = 0 → Q (some (vi 0)) w))) : Wp m_Rd_readAtom 120 [(0, vr 4), (1, vr r1), (2, vi x2), (3, vi x3)] [vi s0] (0, 0) w Q := by
  refine wp_ly (fun hly => ?_)
  refine wp_istore (L' := [(4, vi s0), (0, vr 4), (1, vr r1), (2, vi x2), (3, vi x3)]) d_Rd_readAtom_120 rfl (by decide) ?_
  refine wp_iload d_Rd_readAtom_122 0 rfl ?_
  refine wp_if_ne (tgt := 129) d_Rd_readAtom_124 (by decide) (fun hc => ?_) (fun hc => ?_)
  · replace h := h.1 hc
    refine wp_aload_n d_Rd_readAtom_129 (i := 0) rfl 1 rfl ?_
    refine wp_getI d_Rd_readAtom_130 fl_Rd_60 cl_4 rfl (ly_o hly (by decide)) ?_
    refine wp_bipush d_Rd_readAtom_133 (by decide) (by decide) ?_
    refine wp_icmp_ne (tgt := 169) d_Rd_readAtom_135 (by decide) (fun hc => ?_) (fun hc => ?_)
    · replace h := h.1 hc
      refine wp_aload_n d_Rd_readAtom_169 (i := 0) rfl 1 rfl ?_
      refine wp_bipush d_Rd_readAtom_170 (by decide) (by decide) ?_
      refine wp_callV (A := [vi 7]) (S := []) d_Rd_readAtom_172 cv_Rd_readAtom_139 (ly_o hly (by decide)) rfl (Nat.le_of_ble_eq_true rfl) (by decide) (MetS.mono h (fun r w1 hh => ?_))
      obtain ⟨z2, er, h⟩ := hh
      subst er
      refine wp_ly (fun hly => ?_)
      refine wp_if_ne (tgt := 180) d_Rd_readAtom_175 (by decide) (fun hc => ?_) (fun hc => ?_)
      · replace h := h.1 hc
        obtain ⟨ho, h⟩ := h
        refine wp_iinc (L' := [(3, vi (x3 + 1)), (4, vi s0), (0, vr 4), (1, vr r1), (2, vi x2)]) d_Rd_readAtom_180 4 rfl rfl (by decide) ho ?_
        refine wp_goto (tgt := 76) d_Rd_readAtom_183 (by decide) ?_
        exact wp_pick [2, 3, 4, 0] rfl h
      · replace h := h.2 hc
        refine wp_iconst d_Rd_readAtom_178 (by decide) ?_
        exact wp_zret d_Rd_readAtom_179 rfl (by decide) (by decide) h
    · replace h := h.2 hc
      refine wp_aload_n d_Rd_readAtom_138 (i := 0) rfl 1 rfl ?_
      obtain ⟨hb3, h⟩ := h
      refine wp_getP d_Rd_readAtom_139 fl_Rd_36 cl_4 rfl (ly_o hly (by decide)) rfl ?_
      refine wp_aload_n d_Rd_readAtom_142 (i := 1) rfl 2 rfl ?_
      refine wp_getI d_Rd_readAtom_143 fl_Rd_162 cl_3 rfl (ly_o hly (lt_o hr1)) ?_
      refine wp_aload_n d_Rd_readAtom_146 (i := 1) rfl 2 rfl ?_
      refine wp_getI d_Rd_readAtom_147 fl_Rd_200 cl_3 rfl (ly_o hly (lt_o hr1)) ?_
      refine wp_callV (A := [vi (gI w r1 2), vi (gI w r1 4)]) (S := []) d_Rd_readAtom_150 cv_Rd_readAtom_201 (ly_o hly (bk_o hb3)) rfl (Nat.le_of_ble_eq_true rfl) (by decide) (MetS.mono h (fun r w4 hh => ?_))
      obtain ⟨z5, er, h⟩ := hh
      subst er
      refine wp_ly (fun hly => ?_)
      refine wp_if_ne (tgt := 162) d_Rd_readAtom_153 (by decide) (fun hc => ?_) (fun hc => ?_)
      · replace h := h.1 hc
        refine wp_aload_n d_Rd_readAtom_162 (i := 0) rfl 1 rfl ?_
        refine wp_bipush d_Rd_readAtom_163 (by decide) (by decide) ?_
        refine wp_callV (A := [vi 6]) (S := []) d_Rd_readAtom_165 cv_Rd_readAtom_139 (ly_o hly (by decide)) rfl (Nat.le_of_ble_eq_true rfl) (by decide) (MetS.mono h (fun r w6 hh => ?_))
        obtain ⟨z7, er, h⟩ := hh
        subst er
        refine wp_ly (fun hly => ?_)
        exact wp_zret d_Rd_readAtom_168 rfl (by decide) h.1 h.2
      · replace h := h.2 hc
        refine wp_aload_n d_Rd_readAtom_156 (i := 0) rfl 1 rfl ?_
        refine wp_iconst d_Rd_readAtom_157 (by decide) ?_
        refine wp_iload_n d_Rd_readAtom_158 (i := 2) rfl 3 rfl ?_
        refine wp_callV (A := [vi 2, vi x2]) (S := []) d_Rd_readAtom_159 cv_Rd_readAtom_100 (ly_o hly (by decide)) rfl (Nat.le_of_ble_eq_true rfl) (by decide) (MetS.mono h (fun r w8 hh => ?_))
        obtain ⟨er, h⟩ := hh
        subst er
        refine wp_ly (fun hly => ?_)
        refine wp_aload_n d_Rd_readAtom_162 (i := 0) rfl 1 rfl ?_
        refine wp_bipush d_Rd_readAtom_163 (by decide) (by decide) ?_
        refine wp_callV (A := [vi 6]) (S := []) d_Rd_readAtom_165 cv_Rd_readAtom_139 (ly_o hly (by decide)) rfl (Nat.le_of_ble_eq_true rfl) (by decide) (MetS.mono h (fun r w9 hh => ?_))
        obtain ⟨z10, er, h⟩ := hh
        subst er
        refine wp_ly (fun hly => ?_)
        exact wp_zret d_Rd_readAtom_168 rfl (by decide) h.1 h.2
  · replace h := h.2 hc
    refine wp_iconst d_Rd_readAtom_127 (by decide) ?_
    exact wp_zret d_Rd_readAtom_128 rfl (by decide) (by decide) h
set_option maxRecDepth 20000 in
set_option maxHeartbeats 2000000 in
theorem t_Rd_readTotal_0 {r1 : Nat} (hr1 : isLt r1) {w : Wo} {Q : Option AV → Wo → Prop} (h : ((¬ (gI w r1 0) = 4 → MetI m_Rd_refuse [vr 4, vi (gI w 4 8)] w (fun z2 w1 => (z2 = 0 ∨ z2 = 1) ∧ Q (some (vi z2)) w1)) ∧ ((gI w r1 0) = 4 → (((gI w 9 4) ≤ 0 → (∀ w3 : Wo, w3 = uI w 9 4 (b_l2i (gJ w 4 9)) → (∀ w5 : Wo, w5 = uI w3 9 5 (gI w3 4 8) → inr32 ((gI w5 4 6) + 1) ∧ MetV m_Rd_moveTo [vr 4, vi ((gI w5 4 6) + 1)] w5 (fun w7 => MetI m_Rd_take [vr 4, vi 5] w7 (fun z9 w8 => ((¬ z9 = 0 → (((gI w8 4 7) = 3 → MetI m_Rd_readTerm [vr 4, vr r1] w8 (fun z11 w10 => ((z11 = 0 → Q (some (vi 0)) w10) ∧ (¬ z11 = 0 → MetI m_Rd_take [vr 4, vi 6] w10 (fun z13 w12 => ((z13 = 0 → Q (some (vi 0)) w12) ∧ (¬ z13 = 0 → Q (some (vi 1)) w12))))))) ∧ (¬ (gI w8 4 7) = 3 → MetI m_Rd_refuse [vr 4, vi (gI w8 4 8)] w8 (fun z15 w14 => (z15 = 0 ∨ z15 = 1) ∧ Q (some (vi z15)) w14)))) ∧ (z9 = 0 → Q (some (vi 0)) w8))))))) ∧ (¬ (gI w 9 4) ≤ 0 → MetI m_Rd_refuse [vr 4, vi (gI w 4 8)] w (fun z17 w16 => (z17 = 0 ∨ z17 = 1) ∧ Q (some (vi z17)) w16)))))) : Wp m_Rd_readTotal 0 [(0, vr 4), (1, vr r1)] [] (0, 0) w Q := by
  refine wp_ly (fun hly => ?_)
  refine wp_aload_n d_Rd_readTotal_0 (i := 1) rfl 1 rfl ?_
  refine wp_getI d_Rd_readTotal_1 fl_Rd_182 cl_3 rfl (ly_o hly (lt_o hr1)) ?_
  refine wp_iconst d_Rd_readTotal_4 (by decide) ?_
  refine wp_icmp_ne (tgt := 18) d_Rd_readTotal_5 (by decide) (fun hc => ?_) (fun hc => ?_)
  · replace h := h.1 hc
    refine wp_aload_n d_Rd_readTotal_18 (i := 0) rfl 0 rfl ?_
    refine wp_aload_n d_Rd_readTotal_19 (i := 0) rfl 0 rfl ?_
    refine wp_getI d_Rd_readTotal_20 fl_Rd_63 cl_4 rfl (ly_o hly (by decide)) ?_
    refine wp_callV (A := [vi (gI w 4 8)]) (S := []) d_Rd_readTotal_23 cv_Rd_readTotal_125 (ly_o hly (by decide)) rfl (Nat.le_of_ble_eq_true rfl) (by decide) (MetS.mono h (fun r w1 hh => ?_))
    obtain ⟨z2, er, h⟩ := hh
    subst er
    refine wp_ly (fun hly => ?_)
    exact wp_zret d_Rd_readTotal_26 rfl (by decide) h.1 h.2
  · replace h := h.2 hc
    refine wp_aload_n d_Rd_readTotal_8 (i := 0) rfl 0 rfl ?_
    refine wp_getP d_Rd_readTotal_9 fl_Rd_21 cl_4 rfl (ly_o hly (by decide)) (ly_r (v := 9) hly (by decide +kernel)) ?_
    refine wp_getI d_Rd_readTotal_12 fl_Rd_205 cl_1 rfl (ly_o hly (by decide)) ?_
    refine wp_if_le (tgt := 27) d_Rd_readTotal_15 (by decide) (fun hc => ?_) (fun hc => ?_)
    · replace h := h.1 hc
      refine wp_aload_n d_Rd_readTotal_27 (i := 0) rfl 0 rfl ?_
      refine wp_getP d_Rd_readTotal_28 fl_Rd_21 cl_4 rfl (ly_o hly (by decide)) (ly_r (v := 9) hly (by decide +kernel)) ?_
      refine wp_aload_n d_Rd_readTotal_31 (i := 0) rfl 0 rfl ?_
      refine wp_getJ d_Rd_readTotal_32 fl_Rd_121 cl_4 rfl (ly_o hly (by decide)) ?_
      refine wp_l2i d_Rd_readTotal_35 ?_
      refine wp_putI d_Rd_readTotal_36 fl_Rd_205 cl_1 ⟨rfl, rfl⟩ (ly_o hly (by decide)) (fun w3 e4 => ?_)
      replace h := h w3 e4
      refine wp_ly (fun hly => ?_)
      refine wp_aload_n d_Rd_readTotal_39 (i := 0) rfl 0 rfl ?_
      refine wp_getP d_Rd_readTotal_40 fl_Rd_21 cl_4 rfl (ly_o hly (by decide)) (ly_r (v := 9) hly (by decide +kernel)) ?_
      refine wp_aload_n d_Rd_readTotal_43 (i := 0) rfl 0 rfl ?_
      refine wp_getI d_Rd_readTotal_44 fl_Rd_63 cl_4 rfl (ly_o hly (by decide)) ?_
      refine wp_putI d_Rd_readTotal_47 fl_Rd_208 cl_1 ⟨rfl, rfl⟩ (ly_o hly (by decide)) (fun w5 e6 => ?_)
      replace h := h w5 e6
      refine wp_ly (fun hly => ?_)
      refine wp_aload_n d_Rd_readTotal_50 (i := 0) rfl 0 rfl ?_
      refine wp_aload_n d_Rd_readTotal_51 (i := 0) rfl 0 rfl ?_
      refine wp_getI d_Rd_readTotal_52 fl_Rd_107 cl_4 rfl (ly_o hly (by decide)) ?_
      refine wp_iconst d_Rd_readTotal_55 (by decide) ?_
      obtain ⟨ho, h⟩ := h
      refine wp_iadd d_Rd_readTotal_56 ho ?_
      refine wp_callV (A := [vi ((gI w5 4 6) + 1)]) (S := []) d_Rd_readTotal_57 cv_Rd_readTotal_55 (ly_o hly (by decide)) rfl (Nat.le_of_ble_eq_true rfl) (by decide) (MetS.mono h (fun r w7 hh => ?_))
      obtain ⟨er, h⟩ := hh
      subst er
      refine wp_ly (fun hly => ?_)
      refine wp_aload_n d_Rd_readTotal_60 (i := 0) rfl 0 rfl ?_
      refine wp_iconst d_Rd_readTotal_61 (by decide) ?_
      refine wp_callV (A := [vi 5]) (S := []) d_Rd_readTotal_62 cv_Rd_readTotal_139 (ly_o hly (by decide)) rfl (Nat.le_of_ble_eq_true rfl) (by decide) (MetS.mono h (fun r w8 hh => ?_))
      obtain ⟨z9, er, h⟩ := hh
      subst er
      refine wp_ly (fun hly => ?_)
      refine wp_if_ne (tgt := 70) d_Rd_readTotal_65 (by decide) (fun hc => ?_) (fun hc => ?_)
      · replace h := h.1 hc
        refine wp_aload_n d_Rd_readTotal_70 (i := 0) rfl 0 rfl ?_
        refine wp_getI d_Rd_readTotal_71 fl_Rd_60 cl_4 rfl (ly_o hly (by decide)) ?_
        refine wp_iconst d_Rd_readTotal_74 (by decide) ?_
        refine wp_icmp_eq (tgt := 87) d_Rd_readTotal_75 (by decide) (fun hc => ?_) (fun hc => ?_)
        · replace h := h.1 hc
          refine wp_aload_n d_Rd_readTotal_87 (i := 0) rfl 0 rfl ?_
          refine wp_aload_n d_Rd_readTotal_88 (i := 1) rfl 1 rfl ?_
          refine wp_callV (A := [vr r1]) (S := []) d_Rd_readTotal_89 cv_Rd_readTotal_179 (ly_o hly (by decide)) rfl (Nat.le_of_ble_eq_true rfl) (by decide) (MetS.mono h (fun r w10 hh => ?_))
          obtain ⟨z11, er, h⟩ := hh
          subst er
          refine wp_ly (fun hly => ?_)
          refine wp_if_eq (tgt := 108) d_Rd_readTotal_92 (by decide) (fun hc => ?_) (fun hc => ?_)
          · replace h := h.1 hc
            refine wp_iconst d_Rd_readTotal_108 (by decide) ?_
            exact wp_zret d_Rd_readTotal_109 rfl (by decide) (by decide) h
          · replace h := h.2 hc
            refine wp_aload_n d_Rd_readTotal_95 (i := 0) rfl 0 rfl ?_
            refine wp_bipush d_Rd_readTotal_96 (by decide) (by decide) ?_
            refine wp_callV (A := [vi 6]) (S := []) d_Rd_readTotal_98 cv_Rd_readTotal_139 (ly_o hly (by decide)) rfl (Nat.le_of_ble_eq_true rfl) (by decide) (MetS.mono h (fun r w12 hh => ?_))
            obtain ⟨z13, er, h⟩ := hh
            subst er
            refine wp_ly (fun hly => ?_)
            refine wp_if_eq (tgt := 108) d_Rd_readTotal_101 (by decide) (fun hc => ?_) (fun hc => ?_)
            · replace h := h.1 hc
              refine wp_iconst d_Rd_readTotal_108 (by decide) ?_
              exact wp_zret d_Rd_readTotal_109 rfl (by decide) (by decide) h
            · replace h := h.2 hc
              refine wp_iconst d_Rd_readTotal_104 (by decide) ?_
              refine wp_goto (tgt := 109) d_Rd_readTotal_105 (by decide) ?_
              exact wp_zret d_Rd_readTotal_109 rfl (by decide) (by decide) h
        · replace h := h.2 hc
          refine wp_aload_n d_Rd_readTotal_78 (i := 0) rfl 0 rfl ?_
          refine wp_aload_n d_Rd_readTotal_79 (i := 0) rfl 0 rfl ?_
          refine wp_getI d_Rd_readTotal_80 fl_Rd_63 cl_4 rfl (ly_o hly (by decide)) ?_
          refine wp_callV (A := [vi (gI w8 4 8)]) (S := []) d_Rd_readTotal_83 cv_Rd_readTotal_125 (ly_o hly (by decide)) rfl (Nat.le_of_ble_eq_true rfl) (by decide) (MetS.mono h (fun r w14 hh => ?_))
          obtain ⟨z15, er, h⟩ := hh
          subst er
          refine wp_ly (fun hly => ?_)
          exact wp_zret d_Rd_readTotal_86 rfl (by decide) h.1 h.2
      · replace h := h.2 hc
        refine wp_iconst d_Rd_readTotal_68 (by decide) ?_
        exact wp_zret d_Rd_readTotal_69 rfl (by decide) (by decide) h
    · replace h := h.2 hc
      refine wp_aload_n d_Rd_readTotal_18 (i := 0) rfl 0 rfl ?_
      refine wp_aload_n d_Rd_readTotal_19 (i := 0) rfl 0 rfl ?_
      refine wp_getI d_Rd_readTotal_20 fl_Rd_63 cl_4 rfl (ly_o hly (by decide)) ?_
      refine wp_callV (A := [vi (gI w 4 8)]) (S := []) d_Rd_readTotal_23 cv_Rd_readTotal_125 (ly_o hly (by decide)) rfl (Nat.le_of_ble_eq_true rfl) (by decide) (MetS.mono h (fun r w16 hh => ?_))
      obtain ⟨z17, er, h⟩ := hh
      subst er
      refine wp_ly (fun hly => ?_)
      exact wp_zret d_Rd_readTotal_26 rfl (by decide) h.1 h.2
set_option maxRecDepth 20000 in
set_option maxHeartbeats 2000000 in
theorem t_Rd_readAnything_0 {r1 : Nat} (hr1 : isLt r1) {w : Wo} {Q : Option AV → Wo → Prop} (h : ((¬ (gI w r1 0) = 0 → Wp m_Rd_readAnything 21 [(0, vr 4), (1, vr r1)] [] (0, 0) w Q) ∧ ((gI w r1 0) = 0 → (((gI w 9 4) ≤ 0 → Wp m_Rd_readAnything 21 [(0, vr 4), (1, vr r1)] [] (0, 0) w Q) ∧ (¬ (gI w 9 4) ≤ 0 → Wp m_Rd_readAnything 22 [(0, vr 4), (1, vr r1)] [vi 1] (0, 0) w Q))))) : Wp m_Rd_readAnything 0 [(0, vr 4), (1, vr r1)] [] (0, 0) w Q := by
  refine wp_ly (fun hly => ?_)
  refine wp_aload_n d_Rd_readAnything_0 (i := 1) rfl 1 rfl ?_
  refine wp_getI d_Rd_readAnything_1 fl_Rd_182 cl_3 rfl (ly_o hly (lt_o hr1)) ?_
  refine wp_if_ne (tgt := 21) d_Rd_readAnything_4 (by decide) (fun hc => ?_) (fun hc => ?_)
  · replace h := h.1 hc
    exact h
  · replace h := h.2 hc
    refine wp_aload_n d_Rd_readAnything_7 (i := 0) rfl 0 rfl ?_
    refine wp_getP d_Rd_readAnything_8 fl_Rd_21 cl_4 rfl (ly_o hly (by decide)) (ly_r (v := 9) hly (by decide +kernel)) ?_
    refine wp_getI d_Rd_readAnything_11 fl_Rd_205 cl_1 rfl (ly_o hly (by decide)) ?_
    refine wp_if_le (tgt := 21) d_Rd_readAnything_14 (by decide) (fun hc => ?_) (fun hc => ?_)
    · replace h := h.1 hc
      exact h
    · replace h := h.2 hc
      refine wp_iconst d_Rd_readAnything_17 (by decide) ?_
      refine wp_goto (tgt := 22) d_Rd_readAnything_18 (by decide) ?_
      exact h
set_option maxRecDepth 20000 in
set_option maxHeartbeats 2000000 in
theorem t_Rd_readAnything_21 {r1 : Nat} (hr1 : isLt r1) {w : Wo} {Q : Option AV → Wo → Prop} (h : Wp m_Rd_readAnything 22 [(0, vr 4), (1, vr r1)] [vi 0] (0, 0) w Q) : Wp m_Rd_readAnything 21 [(0, vr 4), (1, vr r1)] [] (0, 0) w Q := by
  refine wp_ly (fun hly => ?_)
  refine wp_iconst d_Rd_readAnything_21 (by decide) ?_
  exact h
set_option maxRecDepth 20000 in
set_option maxHeartbeats 2000000 in
theorem t_Rd_readAnything_22 {r1 : Nat} {s0 : Int} (hr1 : isLt r1) {w : Wo} {Q : Option AV → Wo → Prop} (h : (((gI w r1 0) = 4 → MetI m_Rd_refuse [vr 4, vi (gI w 4 8)] w (fun z2 w1 => (z2 = 0 ∨ z2 = 1) ∧ Q (some (vi z2)) w1)) ∧ (¬ (gI w r1 0) = 4 → ((s0 = 0 → MetV m_Lt_add [vr r1, vl 4503599627370496] w (fun w3 => inr32 ((gI w3 4 6) + 1) ∧ MetV m_Rd_moveTo [vr 4, vi ((gI w3 4 6) + 1)] w3 (fun w4 => Q (some (vi 1)) w4))) ∧ (¬ s0 = 0 → MetI m_Rd_refuse [vr 4, vi (gI w 4 8)] w (fun z6 w5 => (z6 = 0 ∨ z6 = 1) ∧ Q (some (vi z6)) w5)))))) : Wp m_Rd_readAnything 22 [(0, vr 4), (1, vr r1)] [vi s0] (0, 0) w Q := by
  refine wp_ly (fun hly => ?_)
  refine wp_istore_n (L' := [(2, vi s0), (0, vr 4), (1, vr r1)]) d_Rd_readAnything_22 (i := 2) rfl rfl (by decide) ?_
  refine wp_aload_n d_Rd_readAnything_23 (i := 1) rfl 2 rfl ?_
  refine wp_getI d_Rd_readAnything_24 fl_Rd_182 cl_3 rfl (ly_o hly (lt_o hr1)) ?_
  refine wp_iconst d_Rd_readAnything_27 (by decide) ?_
  refine wp_icmp_eq (tgt := 35) d_Rd_readAnything_28 (by decide) (fun hc => ?_) (fun hc => ?_)
  · replace h := h.1 hc
    refine wp_aload_n d_Rd_readAnything_35 (i := 0) rfl 1 rfl ?_
    refine wp_aload_n d_Rd_readAnything_36 (i := 0) rfl 1 rfl ?_
    refine wp_getI d_Rd_readAnything_37 fl_Rd_63 cl_4 rfl (ly_o hly (by decide)) ?_
    refine wp_callV (A := [vi (gI w 4 8)]) (S := []) d_Rd_readAnything_40 cv_Rd_readAnything_125 (ly_o hly (by decide)) rfl (Nat.le_of_ble_eq_true rfl) (by decide) (MetS.mono h (fun r w1 hh => ?_))
    obtain ⟨z2, er, h⟩ := hh
    subst er
    refine wp_ly (fun hly => ?_)
    exact wp_zret d_Rd_readAnything_43 rfl (by decide) h.1 h.2
  · replace h := h.2 hc
    refine wp_iload_n d_Rd_readAnything_31 (i := 2) rfl 0 rfl ?_
    refine wp_if_eq (tgt := 44) d_Rd_readAnything_32 (by decide) (fun hc => ?_) (fun hc => ?_)
    · replace h := h.1 hc
      refine wp_aload_n d_Rd_readAnything_44 (i := 1) rfl 2 rfl ?_
      refine wp_ldc2 d_Rd_readAnything_45 (x := 4503599627370496) lc_Rd_211 (by decide) ?_
      refine wp_callV (A := [vl 4503599627370496]) (S := []) d_Rd_readAnything_48 cv_Rd_readAnything_213 (ly_o hly (lt_o hr1)) rfl (Nat.le_of_ble_eq_true rfl) (by decide) (MetS.mono h (fun r w3 hh => ?_))
      obtain ⟨er, h⟩ := hh
      subst er
      refine wp_ly (fun hly => ?_)
      refine wp_aload_n d_Rd_readAnything_51 (i := 0) rfl 1 rfl ?_
      refine wp_aload_n d_Rd_readAnything_52 (i := 0) rfl 1 rfl ?_
      refine wp_getI d_Rd_readAnything_53 fl_Rd_107 cl_4 rfl (ly_o hly (by decide)) ?_
      refine wp_iconst d_Rd_readAnything_56 (by decide) ?_
      obtain ⟨ho, h⟩ := h
      refine wp_iadd d_Rd_readAnything_57 ho ?_
      refine wp_callV (A := [vi ((gI w3 4 6) + 1)]) (S := []) d_Rd_readAnything_58 cv_Rd_readAnything_55 (ly_o hly (by decide)) rfl (Nat.le_of_ble_eq_true rfl) (by decide) (MetS.mono h (fun r w4 hh => ?_))
      obtain ⟨er, h⟩ := hh
      subst er
      refine wp_ly (fun hly => ?_)
      refine wp_iconst d_Rd_readAnything_61 (by decide) ?_
      exact wp_zret d_Rd_readAnything_62 rfl (by decide) (by decide) h
    · replace h := h.2 hc
      refine wp_aload_n d_Rd_readAnything_35 (i := 0) rfl 1 rfl ?_
      refine wp_aload_n d_Rd_readAnything_36 (i := 0) rfl 1 rfl ?_
      refine wp_getI d_Rd_readAnything_37 fl_Rd_63 cl_4 rfl (ly_o hly (by decide)) ?_
      refine wp_callV (A := [vi (gI w 4 8)]) (S := []) d_Rd_readAnything_40 cv_Rd_readAnything_125 (ly_o hly (by decide)) rfl (Nat.le_of_ble_eq_true rfl) (by decide) (MetS.mono h (fun r w5 hh => ?_))
      obtain ⟨z6, er, h⟩ := hh
      subst er
      refine wp_ly (fun hly => ?_)
      exact wp_zret d_Rd_readAnything_43 rfl (by decide) h.1 h.2
set_option maxRecDepth 20000 in
set_option maxHeartbeats 2000000 in
theorem t_Rd_readTerm_0 {r1 : Nat} (hr1 : isLt r1) {w : Wo} {Q : Option AV → Wo → Prop} (h : ((¬ (gI w 4 7) = 14 → Wp m_Rd_readTerm 14 [(0, vr 4), (1, vr r1)] [vi 0] (0, 0) w Q) ∧ ((gI w 4 7) = 14 → Wp m_Rd_readTerm 14 [(0, vr 4), (1, vr r1)] [vi 1] (0, 0) w Q))) : Wp m_Rd_readTerm 0 [(0, vr 4), (1, vr r1)] [] (0, 0) w Q := by
  refine wp_ly (fun hly => ?_)
  refine wp_aload_n d_Rd_readTerm_0 (i := 0) rfl 0 rfl ?_
  refine wp_getI d_Rd_readTerm_1 fl_Rd_60 cl_4 rfl (ly_o hly (by decide)) ?_
  refine wp_bipush d_Rd_readTerm_4 (by decide) (by decide) ?_
  refine wp_icmp_ne (tgt := 13) d_Rd_readTerm_6 (by decide) (fun hc => ?_) (fun hc => ?_)
  · replace h := h.1 hc
    refine wp_iconst d_Rd_readTerm_13 (by decide) ?_
    exact h
  · replace h := h.2 hc
    refine wp_iconst d_Rd_readTerm_9 (by decide) ?_
    refine wp_goto (tgt := 14) d_Rd_readTerm_10 (by decide) ?_
    exact h
set_option maxRecDepth 20000 in
set_option maxHeartbeats 2000000 in
theorem t_Rd_readTerm_14 {r1 : Nat} {s0 : Int} (hr1 : isLt r1) {w : Wo} {Q : Option AV → Wo → Prop} (h : ((s0 = 0 → Wp m_Rd_readTerm 29 [(0, vr 4), (1, vr r1), (2, vi s0)] [] (0, 0) w Q) ∧ (¬ s0 = 0 → inr32 ((gI w 4 6) + 1) ∧ MetV m_Rd_moveTo [vr 4, vi ((gI w 4 6) + 1)] w (fun w1 => Wp m_Rd_readTerm 29 [(0, vr 4), (1, vr r1), (2, vi s0)] [] (0, 0) w1 Q)))) : Wp m_Rd_readTerm 14 [(0, vr 4), (1, vr r1)] [vi s0] (0, 0) w Q := by
  refine wp_ly (fun hly => ?_)
  refine wp_istore_n (L' := [(2, vi s0), (0, vr 4), (1, vr r1)]) d_Rd_readTerm_14 (i := 2) rfl rfl (by decide) ?_
  refine wp_iload_n d_Rd_readTerm_15 (i := 2) rfl 0 rfl ?_
  refine wp_if_eq (tgt := 29) d_Rd_readTerm_16 (by decide) (fun hc => ?_) (fun hc => ?_)
  · replace h := h.1 hc
    exact wp_pick [1, 2, 0] rfl h
  · replace h := h.2 hc
    refine wp_aload_n d_Rd_readTerm_19 (i := 0) rfl 1 rfl ?_
    refine wp_aload_n d_Rd_readTerm_20 (i := 0) rfl 1 rfl ?_
    refine wp_getI d_Rd_readTerm_21 fl_Rd_107 cl_4 rfl (ly_o hly (by decide)) ?_
    refine wp_iconst d_Rd_readTerm_24 (by decide) ?_
    obtain ⟨ho, h⟩ := h
    refine wp_iadd d_Rd_readTerm_25 ho ?_
    refine wp_callV (A := [vi ((gI w 4 6) + 1)]) (S := []) d_Rd_readTerm_26 cv_Rd_readTerm_55 (ly_o hly (by decide)) rfl (Nat.le_of_ble_eq_true rfl) (by decide) (MetS.mono h (fun r w1 hh => ?_))
    obtain ⟨er, h⟩ := hh
    subst er
    refine wp_ly (fun hly => ?_)
    exact wp_pick [1, 2, 0] rfl h
set_option maxRecDepth 20000 in
set_option maxHeartbeats 2000000 in
theorem t_Rd_readTerm_29 {r1 : Nat} {x2 : Int} (hr1 : isLt r1) {w : Wo} {Q : Option AV → Wo → Prop} (h : ((¬ (gI w 4 7) = 4 → ((¬ (gI w 4 7) = 2 → Wp m_Rd_readTerm 87 [(0, vr 4), (1, vr r1), (2, vi x2)] [] (0, 0) w Q) ∧ ((gI w 4 7) = 2 → ((¬ x2 = 0 → Wp m_Rd_readTerm 87 [(0, vr 4), (1, vr r1), (2, vi x2)] [] (0, 0) w Q) ∧ (x2 = 0 → inr64 (17592186044416 + (gJ w 4 9)) ∧ MetV m_Lt_add [vr r1, vl (17592186044416 + (gJ w 4 9))] w (fun w1 => inr32 ((gI w1 4 6) + 1) ∧ MetV m_Rd_moveTo [vr 4, vi ((gI w1 4 6) + 1)] w1 (fun w2 => Q (some (vi 1)) w2))))))) ∧ ((gI w 4 7) = 4 → ((x2 = 0 → MetV m_Lt_add [vr r1, vl (gJ w 4 9)] w (fun w3 => inr32 ((gI w3 4 6) + 1) ∧ MetV m_Rd_moveTo [vr 4, vi ((gI w3 4 6) + 1)] w3 (fun w4 => Q (some (vi 1)) w4))) ∧ (¬ x2 = 0 → inr64 (-(gJ w 4 9)) ∧ MetV m_Lt_add [vr r1, vl (-(gJ w 4 9))] w (fun w5 => inr32 ((gI w5 4 6) + 1) ∧ MetV m_Rd_moveTo [vr 4, vi ((gI w5 4 6) + 1)] w5 (fun w6 => Q (some (vi 1)) w6))))))) : Wp m_Rd_readTerm 29 [(0, vr 4), (1, vr r1), (2, vi x2)] [] (0, 0) w Q := by
  refine wp_ly (fun hly => ?_)
  refine wp_aload_n d_Rd_readTerm_29 (i := 0) rfl 0 rfl ?_
  refine wp_getI d_Rd_readTerm_30 fl_Rd_60 cl_4 rfl (ly_o hly (by decide)) ?_
  refine wp_iconst d_Rd_readTerm_33 (by decide) ?_
  refine wp_icmp_ne (tgt := 60) d_Rd_readTerm_34 (by decide) (fun hc => ?_) (fun hc => ?_)
  · replace h := h.1 hc
    refine wp_aload_n d_Rd_readTerm_60 (i := 0) rfl 0 rfl ?_
    refine wp_getI d_Rd_readTerm_61 fl_Rd_60 cl_4 rfl (ly_o hly (by decide)) ?_
    refine wp_iconst d_Rd_readTerm_64 (by decide) ?_
    refine wp_icmp_ne (tgt := 87) d_Rd_readTerm_65 (by decide) (fun hc => ?_) (fun hc => ?_)
    · replace h := h.1 hc
      exact h
    · replace h := h.2 hc
      refine wp_iload_n d_Rd_readTerm_68 (i := 2) rfl 2 rfl ?_
      refine wp_if_ne (tgt := 87) d_Rd_readTerm_69 (by decide) (fun hc => ?_) (fun hc => ?_)
      · replace h := h.1 hc
        exact h
      · replace h := h.2 hc
        refine wp_aload_n d_Rd_readTerm_72 (i := 1) rfl 1 rfl ?_
        refine wp_ldc2 d_Rd_readTerm_73 (x := 17592186044416) lc_Rd_216 (by decide) ?_
        refine wp_aload_n d_Rd_readTerm_76 (i := 0) rfl 0 rfl ?_
        refine wp_getJ d_Rd_readTerm_77 fl_Rd_121 cl_4 rfl (ly_o hly (by decide)) ?_
        obtain ⟨ho, h⟩ := h
        refine wp_ladd d_Rd_readTerm_80 ho ?_
        refine wp_callV (A := [vl (17592186044416 + (gJ w 4 9))]) (S := []) d_Rd_readTerm_81 cv_Rd_readTerm_213 (ly_o hly (lt_o hr1)) rfl (Nat.le_of_ble_eq_true rfl) (by decide) (MetS.mono h (fun r w1 hh => ?_))
        obtain ⟨er, h⟩ := hh
        subst er
        refine wp_ly (fun hly => ?_)
        refine wp_goto (tgt := 151) d_Rd_readTerm_84 (by decide) ?_
        refine wp_aload_n d_Rd_readTerm_151 (i := 0) rfl 0 rfl ?_
        refine wp_aload_n d_Rd_readTerm_152 (i := 0) rfl 0 rfl ?_
        refine wp_getI d_Rd_readTerm_153 fl_Rd_107 cl_4 rfl (ly_o hly (by decide)) ?_
        refine wp_iconst d_Rd_readTerm_156 (by decide) ?_
        obtain ⟨ho, h⟩ := h
        refine wp_iadd d_Rd_readTerm_157 ho ?_
        refine wp_callV (A := [vi ((gI w1 4 6) + 1)]) (S := []) d_Rd_readTerm_158 cv_Rd_readTerm_55 (ly_o hly (by decide)) rfl (Nat.le_of_ble_eq_true rfl) (by decide) (MetS.mono h (fun r w2 hh => ?_))
        obtain ⟨er, h⟩ := hh
        subst er
        refine wp_ly (fun hly => ?_)
        refine wp_iconst d_Rd_readTerm_161 (by decide) ?_
        exact wp_zret d_Rd_readTerm_162 rfl (by decide) (by decide) h
  · replace h := h.2 hc
    refine wp_aload_n d_Rd_readTerm_37 (i := 1) rfl 1 rfl ?_
    refine wp_iload_n d_Rd_readTerm_38 (i := 2) rfl 2 rfl ?_
    refine wp_if_eq (tgt := 50) d_Rd_readTerm_39 (by decide) (fun hc => ?_) (fun hc => ?_)
    · replace h := h.1 hc
      refine wp_aload_n d_Rd_readTerm_50 (i := 0) rfl 0 rfl ?_
      refine wp_getJ d_Rd_readTerm_51 fl_Rd_121 cl_4 rfl (ly_o hly (by decide)) ?_
      refine wp_callV (A := [vl (gJ w 4 9)]) (S := []) d_Rd_readTerm_54 cv_Rd_readTerm_213 (ly_o hly (lt_o hr1)) rfl (Nat.le_of_ble_eq_true rfl) (by decide) (MetS.mono h (fun r w3 hh => ?_))
      obtain ⟨er, h⟩ := hh
      subst er
      refine wp_ly (fun hly => ?_)
      refine wp_goto (tgt := 151) d_Rd_readTerm_57 (by decide) ?_
      refine wp_aload_n d_Rd_readTerm_151 (i := 0) rfl 0 rfl ?_
      refine wp_aload_n d_Rd_readTerm_152 (i := 0) rfl 0 rfl ?_
      refine wp_getI d_Rd_readTerm_153 fl_Rd_107 cl_4 rfl (ly_o hly (by decide)) ?_
      refine wp_iconst d_Rd_readTerm_156 (by decide) ?_
      obtain ⟨ho, h⟩ := h
      refine wp_iadd d_Rd_readTerm_157 ho ?_
      refine wp_callV (A := [vi ((gI w3 4 6) + 1)]) (S := []) d_Rd_readTerm_158 cv_Rd_readTerm_55 (ly_o hly (by decide)) rfl (Nat.le_of_ble_eq_true rfl) (by decide) (MetS.mono h (fun r w4 hh => ?_))
      obtain ⟨er, h⟩ := hh
      subst er
      refine wp_ly (fun hly => ?_)
      refine wp_iconst d_Rd_readTerm_161 (by decide) ?_
      exact wp_zret d_Rd_readTerm_162 rfl (by decide) (by decide) h
    · replace h := h.2 hc
      refine wp_aload_n d_Rd_readTerm_42 (i := 0) rfl 0 rfl ?_
      refine wp_getJ d_Rd_readTerm_43 fl_Rd_121 cl_4 rfl (ly_o hly (by decide)) ?_
      obtain ⟨ho, h⟩ := h
      refine wp_lneg d_Rd_readTerm_46 ho ?_
      refine wp_goto (tgt := 54) d_Rd_readTerm_47 (by decide) ?_
      refine wp_callV (A := [vl (-(gJ w 4 9))]) (S := []) d_Rd_readTerm_54 cv_Rd_readTerm_213 (ly_o hly (lt_o hr1)) rfl (Nat.le_of_ble_eq_true rfl) (by decide) (MetS.mono h (fun r w5 hh => ?_))
      obtain ⟨er, h⟩ := hh
      subst er
      refine wp_ly (fun hly => ?_)
      refine wp_goto (tgt := 151) d_Rd_readTerm_57 (by decide) ?_
      refine wp_aload_n d_Rd_readTerm_151 (i := 0) rfl 0 rfl ?_
      refine wp_aload_n d_Rd_readTerm_152 (i := 0) rfl 0 rfl ?_
      refine wp_getI d_Rd_readTerm_153 fl_Rd_107 cl_4 rfl (ly_o hly (by decide)) ?_
      refine wp_iconst d_Rd_readTerm_156 (by decide) ?_
      obtain ⟨ho, h⟩ := h
      refine wp_iadd d_Rd_readTerm_157 ho ?_
      refine wp_callV (A := [vi ((gI w5 4 6) + 1)]) (S := []) d_Rd_readTerm_158 cv_Rd_readTerm_55 (ly_o hly (by decide)) rfl (Nat.le_of_ble_eq_true rfl) (by decide) (MetS.mono h (fun r w6 hh => ?_))
      obtain ⟨er, h⟩ := hh
      subst er
      refine wp_ly (fun hly => ?_)
      refine wp_iconst d_Rd_readTerm_161 (by decide) ?_
      exact wp_zret d_Rd_readTerm_162 rfl (by decide) (by decide) h
set_option maxRecDepth 20000 in
set_option maxHeartbeats 2000000 in
theorem t_Rd_readTerm_87 {r1 : Nat} {x2 : Int} (hr1 : isLt r1) {w : Wo} {Q : Option AV → Wo → Prop} (h : ((¬ (gI w 4 7) = 3 → MetI m_Rd_refuse [vr 4, vi (gI w 4 8)] w (fun z2 w1 => (z2 = 0 ∨ z2 = 1) ∧ Q (some (vi z2)) w1)) ∧ ((gI w 4 7) = 3 → ((¬ x2 = 0 → MetI m_Rd_refuse [vr 4, vi (gI w 4 8)] w (fun z4 w3 => (z4 = 0 ∨ z4 = 1) ∧ Q (some (vi z4)) w3)) ∧ (x2 = 0 → MetI m_Cl_variableOf [vr 9, vl (gJ w 4 9), vi (gI w 4 8)] w (fun z6 w5 => ((¬ z6 = (-1) → inr64 (281474976710656 + z6) ∧ MetV m_Lt_add [vr r1, vl (281474976710656 + z6)] w5 (fun w7 => inr32 ((gI w7 4 6) + 1) ∧ MetV m_Rd_moveTo [vr 4, vi ((gI w7 4 6) + 1)] w7 (fun w8 => Q (some (vi 1)) w8))) ∧ (z6 = (-1) → MetI m_Rd_refuse [vr 4, vi (gI w5 4 8)] w5 (fun z10 w9 => (z10 = 0 ∨ z10 = 1) ∧ Q (some (vi z10)) w9))))))))) : Wp m_Rd_readTerm 87 [(0, vr 4), (1, vr r1), (2, vi x2)] [] (0, 0) w Q := by
  refine wp_ly (fun hly => ?_)
  refine wp_aload_n d_Rd_readTerm_87 (i := 0) rfl 0 rfl ?_
  refine wp_getI d_Rd_readTerm_88 fl_Rd_60 cl_4 rfl (ly_o hly (by decide)) ?_
  refine wp_iconst d_Rd_readTerm_91 (by decide) ?_
  refine wp_icmp_ne (tgt := 142) d_Rd_readTerm_92 (by decide) (fun hc => ?_) (fun hc => ?_)
  · replace h := h.1 hc
    refine wp_aload_n d_Rd_readTerm_142 (i := 0) rfl 0 rfl ?_
    refine wp_aload_n d_Rd_readTerm_143 (i := 0) rfl 0 rfl ?_
    refine wp_getI d_Rd_readTerm_144 fl_Rd_63 cl_4 rfl (ly_o hly (by decide)) ?_
    refine wp_callV (A := [vi (gI w 4 8)]) (S := []) d_Rd_readTerm_147 cv_Rd_readTerm_125 (ly_o hly (by decide)) rfl (Nat.le_of_ble_eq_true rfl) (by decide) (MetS.mono h (fun r w1 hh => ?_))
    obtain ⟨z2, er, h⟩ := hh
    subst er
    refine wp_ly (fun hly => ?_)
    exact wp_zret d_Rd_readTerm_150 rfl (by decide) h.1 h.2
  · replace h := h.2 hc
    refine wp_iload_n d_Rd_readTerm_95 (i := 2) rfl 2 rfl ?_
    refine wp_if_ne (tgt := 142) d_Rd_readTerm_96 (by decide) (fun hc => ?_) (fun hc => ?_)
    · replace h := h.1 hc
      refine wp_aload_n d_Rd_readTerm_142 (i := 0) rfl 0 rfl ?_
      refine wp_aload_n d_Rd_readTerm_143 (i := 0) rfl 0 rfl ?_
      refine wp_getI d_Rd_readTerm_144 fl_Rd_63 cl_4 rfl (ly_o hly (by decide)) ?_
      refine wp_callV (A := [vi (gI w 4 8)]) (S := []) d_Rd_readTerm_147 cv_Rd_readTerm_125 (ly_o hly (by decide)) rfl (Nat.le_of_ble_eq_true rfl) (by decide) (MetS.mono h (fun r w3 hh => ?_))
      obtain ⟨z4, er, h⟩ := hh
      subst er
      refine wp_ly (fun hly => ?_)
      exact wp_zret d_Rd_readTerm_150 rfl (by decide) h.1 h.2
    · replace h := h.2 hc
      refine wp_aload_n d_Rd_readTerm_99 (i := 0) rfl 0 rfl ?_
      refine wp_getP d_Rd_readTerm_100 fl_Rd_21 cl_4 rfl (ly_o hly (by decide)) (ly_r (v := 9) hly (by decide +kernel)) ?_
      refine wp_aload_n d_Rd_readTerm_103 (i := 0) rfl 0 rfl ?_
      refine wp_getJ d_Rd_readTerm_104 fl_Rd_121 cl_4 rfl (ly_o hly (by decide)) ?_
      refine wp_aload_n d_Rd_readTerm_107 (i := 0) rfl 0 rfl ?_
      refine wp_getI d_Rd_readTerm_108 fl_Rd_63 cl_4 rfl (ly_o hly (by decide)) ?_
      refine wp_callV (A := [vl (gJ w 4 9), vi (gI w 4 8)]) (S := []) d_Rd_readTerm_111 cv_Rd_readTerm_218 (ly_o hly (by decide)) rfl (Nat.le_of_ble_eq_true rfl) (by decide) (MetS.mono h (fun r w5 hh => ?_))
      obtain ⟨z6, er, h⟩ := hh
      subst er
      refine wp_ly (fun hly => ?_)
      refine wp_istore_n (L' := [(3, vi z6), (0, vr 4), (1, vr r1), (2, vi x2)]) d_Rd_readTerm_114 (i := 3) rfl rfl (by decide) ?_
      refine wp_iload_n d_Rd_readTerm_115 (i := 3) rfl 0 rfl ?_
      refine wp_iconst d_Rd_readTerm_116 (by decide) ?_
      refine wp_icmp_ne (tgt := 129) d_Rd_readTerm_117 (by decide) (fun hc => ?_) (fun hc => ?_)
      · replace h := h.1 hc
        refine wp_aload_n d_Rd_readTerm_129 (i := 1) rfl 2 rfl ?_
        refine wp_ldc2 d_Rd_readTerm_130 (x := 281474976710656) lc_Rd_222 (by decide) ?_
        refine wp_iload_n d_Rd_readTerm_133 (i := 3) rfl 0 rfl ?_
        refine wp_i2l d_Rd_readTerm_134 ?_
        obtain ⟨ho, h⟩ := h
        refine wp_ladd d_Rd_readTerm_135 ho ?_
        refine wp_callV (A := [vl (281474976710656 + z6)]) (S := []) d_Rd_readTerm_136 cv_Rd_readTerm_213 (ly_o hly (lt_o hr1)) rfl (Nat.le_of_ble_eq_true rfl) (by decide) (MetS.mono h (fun r w7 hh => ?_))
        obtain ⟨er, h⟩ := hh
        subst er
        refine wp_ly (fun hly => ?_)
        refine wp_goto (tgt := 151) d_Rd_readTerm_139 (by decide) ?_
        refine wp_aload_n d_Rd_readTerm_151 (i := 0) rfl 1 rfl ?_
        refine wp_aload_n d_Rd_readTerm_152 (i := 0) rfl 1 rfl ?_
        refine wp_getI d_Rd_readTerm_153 fl_Rd_107 cl_4 rfl (ly_o hly (by decide)) ?_
        refine wp_iconst d_Rd_readTerm_156 (by decide) ?_
        obtain ⟨ho, h⟩ := h
        refine wp_iadd d_Rd_readTerm_157 ho ?_
        refine wp_callV (A := [vi ((gI w7 4 6) + 1)]) (S := []) d_Rd_readTerm_158 cv_Rd_readTerm_55 (ly_o hly (by decide)) rfl (Nat.le_of_ble_eq_true rfl) (by decide) (MetS.mono h (fun r w8 hh => ?_))
        obtain ⟨er, h⟩ := hh
        subst er
        refine wp_ly (fun hly => ?_)
        refine wp_iconst d_Rd_readTerm_161 (by decide) ?_
        exact wp_zret d_Rd_readTerm_162 rfl (by decide) (by decide) h
      · replace h := h.2 hc
        refine wp_aload_n d_Rd_readTerm_120 (i := 0) rfl 1 rfl ?_
        refine wp_aload_n d_Rd_readTerm_121 (i := 0) rfl 1 rfl ?_
        refine wp_getI d_Rd_readTerm_122 fl_Rd_63 cl_4 rfl (ly_o hly (by decide)) ?_
        refine wp_callV (A := [vi (gI w5 4 8)]) (S := []) d_Rd_readTerm_125 cv_Rd_readTerm_125 (ly_o hly (by decide)) rfl (Nat.le_of_ble_eq_true rfl) (by decide) (MetS.mono h (fun r w9 hh => ?_))
        obtain ⟨z10, er, h⟩ := hh
        subst er
        refine wp_ly (fun hly => ?_)
        exact wp_zret d_Rd_readTerm_128 rfl (by decide) h.1 h.2

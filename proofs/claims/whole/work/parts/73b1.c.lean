def ltW (n q : Nat) (w : Wo) : Wo := uP (nw (uP (nw (w) (2, 4)) q 5 (n + 1)) (1, 4)) q 6 (n + 2)
theorem st_lt {n q : Nat} {w : Wo} (hn : wn w = n) (hq : q ≤ n) : StC q 2 w (ltW n q w) := by
  exact ((((StC.rf).nw).uP (Or.inl rfl)).nw).uP (Or.inl rfl)
theorem i_lt {n q : Nat} {w : Wo} (hn : wn w = n) (hb : n + 2 ≤ 1000) (hq : oq w q (0, 3)) : MetS false m_Lt_init [vr q] w (fun r w' => r = none ∧ w' = ltW n q w) := by
  have hqn : q ≤ n := by rw [← hn]; exact hq.2.1
  have hq0 : 0 < q := hq.1
  refine met_of (by decide) rfl (Nat.le_of_ble_eq_true rfl) ?_
  show WpG false false m_Lt_init 0 [(0, vr q)] [] (0, 0) w _
  refine wp_aload_n d_Lt_init_0 rfl 0 rfl ?_
  refine wp_objinit d_Lt_init_1 wd_c0 wd_c1 wd_c2 hq.1 (by omega) (by decide) (by decide) ?_
  refine wp_aload_n d_Lt_init_4 rfl 0 rfl ?_
  refine wp_iconst d_Lt_init_5 (by decide) ?_
  refine wp_newarrG (N := 4) (t := 2) hn d_Lt_init_6 rfl (Or.inr (Or.inl ⟨rfl, rfl⟩)) wd_c3 (by decide) (by omega) (k2 := (1, 4)) rfl (by decide) (fun w1 e1 hn1 ho1 => ?_)
  have f1 : ∀ p sh, oq w p sh → oq w1 p sh := fun p sh h => by rw [e1]; exact oq_nw h
  replace hn1 : wn w1 = n + 1 := hn1
  replace hq := f1 _ _ hq
  clear ho1
  refine wp_putC d_Lt_init_8 fl_Lt_9 (Or.inr rfl) (Or.inr dcc_3) cl_3 ⟨rfl, Or.inr ⟨_, rfl⟩⟩ hq (fun w2 e2 => ?_)
  have f2 : ∀ p sh, oq w1 p sh → oq w2 p sh := fun p sh h => by rw [e2]; exact h
  have hn2 : wn w2 = n + 1 := by rw [e2]; exact hn1
  replace hq := f2 _ _ hq
  refine wp_aload_n d_Lt_init_11 rfl 0 rfl ?_
  refine wp_iconst d_Lt_init_12 (by decide) ?_
  refine wp_newarrG (N := 4) (t := 1) hn2 d_Lt_init_13 rfl (Or.inl ⟨rfl, rfl⟩) wd_c4 (by decide) (by omega) (k2 := (2, 8)) rfl (by decide) (fun w3 e3 hn3 ho3 => ?_)
  have f3 : ∀ p sh, oq w2 p sh → oq w3 p sh := fun p sh h => by rw [e3]; exact oq_nw h
  replace hn3 : wn w3 = n + 2 := hn3
  replace hq := f3 _ _ hq
  clear ho3
  refine wp_putC d_Lt_init_15 fl_Lt_15 (Or.inr rfl) (Or.inr dcc_3) cl_3 ⟨rfl, Or.inr ⟨_, rfl⟩⟩ hq (fun w4 e4 => ?_)
  have f4 : ∀ p sh, oq w3 p sh → oq w4 p sh := fun p sh h => by rw [e4]; exact h
  have hn4 : wn w4 = n + 2 := by rw [e4]; exact hn3
  replace hq := f4 _ _ hq
  exact wp_vret d_Lt_init_18 rfl (by decide) ⟨rfl, by rw [e4, e3, e2, e1]; rfl⟩
def tpW (n q : Nat) (w : Wo) : Wo := uP (nw (w) (3, 600)) q 0 (n + 1)
theorem st_tp {n q : Nat} {w : Wo} (hn : wn w = n) (hq : q ≤ n) : StC q 1 w (tpW n q w) := by
  exact ((StC.rf).nw).uP (Or.inl rfl)
theorem i_tp {n q : Nat} {w : Wo} (hn : wn w = n) (hb : n + 1 ≤ 1000) (hq : oq w q (0, 6)) : MetS false m_Tp_init [vr q] w (fun r w' => r = none ∧ w' = tpW n q w) := by
  have hqn : q ≤ n := by rw [← hn]; exact hq.2.1
  have hq0 : 0 < q := hq.1
  refine met_of (by decide) rfl (Nat.le_of_ble_eq_true rfl) ?_
  show WpG false false m_Tp_init 0 [(0, vr q)] [] (0, 0) w _
  refine wp_aload_n d_Tp_init_0 rfl 0 rfl ?_
  refine wp_objinit d_Tp_init_1 wd_c5 wd_c1 wd_c2 hq.1 (by omega) (by decide) (by decide) ?_
  refine wp_aload_n d_Tp_init_4 rfl 0 rfl ?_
  refine wp_sipush d_Tp_init_5 (by decide) (by decide) ?_
  refine wp_newarrG (N := 600) (t := 3) hn d_Tp_init_8 rfl (Or.inr (Or.inr (Or.inl ⟨rfl, rfl⟩))) wd_c6 (by decide) (by omega) (k2 := (1, 600)) rfl (by decide) (fun w1 e1 hn1 ho1 => ?_)
  have f1 : ∀ p sh, oq w p sh → oq w1 p sh := fun p sh h => by rw [e1]; exact oq_nw h
  replace hn1 : wn w1 = n + 1 := hn1
  replace hq := f1 _ _ hq
  clear ho1
  refine wp_putC d_Tp_init_10 fl_Tp_9 (Or.inr rfl) (Or.inr dcc_6) cl_6 ⟨rfl, Or.inr ⟨_, rfl⟩⟩ hq (fun w2 e2 => ?_)
  have f2 : ∀ p sh, oq w1 p sh → oq w2 p sh := fun p sh h => by rw [e2]; exact h
  have hn2 : wn w2 = n + 1 := by rw [e2]; exact hn1
  replace hq := f2 _ _ hq
  exact wp_vret d_Tp_init_13 rfl (by decide) ⟨rfl, by rw [e2, e1]; rfl⟩
def tkW (n q : Nat) (w : Wo) : Wo := uP (nw (uP (nw (uP (nw (w) (1, 601)) q 0 (n + 1)) (1, 601)) q 1 (n + 2)) (2, 601)) q 2 (n + 3)
theorem st_tk {n q : Nat} {w : Wo} (hn : wn w = n) (hq : q ≤ n) : StC q 3 w (tkW n q w) := by
  exact ((((((StC.rf).nw).uP (Or.inl rfl)).nw).uP (Or.inl rfl)).nw).uP (Or.inl rfl)
theorem i_tk {n q : Nat} {w : Wo} (hn : wn w = n) (hb : n + 3 ≤ 1000) (hq : oq w q (0, 7)) : MetS false m_Tk_init [vr q] w (fun r w' => r = none ∧ w' = tkW n q w) := by
  have hqn : q ≤ n := by rw [← hn]; exact hq.2.1
  have hq0 : 0 < q := hq.1
  refine met_of (by decide) rfl (Nat.le_of_ble_eq_true rfl) ?_
  show WpG false false m_Tk_init 0 [(0, vr q)] [] (0, 0) w _
  refine wp_aload_n d_Tk_init_0 rfl 0 rfl ?_
  refine wp_objinit d_Tk_init_1 wd_c7 wd_c1 wd_c2 hq.1 (by omega) (by decide) (by decide) ?_
  refine wp_aload_n d_Tk_init_4 rfl 0 rfl ?_
  refine wp_sipush d_Tk_init_5 (by decide) (by decide) ?_
  refine wp_newarrG (N := 601) (t := 1) hn d_Tk_init_8 rfl (Or.inl ⟨rfl, rfl⟩) wd_c4 (by decide) (by omega) (k2 := (1, 601)) rfl (by decide) (fun w1 e1 hn1 ho1 => ?_)
  have f1 : ∀ p sh, oq w p sh → oq w1 p sh := fun p sh h => by rw [e1]; exact oq_nw h
  replace hn1 : wn w1 = n + 1 := hn1
  replace hq := f1 _ _ hq
  clear ho1
  refine wp_putC d_Tk_init_10 fl_Tk_9 (Or.inr rfl) (Or.inr dcc_7) cl_7 ⟨rfl, Or.inr ⟨_, rfl⟩⟩ hq (fun w2 e2 => ?_)
  have f2 : ∀ p sh, oq w1 p sh → oq w2 p sh := fun p sh h => by rw [e2]; exact h
  have hn2 : wn w2 = n + 1 := by rw [e2]; exact hn1
  replace hq := f2 _ _ hq
  refine wp_aload_n d_Tk_init_13 rfl 0 rfl ?_
  refine wp_sipush d_Tk_init_14 (by decide) (by decide) ?_
  refine wp_newarrG (N := 601) (t := 1) hn2 d_Tk_init_17 rfl (Or.inl ⟨rfl, rfl⟩) wd_c4 (by decide) (by omega) (k2 := (2, 1202)) rfl (by decide) (fun w3 e3 hn3 ho3 => ?_)
  have f3 : ∀ p sh, oq w2 p sh → oq w3 p sh := fun p sh h => by rw [e3]; exact oq_nw h
  replace hn3 : wn w3 = n + 2 := hn3
  replace hq := f3 _ _ hq
  clear ho3
  refine wp_putC d_Tk_init_19 fl_Tk_15 (Or.inr rfl) (Or.inr dcc_7) cl_7 ⟨rfl, Or.inr ⟨_, rfl⟩⟩ hq (fun w4 e4 => ?_)
  have f4 : ∀ p sh, oq w3 p sh → oq w4 p sh := fun p sh h => by rw [e4]; exact h
  have hn4 : wn w4 = n + 2 := by rw [e4]; exact hn3
  replace hq := f4 _ _ hq
  refine wp_aload_n d_Tk_init_22 rfl 0 rfl ?_
  refine wp_sipush d_Tk_init_23 (by decide) (by decide) ?_
  refine wp_newarrG (N := 601) (t := 2) hn4 d_Tk_init_26 rfl (Or.inr (Or.inl ⟨rfl, rfl⟩)) wd_c3 (by decide) (by omega) (k2 := (3, 1803)) rfl (by decide) (fun w5 e5 hn5 ho5 => ?_)
  have f5 : ∀ p sh, oq w4 p sh → oq w5 p sh := fun p sh h => by rw [e5]; exact oq_nw h
  replace hn5 : wn w5 = n + 3 := hn5
  replace hq := f5 _ _ hq
  clear ho5
  refine wp_putC d_Tk_init_28 fl_Tk_18 (Or.inr rfl) (Or.inr dcc_7) cl_7 ⟨rfl, Or.inr ⟨_, rfl⟩⟩ hq (fun w6 e6 => ?_)
  have f6 : ∀ p sh, oq w5 p sh → oq w6 p sh := fun p sh h => by rw [e6]; exact h
  have hn6 : wn w6 = n + 3 := by rw [e6]; exact hn5
  replace hq := f6 _ _ hq
  exact wp_vret d_Tk_init_31 rfl (by decide) ⟨rfl, by rw [e6, e5, e4, e3, e2, e1]; rfl⟩
def fcW (n q : Nat) (w : Wo) : Wo := uP (nw (uP (nw (w) (1, 120)) q 0 (n + 1)) (2, 480)) q 1 (n + 2)
theorem st_fc {n q : Nat} {w : Wo} (hn : wn w = n) (hq : q ≤ n) : StC q 2 w (fcW n q w) := by
  exact ((((StC.rf).nw).uP (Or.inl rfl)).nw).uP (Or.inl rfl)
theorem i_fc {n q : Nat} {w : Wo} (hn : wn w = n) (hb : n + 2 ≤ 1000) (hq : oq w q (0, 2)) : MetS false m_Fc_init [vr q] w (fun r w' => r = none ∧ w' = fcW n q w) := by
  have hqn : q ≤ n := by rw [← hn]; exact hq.2.1
  have hq0 : 0 < q := hq.1
  refine met_of (by decide) rfl (Nat.le_of_ble_eq_true rfl) ?_
  show WpG false false m_Fc_init 0 [(0, vr q)] [] (0, 0) w _
  refine wp_aload_n d_Fc_init_0 rfl 0 rfl ?_
  refine wp_objinit d_Fc_init_1 wd_c8 wd_c1 wd_c2 hq.1 (by omega) (by decide) (by decide) ?_
  refine wp_aload_n d_Fc_init_4 rfl 0 rfl ?_
  refine wp_bipush d_Fc_init_5 (by decide) (by decide) ?_
  refine wp_newarrG (N := 120) (t := 1) hn d_Fc_init_7 rfl (Or.inl ⟨rfl, rfl⟩) wd_c4 (by decide) (by omega) (k2 := (1, 120)) rfl (by decide) (fun w1 e1 hn1 ho1 => ?_)
  have f1 : ∀ p sh, oq w p sh → oq w1 p sh := fun p sh h => by rw [e1]; exact oq_nw h
  replace hn1 : wn w1 = n + 1 := hn1
  replace hq := f1 _ _ hq
  clear ho1
  refine wp_putC d_Fc_init_9 fl_Fc_9 (Or.inr rfl) (Or.inr dcc_2) cl_2 ⟨rfl, Or.inr ⟨_, rfl⟩⟩ hq (fun w2 e2 => ?_)
  have f2 : ∀ p sh, oq w1 p sh → oq w2 p sh := fun p sh h => by rw [e2]; exact h
  have hn2 : wn w2 = n + 1 := by rw [e2]; exact hn1
  replace hq := f2 _ _ hq
  refine wp_aload_n d_Fc_init_12 rfl 0 rfl ?_
  refine wp_sipush d_Fc_init_13 (by decide) (by decide) ?_
  refine wp_newarrG (N := 480) (t := 2) hn2 d_Fc_init_16 rfl (Or.inr (Or.inl ⟨rfl, rfl⟩)) wd_c3 (by decide) (by omega) (k2 := (2, 600)) rfl (by decide) (fun w3 e3 hn3 ho3 => ?_)
  have f3 : ∀ p sh, oq w2 p sh → oq w3 p sh := fun p sh h => by rw [e3]; exact oq_nw h
  replace hn3 : wn w3 = n + 2 := hn3
  replace hq := f3 _ _ hq
  clear ho3
  refine wp_putC d_Fc_init_18 fl_Fc_15 (Or.inr rfl) (Or.inr dcc_2) cl_2 ⟨rfl, Or.inr ⟨_, rfl⟩⟩ hq (fun w4 e4 => ?_)
  have f4 : ∀ p sh, oq w3 p sh → oq w4 p sh := fun p sh h => by rw [e4]; exact h
  have hn4 : wn w4 = n + 2 := by rw [e4]; exact hn3
  replace hq := f4 _ _ hq
  exact wp_vret d_Fc_init_21 rfl (by decide) ⟨rfl, by rw [e4, e3, e2, e1]; rfl⟩

/-! the constructors: walks (by program) -/
def ltW (n q : Nat) (w : Wo) : Wo := uP (nw (uP (nw (w) (2, 4)) q 5 (n + 1)) (1, 4)) q 6 (n + 2)
theorem st_lt {n q : Nat} {w : Wo} (hn : wn w = n) (hq : q ≤ n) : StC q 2 w (ltW n q w) := by
  exact ((((StC.rf).nw).uP (Or.inl rfl)).nw).uP (Or.inl rfl)
theorem i_lt {n q : Nat} {w : Wo} (hn : wn w = n) (hb : n + 2 ≤ 1000) (hq : oq w q (0, 3)) : MetS false m_Lt_init [vr q] w (fun r w' => r = none ∧ w' = ltW n q w) := by
  have hqn : q ≤ n := by rw [← hn]; exact hq.2.1
  have hq0 : 0 < q := hq.1
  refine met_of (by decide) rfl (Nat.le_of_ble_eq_true rfl) ?_
  show WpG false false m_Lt_init 0 [(0, vr q)] [] (0, 0) w _
  refine wp_aload_n d_Lt_init_0 rfl 0 rfl ?_
  refine wp_objinit d_Lt_init_1 wd_c0 wd_c1 wd_c2 hq.1 (qle hqn hb) (by decide) (by decide) ?_
  refine wp_aload_n d_Lt_init_4 rfl 0 rfl ?_
  refine wp_iconst d_Lt_init_5 (by decide) ?_
  refine wp_newarrG (N := 4) (t := 2) hn d_Lt_init_6 rfl (Or.inr (Or.inl ⟨rfl, rfl⟩)) wd_c3 (by decide) (bl hb (a := 0) (by decide)) (k2 := (1, 4)) rfl (by decide) (fun w1 e1 hn1 ho1 => ?_)
  have f1 : ∀ p sh, oq w p sh → oq w1 p sh := fun p sh h => by rw [e1]; exact oq_nw h
  replace hn1 : wn w1 = n + 1 := hn1
  replace hq := f1 _ _ hq
  clear ho1
  refine wp_putC d_Lt_init_8 fl_Lt_9 (Or.inr rfl) (Or.inr dcc_3) cl_3 ⟨rfl, Or.inr ⟨_, rfl⟩⟩ hq (fun w2 e2 => ?_)
  have f2 : ∀ p sh, oq w1 p sh → oq w2 p sh := fun p sh h => by rw [e2]; exact h
  have hn2 : wn w2 = n + 1 := by rw [e2]; exact hn1
  replace hq := f2 _ _ hq
  refine wp_aload_n d_Lt_init_11 rfl 0 rfl ?_
  refine wp_iconst d_Lt_init_12 (by decide) ?_
  refine wp_newarrG (N := 4) (t := 1) hn2 d_Lt_init_13 rfl (Or.inl ⟨rfl, rfl⟩) wd_c4 (by decide) (bl hb (a := 1) (by decide)) (k2 := (2, 8)) rfl (by decide) (fun w3 e3 hn3 ho3 => ?_)
  have f3 : ∀ p sh, oq w2 p sh → oq w3 p sh := fun p sh h => by rw [e3]; exact oq_nw h
  replace hn3 : wn w3 = n + 2 := hn3
  replace hq := f3 _ _ hq
  clear ho3
  refine wp_putC d_Lt_init_15 fl_Lt_15 (Or.inr rfl) (Or.inr dcc_3) cl_3 ⟨rfl, Or.inr ⟨_, rfl⟩⟩ hq (fun w4 e4 => ?_)
  have f4 : ∀ p sh, oq w3 p sh → oq w4 p sh := fun p sh h => by rw [e4]; exact h
  have hn4 : wn w4 = n + 2 := by rw [e4]; exact hn3
  replace hq := f4 _ _ hq
  exact wp_vret d_Lt_init_18 rfl (by decide) ⟨rfl, by rw [e4, e3, e2, e1]; rfl⟩
def tpW (n q : Nat) (w : Wo) : Wo := uP (nw (w) (3, 600)) q 0 (n + 1)
theorem st_tp {n q : Nat} {w : Wo} (hn : wn w = n) (hq : q ≤ n) : StC q 1 w (tpW n q w) := by
  exact ((StC.rf).nw).uP (Or.inl rfl)
theorem i_tp {n q : Nat} {w : Wo} (hn : wn w = n) (hb : n + 1 ≤ 1000) (hq : oq w q (0, 6)) : MetS false m_Tp_init [vr q] w (fun r w' => r = none ∧ w' = tpW n q w) := by
  have hqn : q ≤ n := by rw [← hn]; exact hq.2.1
  have hq0 : 0 < q := hq.1
  refine met_of (by decide) rfl (Nat.le_of_ble_eq_true rfl) ?_
  show WpG false false m_Tp_init 0 [(0, vr q)] [] (0, 0) w _
  refine wp_aload_n d_Tp_init_0 rfl 0 rfl ?_
  refine wp_objinit d_Tp_init_1 wd_c5 wd_c1 wd_c2 hq.1 (qle hqn hb) (by decide) (by decide) ?_
  refine wp_aload_n d_Tp_init_4 rfl 0 rfl ?_
  refine wp_sipush d_Tp_init_5 (by decide) (by decide) ?_
  refine wp_newarrG (N := 600) (t := 3) hn d_Tp_init_8 rfl (Or.inr (Or.inr (Or.inl ⟨rfl, rfl⟩))) wd_c6 (by decide) (bl hb (a := 0) (by decide)) (k2 := (1, 600)) rfl (by decide) (fun w1 e1 hn1 ho1 => ?_)
  have f1 : ∀ p sh, oq w p sh → oq w1 p sh := fun p sh h => by rw [e1]; exact oq_nw h
  replace hn1 : wn w1 = n + 1 := hn1
  replace hq := f1 _ _ hq
  clear ho1
  refine wp_putC d_Tp_init_10 fl_Tp_9 (Or.inr rfl) (Or.inr dcc_6) cl_6 ⟨rfl, Or.inr ⟨_, rfl⟩⟩ hq (fun w2 e2 => ?_)
  have f2 : ∀ p sh, oq w1 p sh → oq w2 p sh := fun p sh h => by rw [e2]; exact h
  have hn2 : wn w2 = n + 1 := by rw [e2]; exact hn1
  replace hq := f2 _ _ hq
  exact wp_vret d_Tp_init_13 rfl (by decide) ⟨rfl, by rw [e2, e1]; rfl⟩
def tkW (n q : Nat) (w : Wo) : Wo := uP (nw (uP (nw (uP (nw (w) (1, 601)) q 0 (n + 1)) (1, 601)) q 1 (n + 2)) (2, 601)) q 2 (n + 3)
theorem st_tk {n q : Nat} {w : Wo} (hn : wn w = n) (hq : q ≤ n) : StC q 3 w (tkW n q w) := by
  exact ((((((StC.rf).nw).uP (Or.inl rfl)).nw).uP (Or.inl rfl)).nw).uP (Or.inl rfl)
theorem i_tk {n q : Nat} {w : Wo} (hn : wn w = n) (hb : n + 3 ≤ 1000) (hq : oq w q (0, 7)) : MetS false m_Tk_init [vr q] w (fun r w' => r = none ∧ w' = tkW n q w) := by
  have hqn : q ≤ n := by rw [← hn]; exact hq.2.1
  have hq0 : 0 < q := hq.1
  refine met_of (by decide) rfl (Nat.le_of_ble_eq_true rfl) ?_
  show WpG false false m_Tk_init 0 [(0, vr q)] [] (0, 0) w _
  refine wp_aload_n d_Tk_init_0 rfl 0 rfl ?_
  refine wp_objinit d_Tk_init_1 wd_c7 wd_c1 wd_c2 hq.1 (qle hqn hb) (by decide) (by decide) ?_
  refine wp_aload_n d_Tk_init_4 rfl 0 rfl ?_
  refine wp_sipush d_Tk_init_5 (by decide) (by decide) ?_
  refine wp_newarrG (N := 601) (t := 1) hn d_Tk_init_8 rfl (Or.inl ⟨rfl, rfl⟩) wd_c4 (by decide) (bl hb (a := 0) (by decide)) (k2 := (1, 601)) rfl (by decide) (fun w1 e1 hn1 ho1 => ?_)
  have f1 : ∀ p sh, oq w p sh → oq w1 p sh := fun p sh h => by rw [e1]; exact oq_nw h
  replace hn1 : wn w1 = n + 1 := hn1
  replace hq := f1 _ _ hq
  clear ho1
  refine wp_putC d_Tk_init_10 fl_Tk_9 (Or.inr rfl) (Or.inr dcc_7) cl_7 ⟨rfl, Or.inr ⟨_, rfl⟩⟩ hq (fun w2 e2 => ?_)
  have f2 : ∀ p sh, oq w1 p sh → oq w2 p sh := fun p sh h => by rw [e2]; exact h
  have hn2 : wn w2 = n + 1 := by rw [e2]; exact hn1
  replace hq := f2 _ _ hq
  refine wp_aload_n d_Tk_init_13 rfl 0 rfl ?_
  refine wp_sipush d_Tk_init_14 (by decide) (by decide) ?_
  refine wp_newarrG (N := 601) (t := 1) hn2 d_Tk_init_17 rfl (Or.inl ⟨rfl, rfl⟩) wd_c4 (by decide) (bl hb (a := 1) (by decide)) (k2 := (2, 1202)) rfl (by decide) (fun w3 e3 hn3 ho3 => ?_)
  have f3 : ∀ p sh, oq w2 p sh → oq w3 p sh := fun p sh h => by rw [e3]; exact oq_nw h
  replace hn3 : wn w3 = n + 2 := hn3
  replace hq := f3 _ _ hq
  clear ho3
  refine wp_putC d_Tk_init_19 fl_Tk_15 (Or.inr rfl) (Or.inr dcc_7) cl_7 ⟨rfl, Or.inr ⟨_, rfl⟩⟩ hq (fun w4 e4 => ?_)
  have f4 : ∀ p sh, oq w3 p sh → oq w4 p sh := fun p sh h => by rw [e4]; exact h
  have hn4 : wn w4 = n + 2 := by rw [e4]; exact hn3
  replace hq := f4 _ _ hq
  refine wp_aload_n d_Tk_init_22 rfl 0 rfl ?_
  refine wp_sipush d_Tk_init_23 (by decide) (by decide) ?_
  refine wp_newarrG (N := 601) (t := 2) hn4 d_Tk_init_26 rfl (Or.inr (Or.inl ⟨rfl, rfl⟩)) wd_c3 (by decide) (bl hb (a := 2) (by decide)) (k2 := (3, 1803)) rfl (by decide) (fun w5 e5 hn5 ho5 => ?_)
  have f5 : ∀ p sh, oq w4 p sh → oq w5 p sh := fun p sh h => by rw [e5]; exact oq_nw h
  replace hn5 : wn w5 = n + 3 := hn5
  replace hq := f5 _ _ hq
  clear ho5
  refine wp_putC d_Tk_init_28 fl_Tk_18 (Or.inr rfl) (Or.inr dcc_7) cl_7 ⟨rfl, Or.inr ⟨_, rfl⟩⟩ hq (fun w6 e6 => ?_)
  have f6 : ∀ p sh, oq w5 p sh → oq w6 p sh := fun p sh h => by rw [e6]; exact h
  have hn6 : wn w6 = n + 3 := by rw [e6]; exact hn5
  replace hq := f6 _ _ hq
  exact wp_vret d_Tk_init_31 rfl (by decide) ⟨rfl, by rw [e6, e5, e4, e3, e2, e1]; rfl⟩
def fcW (n q : Nat) (w : Wo) : Wo := uP (nw (uP (nw (w) (1, 120)) q 0 (n + 1)) (2, 480)) q 1 (n + 2)
theorem st_fc {n q : Nat} {w : Wo} (hn : wn w = n) (hq : q ≤ n) : StC q 2 w (fcW n q w) := by
  exact ((((StC.rf).nw).uP (Or.inl rfl)).nw).uP (Or.inl rfl)
theorem i_fc {n q : Nat} {w : Wo} (hn : wn w = n) (hb : n + 2 ≤ 1000) (hq : oq w q (0, 2)) : MetS false m_Fc_init [vr q] w (fun r w' => r = none ∧ w' = fcW n q w) := by
  have hqn : q ≤ n := by rw [← hn]; exact hq.2.1
  have hq0 : 0 < q := hq.1
  refine met_of (by decide) rfl (Nat.le_of_ble_eq_true rfl) ?_
  show WpG false false m_Fc_init 0 [(0, vr q)] [] (0, 0) w _
  refine wp_aload_n d_Fc_init_0 rfl 0 rfl ?_
  refine wp_objinit d_Fc_init_1 wd_c8 wd_c1 wd_c2 hq.1 (qle hqn hb) (by decide) (by decide) ?_
  refine wp_aload_n d_Fc_init_4 rfl 0 rfl ?_
  refine wp_bipush d_Fc_init_5 (by decide) (by decide) ?_
  refine wp_newarrG (N := 120) (t := 1) hn d_Fc_init_7 rfl (Or.inl ⟨rfl, rfl⟩) wd_c4 (by decide) (bl hb (a := 0) (by decide)) (k2 := (1, 120)) rfl (by decide) (fun w1 e1 hn1 ho1 => ?_)
  have f1 : ∀ p sh, oq w p sh → oq w1 p sh := fun p sh h => by rw [e1]; exact oq_nw h
  replace hn1 : wn w1 = n + 1 := hn1
  replace hq := f1 _ _ hq
  clear ho1
  refine wp_putC d_Fc_init_9 fl_Fc_9 (Or.inr rfl) (Or.inr dcc_2) cl_2 ⟨rfl, Or.inr ⟨_, rfl⟩⟩ hq (fun w2 e2 => ?_)
  have f2 : ∀ p sh, oq w1 p sh → oq w2 p sh := fun p sh h => by rw [e2]; exact h
  have hn2 : wn w2 = n + 1 := by rw [e2]; exact hn1
  replace hq := f2 _ _ hq
  refine wp_aload_n d_Fc_init_12 rfl 0 rfl ?_
  refine wp_sipush d_Fc_init_13 (by decide) (by decide) ?_
  refine wp_newarrG (N := 480) (t := 2) hn2 d_Fc_init_16 rfl (Or.inr (Or.inl ⟨rfl, rfl⟩)) wd_c3 (by decide) (bl hb (a := 1) (by decide)) (k2 := (2, 600)) rfl (by decide) (fun w3 e3 hn3 ho3 => ?_)
  have f3 : ∀ p sh, oq w2 p sh → oq w3 p sh := fun p sh h => by rw [e3]; exact oq_nw h
  replace hn3 : wn w3 = n + 2 := hn3
  replace hq := f3 _ _ hq
  clear ho3
  refine wp_putC d_Fc_init_18 fl_Fc_15 (Or.inr rfl) (Or.inr dcc_2) cl_2 ⟨rfl, Or.inr ⟨_, rfl⟩⟩ hq (fun w4 e4 => ?_)
  have f4 : ∀ p sh, oq w3 p sh → oq w4 p sh := fun p sh h => by rw [e4]; exact h
  have hn4 : wn w4 = n + 2 := by rw [e4]; exact hn3
  replace hq := f4 _ _ hq
  exact wp_vret d_Fc_init_21 rfl (by decide) ⟨rfl, by rw [e4, e3, e2, e1]; rfl⟩
def rlW (n q : Nat) (w : Wo) : Wo := uP (nw (uP (nw (uP (nw (uP (nw (uP (nw (uP (nw (uP (nw (uP (nw (uP (nw (uP (nw (uP (nw (w) (1, 30)) q 1 (n + 1)) (1, 30)) q 2 (n + 2)) (1, 30)) q 3 (n + 3)) (1, 30)) q 4 (n + 4)) (1, 30)) q 5 (n + 5)) (1, 180)) q 6 (n + 6)) (1, 180)) q 7 (n + 7)) (1, 180)) q 8 (n + 8)) (1, 180)) q 9 (n + 9)) (1, 180)) q 10 (n + 10)) (1, 180)) q 11 (n + 11)
theorem st_rl {n q : Nat} {w : Wo} (hn : wn w = n) (hq : q ≤ n) : StC q 11 w (rlW n q w) := by
  exact ((((((((((((((((((((((StC.rf).nw).uP (Or.inl rfl)).nw).uP (Or.inl rfl)).nw).uP (Or.inl rfl)).nw).uP (Or.inl rfl)).nw).uP (Or.inl rfl)).nw).uP (Or.inl rfl)).nw).uP (Or.inl rfl)).nw).uP (Or.inl rfl)).nw).uP (Or.inl rfl)).nw).uP (Or.inl rfl)).nw).uP (Or.inl rfl)
theorem i_rl {n q : Nat} {w : Wo} (hn : wn w = n) (hb : n + 11 ≤ 1000) (hq : oq w q (0, 5)) : MetS false m_Rl_init [vr q] w (fun r w' => r = none ∧ w' = rlW n q w) := by
  have hqn : q ≤ n := by rw [← hn]; exact hq.2.1
  have hq0 : 0 < q := hq.1
  refine met_of (by decide) rfl (Nat.le_of_ble_eq_true rfl) ?_
  show WpG false false m_Rl_init 0 [(0, vr q)] [] (0, 0) w _
  refine wp_aload_n d_Rl_init_0 rfl 0 rfl ?_
  refine wp_objinit d_Rl_init_1 wd_c9 wd_c1 wd_c2 hq.1 (qle hqn hb) (by decide) (by decide) ?_
  refine wp_aload_n d_Rl_init_4 rfl 0 rfl ?_
  refine wp_bipush d_Rl_init_5 (by decide) (by decide) ?_
  refine wp_newarrG (N := 30) (t := 1) hn d_Rl_init_7 rfl (Or.inl ⟨rfl, rfl⟩) wd_c4 (by decide) (bl hb (a := 0) (by decide)) (k2 := (1, 30)) rfl (by decide) (fun w1 e1 hn1 ho1 => ?_)
  have f1 : ∀ p sh, oq w p sh → oq w1 p sh := fun p sh h => by rw [e1]; exact oq_nw h
  replace hn1 : wn w1 = n + 1 := hn1
  replace hq := f1 _ _ hq
  clear ho1
  refine wp_putC d_Rl_init_9 fl_Rl_9 (Or.inr rfl) (Or.inr dcc_5) cl_5 ⟨rfl, Or.inr ⟨_, rfl⟩⟩ hq (fun w2 e2 => ?_)
  have f2 : ∀ p sh, oq w1 p sh → oq w2 p sh := fun p sh h => by rw [e2]; exact h
  have hn2 : wn w2 = n + 1 := by rw [e2]; exact hn1
  replace hq := f2 _ _ hq
  refine wp_aload_n d_Rl_init_12 rfl 0 rfl ?_
  refine wp_bipush d_Rl_init_13 (by decide) (by decide) ?_
  refine wp_newarrG (N := 30) (t := 1) hn2 d_Rl_init_15 rfl (Or.inl ⟨rfl, rfl⟩) wd_c4 (by decide) (bl hb (a := 1) (by decide)) (k2 := (2, 60)) rfl (by decide) (fun w3 e3 hn3 ho3 => ?_)
  have f3 : ∀ p sh, oq w2 p sh → oq w3 p sh := fun p sh h => by rw [e3]; exact oq_nw h
  replace hn3 : wn w3 = n + 2 := hn3
  replace hq := f3 _ _ hq
  clear ho3
  refine wp_putC d_Rl_init_17 fl_Rl_15 (Or.inr rfl) (Or.inr dcc_5) cl_5 ⟨rfl, Or.inr ⟨_, rfl⟩⟩ hq (fun w4 e4 => ?_)
  have f4 : ∀ p sh, oq w3 p sh → oq w4 p sh := fun p sh h => by rw [e4]; exact h
  have hn4 : wn w4 = n + 2 := by rw [e4]; exact hn3
  replace hq := f4 _ _ hq
  refine wp_aload_n d_Rl_init_20 rfl 0 rfl ?_
  refine wp_bipush d_Rl_init_21 (by decide) (by decide) ?_
  refine wp_newarrG (N := 30) (t := 1) hn4 d_Rl_init_23 rfl (Or.inl ⟨rfl, rfl⟩) wd_c4 (by decide) (bl hb (a := 2) (by decide)) (k2 := (3, 90)) rfl (by decide) (fun w5 e5 hn5 ho5 => ?_)
  have f5 : ∀ p sh, oq w4 p sh → oq w5 p sh := fun p sh h => by rw [e5]; exact oq_nw h
  replace hn5 : wn w5 = n + 3 := hn5
  replace hq := f5 _ _ hq
  clear ho5
  refine wp_putC d_Rl_init_25 fl_Rl_18 (Or.inr rfl) (Or.inr dcc_5) cl_5 ⟨rfl, Or.inr ⟨_, rfl⟩⟩ hq (fun w6 e6 => ?_)
  have f6 : ∀ p sh, oq w5 p sh → oq w6 p sh := fun p sh h => by rw [e6]; exact h
  have hn6 : wn w6 = n + 3 := by rw [e6]; exact hn5
  replace hq := f6 _ _ hq
  refine wp_aload_n d_Rl_init_28 rfl 0 rfl ?_
  refine wp_bipush d_Rl_init_29 (by decide) (by decide) ?_
  refine wp_newarrG (N := 30) (t := 1) hn6 d_Rl_init_31 rfl (Or.inl ⟨rfl, rfl⟩) wd_c4 (by decide) (bl hb (a := 3) (by decide)) (k2 := (4, 120)) rfl (by decide) (fun w7 e7 hn7 ho7 => ?_)
  have f7 : ∀ p sh, oq w6 p sh → oq w7 p sh := fun p sh h => by rw [e7]; exact oq_nw h
  replace hn7 : wn w7 = n + 4 := hn7
  replace hq := f7 _ _ hq
  clear ho7
  refine wp_putC d_Rl_init_33 fl_Rl_21 (Or.inr rfl) (Or.inr dcc_5) cl_5 ⟨rfl, Or.inr ⟨_, rfl⟩⟩ hq (fun w8 e8 => ?_)
  have f8 : ∀ p sh, oq w7 p sh → oq w8 p sh := fun p sh h => by rw [e8]; exact h
  have hn8 : wn w8 = n + 4 := by rw [e8]; exact hn7
  replace hq := f8 _ _ hq
  refine wp_aload_n d_Rl_init_36 rfl 0 rfl ?_
  refine wp_bipush d_Rl_init_37 (by decide) (by decide) ?_
  refine wp_newarrG (N := 30) (t := 1) hn8 d_Rl_init_39 rfl (Or.inl ⟨rfl, rfl⟩) wd_c4 (by decide) (bl hb (a := 4) (by decide)) (k2 := (5, 150)) rfl (by decide) (fun w9 e9 hn9 ho9 => ?_)
  have f9 : ∀ p sh, oq w8 p sh → oq w9 p sh := fun p sh h => by rw [e9]; exact oq_nw h
  replace hn9 : wn w9 = n + 5 := hn9
  replace hq := f9 _ _ hq
  clear ho9
  refine wp_putC d_Rl_init_41 fl_Rl_24 (Or.inr rfl) (Or.inr dcc_5) cl_5 ⟨rfl, Or.inr ⟨_, rfl⟩⟩ hq (fun w10 e10 => ?_)
  have f10 : ∀ p sh, oq w9 p sh → oq w10 p sh := fun p sh h => by rw [e10]; exact h
  have hn10 : wn w10 = n + 5 := by rw [e10]; exact hn9
  replace hq := f10 _ _ hq
  refine wp_aload_n d_Rl_init_44 rfl 0 rfl ?_
  refine wp_sipush d_Rl_init_45 (by decide) (by decide) ?_
  refine wp_newarrG (N := 180) (t := 1) hn10 d_Rl_init_48 rfl (Or.inl ⟨rfl, rfl⟩) wd_c4 (by decide) (bl hb (a := 5) (by decide)) (k2 := (6, 330)) rfl (by decide) (fun w11 e11 hn11 ho11 => ?_)
  have f11 : ∀ p sh, oq w10 p sh → oq w11 p sh := fun p sh h => by rw [e11]; exact oq_nw h
  replace hn11 : wn w11 = n + 6 := hn11
  replace hq := f11 _ _ hq
  clear ho11
  refine wp_putC d_Rl_init_50 fl_Rl_27 (Or.inr rfl) (Or.inr dcc_5) cl_5 ⟨rfl, Or.inr ⟨_, rfl⟩⟩ hq (fun w12 e12 => ?_)
  have f12 : ∀ p sh, oq w11 p sh → oq w12 p sh := fun p sh h => by rw [e12]; exact h
  have hn12 : wn w12 = n + 6 := by rw [e12]; exact hn11
  replace hq := f12 _ _ hq
  refine wp_aload_n d_Rl_init_53 rfl 0 rfl ?_
  refine wp_sipush d_Rl_init_54 (by decide) (by decide) ?_
  refine wp_newarrG (N := 180) (t := 1) hn12 d_Rl_init_57 rfl (Or.inl ⟨rfl, rfl⟩) wd_c4 (by decide) (bl hb (a := 6) (by decide)) (k2 := (7, 510)) rfl (by decide) (fun w13 e13 hn13 ho13 => ?_)
  have f13 : ∀ p sh, oq w12 p sh → oq w13 p sh := fun p sh h => by rw [e13]; exact oq_nw h
  replace hn13 : wn w13 = n + 7 := hn13
  replace hq := f13 _ _ hq
  clear ho13
  refine wp_putC d_Rl_init_59 fl_Rl_30 (Or.inr rfl) (Or.inr dcc_5) cl_5 ⟨rfl, Or.inr ⟨_, rfl⟩⟩ hq (fun w14 e14 => ?_)
  have f14 : ∀ p sh, oq w13 p sh → oq w14 p sh := fun p sh h => by rw [e14]; exact h
  have hn14 : wn w14 = n + 7 := by rw [e14]; exact hn13
  replace hq := f14 _ _ hq
  refine wp_aload_n d_Rl_init_62 rfl 0 rfl ?_
  refine wp_sipush d_Rl_init_63 (by decide) (by decide) ?_
  refine wp_newarrG (N := 180) (t := 1) hn14 d_Rl_init_66 rfl (Or.inl ⟨rfl, rfl⟩) wd_c4 (by decide) (bl hb (a := 7) (by decide)) (k2 := (8, 690)) rfl (by decide) (fun w15 e15 hn15 ho15 => ?_)
  have f15 : ∀ p sh, oq w14 p sh → oq w15 p sh := fun p sh h => by rw [e15]; exact oq_nw h
  replace hn15 : wn w15 = n + 8 := hn15
  replace hq := f15 _ _ hq
  clear ho15
  refine wp_putC d_Rl_init_68 fl_Rl_33 (Or.inr rfl) (Or.inr dcc_5) cl_5 ⟨rfl, Or.inr ⟨_, rfl⟩⟩ hq (fun w16 e16 => ?_)
  have f16 : ∀ p sh, oq w15 p sh → oq w16 p sh := fun p sh h => by rw [e16]; exact h
  have hn16 : wn w16 = n + 8 := by rw [e16]; exact hn15
  replace hq := f16 _ _ hq
  refine wp_aload_n d_Rl_init_71 rfl 0 rfl ?_
  refine wp_sipush d_Rl_init_72 (by decide) (by decide) ?_
  refine wp_newarrG (N := 180) (t := 1) hn16 d_Rl_init_75 rfl (Or.inl ⟨rfl, rfl⟩) wd_c4 (by decide) (bl hb (a := 8) (by decide)) (k2 := (9, 870)) rfl (by decide) (fun w17 e17 hn17 ho17 => ?_)
  have f17 : ∀ p sh, oq w16 p sh → oq w17 p sh := fun p sh h => by rw [e17]; exact oq_nw h
  replace hn17 : wn w17 = n + 9 := hn17
  replace hq := f17 _ _ hq
  clear ho17
  refine wp_putC d_Rl_init_77 fl_Rl_36 (Or.inr rfl) (Or.inr dcc_5) cl_5 ⟨rfl, Or.inr ⟨_, rfl⟩⟩ hq (fun w18 e18 => ?_)
  have f18 : ∀ p sh, oq w17 p sh → oq w18 p sh := fun p sh h => by rw [e18]; exact h
  have hn18 : wn w18 = n + 9 := by rw [e18]; exact hn17
  replace hq := f18 _ _ hq
  refine wp_aload_n d_Rl_init_80 rfl 0 rfl ?_
  refine wp_sipush d_Rl_init_81 (by decide) (by decide) ?_
  refine wp_newarrG (N := 180) (t := 1) hn18 d_Rl_init_84 rfl (Or.inl ⟨rfl, rfl⟩) wd_c4 (by decide) (bl hb (a := 9) (by decide)) (k2 := (10, 1050)) rfl (by decide) (fun w19 e19 hn19 ho19 => ?_)
  have f19 : ∀ p sh, oq w18 p sh → oq w19 p sh := fun p sh h => by rw [e19]; exact oq_nw h
  replace hn19 : wn w19 = n + 10 := hn19
  replace hq := f19 _ _ hq
  clear ho19
  refine wp_putC d_Rl_init_86 fl_Rl_39 (Or.inr rfl) (Or.inr dcc_5) cl_5 ⟨rfl, Or.inr ⟨_, rfl⟩⟩ hq (fun w20 e20 => ?_)
  have f20 : ∀ p sh, oq w19 p sh → oq w20 p sh := fun p sh h => by rw [e20]; exact h
  have hn20 : wn w20 = n + 10 := by rw [e20]; exact hn19
  replace hq := f20 _ _ hq
  refine wp_aload_n d_Rl_init_89 rfl 0 rfl ?_
  refine wp_sipush d_Rl_init_90 (by decide) (by decide) ?_
  refine wp_newarrG (N := 180) (t := 1) hn20 d_Rl_init_93 rfl (Or.inl ⟨rfl, rfl⟩) wd_c4 (by decide) (bl hb (a := 10) (by decide)) (k2 := (11, 1230)) rfl (by decide) (fun w21 e21 hn21 ho21 => ?_)
  have f21 : ∀ p sh, oq w20 p sh → oq w21 p sh := fun p sh h => by rw [e21]; exact oq_nw h
  replace hn21 : wn w21 = n + 11 := hn21
  replace hq := f21 _ _ hq
  clear ho21
  refine wp_putC d_Rl_init_95 fl_Rl_42 (Or.inr rfl) (Or.inr dcc_5) cl_5 ⟨rfl, Or.inr ⟨_, rfl⟩⟩ hq (fun w22 e22 => ?_)
  have f22 : ∀ p sh, oq w21 p sh → oq w22 p sh := fun p sh h => by rw [e22]; exact h
  have hn22 : wn w22 = n + 11 := by rw [e22]; exact hn21
  replace hq := f22 _ _ hq
  exact wp_vret d_Rl_init_98 rfl (by decide) ⟨rfl, by rw [e22, e21, e20, e19, e18, e17, e16, e15, e14, e13, e12, e11, e10, e9, e8, e7, e6, e5, e4, e3, e2, e1]; rfl⟩
def bkW (n q : Nat) (w : Wo) : Wo := uP (nw (uP (nw (uP (nw (uP (nw (uP (nw (uP (nw (uP (rlW (n + 1) (n + 1) (nw (w) (0, 5))) q 0 (n + 1)) (2, 16)) q 2 (n + 13)) (1, 16)) q 3 (n + 14)) (1, 16)) q 4 (n + 15)) (1, 16)) q 5 (n + 16)) (1, 16)) q 6 (n + 17)) (1, 16)) q 7 (n + 18)
theorem st_bk {n q : Nat} {w : Wo} (hn : wn w = n) (hq : q ≤ n) : StC q 18 w (bkW n q w) := by
  exact (((((((((((((((StC.rf).nw).call (st_rl (congrArg (· + 1) hn) (by omega)) (Or.inr (by omega))).uP (Or.inl rfl)).nw).uP (Or.inl rfl)).nw).uP (Or.inl rfl)).nw).uP (Or.inl rfl)).nw).uP (Or.inl rfl)).nw).uP (Or.inl rfl)).nw).uP (Or.inl rfl)
theorem i_bk {n q : Nat} {w : Wo} (hn : wn w = n) (hb : n + 18 ≤ 1000) (hq : oq w q (0, 0)) : MetS false m_Bk_init [vr q] w (fun r w' => r = none ∧ w' = bkW n q w) := by
  have hqn : q ≤ n := by rw [← hn]; exact hq.2.1
  have hq0 : 0 < q := hq.1
  refine met_of (by decide) rfl (Nat.le_of_ble_eq_true rfl) ?_
  show WpG false false m_Bk_init 0 [(0, vr q)] [] (0, 0) w _
  refine wp_aload_n d_Bk_init_0 rfl 0 rfl ?_
  refine wp_objinit d_Bk_init_1 wd_c10 wd_c1 wd_c2 hq.1 (qle hqn hb) (by decide) (by decide) ?_
  refine wp_aload_n d_Bk_init_4 rfl 0 rfl ?_
  refine wp_newG hn d_Bk_init_5 cl_5 nl_Bk_init_9 df_5 (bl hb (a := 0) (by decide)) (k2 := (1, 12)) rfl (by decide) (fun w1 e1 hn1 ho1 => ?_)
  have f1 : ∀ p sh, oq w p sh → oq w1 p sh := fun p sh h => by rw [e1]; exact oq_nw h
  replace hn1 : wn w1 = n + 1 := hn1
  replace hq := f1 _ _ hq
  replace ho1 : oq w1 (n + 1) (0, 5) := ho1
  refine wp_dup d_Bk_init_8 rfl ?_
  refine wp_callCN (q := (n + 1)) (A := []) (S := [vr (n + 1), vr q]) d_Bk_init_9 cac_Bk_init_Rl_init rfl (by decide) wd_c11 rfl (bp (by decide)) (bb hb (by decide)) rfl (Nat.le_of_ble_eq_true rfl) (by decide) (MetS.mono (i_rl hn1 (bbc hb (a := 1) (by decide)) ho1) (fun r w2 hh => ?_))
  obtain ⟨rfl, e2⟩ := hh
  have s2 : StC (n + 1) 11 w1 w2 := by rw [e2]; exact st_rl hn1 (Nat.le_refl _)
  have hn2 : wn w2 = n + 12 := by rw [s2.1, hn1]
  replace hq := s2.2.1 _ _ hq
  replace ho1 := s2.2.1 _ _ ho1
  show WpG _ _ _ _ _ ([vr (n + 1), vr q]) (12, 1242) _ _
  refine wp_putC d_Bk_init_12 fl_Bk_12 (Or.inr rfl) (Or.inr dcc_0) cl_0 ⟨rfl, Or.inl ⟨_, rfl⟩⟩ hq (fun w3 e3 => ?_)
  have f3 : ∀ p sh, oq w2 p sh → oq w3 p sh := fun p sh h => by rw [e3]; exact h
  have hn3 : wn w3 = n + 12 := by rw [e3]; exact hn2
  replace hq := f3 _ _ hq
  replace ho1 := f3 _ _ ho1
  refine wp_aload_n d_Bk_init_15 rfl 0 rfl ?_
  refine wp_bipush d_Bk_init_16 (by decide) (by decide) ?_
  refine wp_newarrG (N := 16) (t := 2) hn3 d_Bk_init_18 rfl (Or.inr (Or.inl ⟨rfl, rfl⟩)) wd_c3 (by decide) (bl hb (a := 12) (by decide)) (k2 := (13, 1258)) rfl (by decide) (fun w4 e4 hn4 ho4 => ?_)
  have f4 : ∀ p sh, oq w3 p sh → oq w4 p sh := fun p sh h => by rw [e4]; exact oq_nw h
  replace hn4 : wn w4 = n + 13 := hn4
  replace hq := f4 _ _ hq
  replace ho1 := f4 _ _ ho1
  clear ho4
  refine wp_putC d_Bk_init_20 fl_Bk_18 (Or.inr rfl) (Or.inr dcc_0) cl_0 ⟨rfl, Or.inr ⟨_, rfl⟩⟩ hq (fun w5 e5 => ?_)
  have f5 : ∀ p sh, oq w4 p sh → oq w5 p sh := fun p sh h => by rw [e5]; exact h
  have hn5 : wn w5 = n + 13 := by rw [e5]; exact hn4
  replace hq := f5 _ _ hq
  replace ho1 := f5 _ _ ho1
  refine wp_aload_n d_Bk_init_23 rfl 0 rfl ?_
  refine wp_bipush d_Bk_init_24 (by decide) (by decide) ?_
  refine wp_newarrG (N := 16) (t := 1) hn5 d_Bk_init_26 rfl (Or.inl ⟨rfl, rfl⟩) wd_c4 (by decide) (bl hb (a := 13) (by decide)) (k2 := (14, 1274)) rfl (by decide) (fun w6 e6 hn6 ho6 => ?_)
  have f6 : ∀ p sh, oq w5 p sh → oq w6 p sh := fun p sh h => by rw [e6]; exact oq_nw h
  replace hn6 : wn w6 = n + 14 := hn6
  replace hq := f6 _ _ hq
  replace ho1 := f6 _ _ ho1
  clear ho6
  refine wp_putC d_Bk_init_28 fl_Bk_22 (Or.inr rfl) (Or.inr dcc_0) cl_0 ⟨rfl, Or.inr ⟨_, rfl⟩⟩ hq (fun w7 e7 => ?_)
  have f7 : ∀ p sh, oq w6 p sh → oq w7 p sh := fun p sh h => by rw [e7]; exact h
  have hn7 : wn w7 = n + 14 := by rw [e7]; exact hn6
  replace hq := f7 _ _ hq
  replace ho1 := f7 _ _ ho1
  refine wp_aload_n d_Bk_init_31 rfl 0 rfl ?_
  refine wp_bipush d_Bk_init_32 (by decide) (by decide) ?_
  refine wp_newarrG (N := 16) (t := 1) hn7 d_Bk_init_34 rfl (Or.inl ⟨rfl, rfl⟩) wd_c4 (by decide) (bl hb (a := 14) (by decide)) (k2 := (15, 1290)) rfl (by decide) (fun w8 e8 hn8 ho8 => ?_)
  have f8 : ∀ p sh, oq w7 p sh → oq w8 p sh := fun p sh h => by rw [e8]; exact oq_nw h
  replace hn8 : wn w8 = n + 15 := hn8
  replace hq := f8 _ _ hq
  replace ho1 := f8 _ _ ho1
  clear ho8
  refine wp_putC d_Bk_init_36 fl_Bk_26 (Or.inr rfl) (Or.inr dcc_0) cl_0 ⟨rfl, Or.inr ⟨_, rfl⟩⟩ hq (fun w9 e9 => ?_)
  have f9 : ∀ p sh, oq w8 p sh → oq w9 p sh := fun p sh h => by rw [e9]; exact h
  have hn9 : wn w9 = n + 15 := by rw [e9]; exact hn8
  replace hq := f9 _ _ hq
  replace ho1 := f9 _ _ ho1
  refine wp_aload_n d_Bk_init_39 rfl 0 rfl ?_
  refine wp_bipush d_Bk_init_40 (by decide) (by decide) ?_
  refine wp_newarrG (N := 16) (t := 1) hn9 d_Bk_init_42 rfl (Or.inl ⟨rfl, rfl⟩) wd_c4 (by decide) (bl hb (a := 15) (by decide)) (k2 := (16, 1306)) rfl (by decide) (fun w10 e10 hn10 ho10 => ?_)
  have f10 : ∀ p sh, oq w9 p sh → oq w10 p sh := fun p sh h => by rw [e10]; exact oq_nw h
  replace hn10 : wn w10 = n + 16 := hn10
  replace hq := f10 _ _ hq
  replace ho1 := f10 _ _ ho1
  clear ho10
  refine wp_putC d_Bk_init_44 fl_Bk_29 (Or.inr rfl) (Or.inr dcc_0) cl_0 ⟨rfl, Or.inr ⟨_, rfl⟩⟩ hq (fun w11 e11 => ?_)
  have f11 : ∀ p sh, oq w10 p sh → oq w11 p sh := fun p sh h => by rw [e11]; exact h
  have hn11 : wn w11 = n + 16 := by rw [e11]; exact hn10
  replace hq := f11 _ _ hq
  replace ho1 := f11 _ _ ho1
  refine wp_aload_n d_Bk_init_47 rfl 0 rfl ?_
  refine wp_bipush d_Bk_init_48 (by decide) (by decide) ?_
  refine wp_newarrG (N := 16) (t := 1) hn11 d_Bk_init_50 rfl (Or.inl ⟨rfl, rfl⟩) wd_c4 (by decide) (bl hb (a := 16) (by decide)) (k2 := (17, 1322)) rfl (by decide) (fun w12 e12 hn12 ho12 => ?_)
  have f12 : ∀ p sh, oq w11 p sh → oq w12 p sh := fun p sh h => by rw [e12]; exact oq_nw h
  replace hn12 : wn w12 = n + 17 := hn12
  replace hq := f12 _ _ hq
  replace ho1 := f12 _ _ ho1
  clear ho12
  refine wp_putC d_Bk_init_52 fl_Bk_32 (Or.inr rfl) (Or.inr dcc_0) cl_0 ⟨rfl, Or.inr ⟨_, rfl⟩⟩ hq (fun w13 e13 => ?_)
  have f13 : ∀ p sh, oq w12 p sh → oq w13 p sh := fun p sh h => by rw [e13]; exact h
  have hn13 : wn w13 = n + 17 := by rw [e13]; exact hn12
  replace hq := f13 _ _ hq
  replace ho1 := f13 _ _ ho1
  refine wp_aload_n d_Bk_init_55 rfl 0 rfl ?_
  refine wp_bipush d_Bk_init_56 (by decide) (by decide) ?_
  refine wp_newarrG (N := 16) (t := 1) hn13 d_Bk_init_58 rfl (Or.inl ⟨rfl, rfl⟩) wd_c4 (by decide) (bl hb (a := 17) (by decide)) (k2 := (18, 1338)) rfl (by decide) (fun w14 e14 hn14 ho14 => ?_)
  have f14 : ∀ p sh, oq w13 p sh → oq w14 p sh := fun p sh h => by rw [e14]; exact oq_nw h
  replace hn14 : wn w14 = n + 18 := hn14
  replace hq := f14 _ _ hq
  replace ho1 := f14 _ _ ho1
  clear ho14
  refine wp_putC d_Bk_init_60 fl_Bk_35 (Or.inr rfl) (Or.inr dcc_0) cl_0 ⟨rfl, Or.inr ⟨_, rfl⟩⟩ hq (fun w15 e15 => ?_)
  have f15 : ∀ p sh, oq w14 p sh → oq w15 p sh := fun p sh h => by rw [e15]; exact h
  have hn15 : wn w15 = n + 18 := by rw [e15]; exact hn14
  replace hq := f15 _ _ hq
  replace ho1 := f15 _ _ ho1
  exact wp_vret d_Bk_init_63 rfl (by decide) ⟨rfl, by rw [e15, e14, e13, e12, e11, e10, e9, e8, e7, e6, e5, e4, e3, e2, e1]; rfl⟩
def clW (n q : Nat) (w : Wo) : Wo := uP (ltW (n + 25) (n + 25) (nw (uP (ltW (n + 22) (n + 22) (nw (uP (ltW (n + 19) (n + 19) (nw (uP (ltW (n + 16) (n + 16) (nw (uP (ltW (n + 13) (n + 13) (nw (uP (ltW (n + 10) (n + 10) (nw (uP (nw (uP (nw (uP (nw (uP (nw (uP (nw (uP (nw (uP (ltW (n + 1) (n + 1) (nw (w) (0, 3))) q 0 (n + 1)) (5, 6)) q 1 (n + 4)) (2, 8)) q 7 (n + 5)) (1, 8)) q 8 (n + 6)) (1, 6)) q 9 (n + 7)) (1, 6)) q 10 (n + 8)) (1, 6)) q 11 (n + 9)) (0, 3))) (n + 4) 0 (n + 10)) (0, 3))) (n + 4) 1 (n + 13)) (0, 3))) (n + 4) 2 (n + 16)) (0, 3))) (n + 4) 3 (n + 19)) (0, 3))) (n + 4) 4 (n + 22)) (0, 3))) (n + 4) 5 (n + 25)
theorem st_cl {n q : Nat} {w : Wo} (hn : wn w = n) (hq : q ≤ n) : StC q 27 w (clW n q w) := by
  exact (((((((((((((((((((((((((((((((((StC.rf).nw).call (st_lt (congrArg (· + 1) hn) (by omega)) (Or.inr (by omega))).uP (Or.inl rfl)).nw).uP (Or.inl rfl)).nw).uP (Or.inl rfl)).nw).uP (Or.inl rfl)).nw).uP (Or.inl rfl)).nw).uP (Or.inl rfl)).nw).uP (Or.inl rfl)).nw).call (st_lt (congrArg (· + 10) hn) (by omega)) (Or.inr (by omega))).uP (Or.inr (by omega))).nw).call (st_lt (congrArg (· + 13) hn) (by omega)) (Or.inr (by omega))).uP (Or.inr (by omega))).nw).call (st_lt (congrArg (· + 16) hn) (by omega)) (Or.inr (by omega))).uP (Or.inr (by omega))).nw).call (st_lt (congrArg (· + 19) hn) (by omega)) (Or.inr (by omega))).uP (Or.inr (by omega))).nw).call (st_lt (congrArg (· + 22) hn) (by omega)) (Or.inr (by omega))).uP (Or.inr (by omega))).nw).call (st_lt (congrArg (· + 25) hn) (by omega)) (Or.inr (by omega))).uP (Or.inr (by omega))
theorem i_cl {n q : Nat} {w : Wo} (hn : wn w = n) (hb : n + 27 ≤ 1000) (hq : oq w q (0, 1)) : MetS false m_Cl_init [vr q] w (fun r w' => r = none ∧ w' = clW n q w) := by
  have hqn : q ≤ n := by rw [← hn]; exact hq.2.1
  have hq0 : 0 < q := hq.1
  refine met_of (by decide) rfl (Nat.le_of_ble_eq_true rfl) ?_
  show WpG false false m_Cl_init 0 [(0, vr q)] [] (0, 0) w _
  refine wp_aload_n d_Cl_init_0 rfl 0 rfl ?_
  refine wp_objinit d_Cl_init_1 wd_c12 wd_c1 wd_c2 hq.1 (qle hqn hb) (by decide) (by decide) ?_
  refine wp_aload_n d_Cl_init_4 rfl 0 rfl ?_
  refine wp_newG hn d_Cl_init_5 cl_3 nl_Cl_init_9 df_3 (bl hb (a := 0) (by decide)) (k2 := (1, 7)) rfl (by decide) (fun w1 e1 hn1 ho1 => ?_)
  have f1 : ∀ p sh, oq w p sh → oq w1 p sh := fun p sh h => by rw [e1]; exact oq_nw h
  replace hn1 : wn w1 = n + 1 := hn1
  replace hq := f1 _ _ hq
  replace ho1 : oq w1 (n + 1) (0, 3) := ho1
  refine wp_dup d_Cl_init_8 rfl ?_
  refine wp_callCN (q := (n + 1)) (A := []) (S := [vr (n + 1), vr q]) d_Cl_init_9 cac_Cl_init_Lt_init rfl (by decide) wd_c13 rfl (bp (by decide)) (bb hb (by decide)) rfl (Nat.le_of_ble_eq_true rfl) (by decide) (MetS.mono (i_lt hn1 (bbc hb (a := 1) (by decide)) ho1) (fun r w2 hh => ?_))
  obtain ⟨rfl, e2⟩ := hh
  have s2 : StC (n + 1) 2 w1 w2 := by rw [e2]; exact st_lt hn1 (Nat.le_refl _)
  have hn2 : wn w2 = n + 3 := by rw [s2.1, hn1]
  replace hq := s2.2.1 _ _ hq
  replace ho1 := s2.2.1 _ _ ho1
  show WpG _ _ _ _ _ ([vr (n + 1), vr q]) (3, 15) _ _
  refine wp_putC d_Cl_init_12 fl_Cl_12 (Or.inr rfl) (Or.inr dcc_1) cl_1 ⟨rfl, Or.inl ⟨_, rfl⟩⟩ hq (fun w3 e3 => ?_)
  have f3 : ∀ p sh, oq w2 p sh → oq w3 p sh := fun p sh h => by rw [e3]; exact h
  have hn3 : wn w3 = n + 3 := by rw [e3]; exact hn2
  replace hq := f3 _ _ hq
  replace ho1 := f3 _ _ ho1
  refine wp_aload_n d_Cl_init_15 rfl 0 rfl ?_
  refine wp_bipush d_Cl_init_16 (by decide) (by decide) ?_
  refine wp_anewLitG (N := 6) hn3 d_Cl_init_18 wd_c14 (by decide) (bl hb (a := 3) (by decide)) (k2 := (4, 21)) rfl (by decide) (fun w4 e4 hn4 ho4 => ?_)
  have f4 : ∀ p sh, oq w3 p sh → oq w4 p sh := fun p sh h => by rw [e4]; exact oq_nw h
  replace hn4 : wn w4 = n + 4 := hn4
  replace hq := f4 _ _ hq
  replace ho1 := f4 _ _ ho1
  refine wp_putC d_Cl_init_21 fl_Cl_18 (Or.inr rfl) (Or.inr dcc_1) cl_1 ⟨rfl, Or.inr ⟨_, rfl⟩⟩ hq (fun w5 e5 => ?_)
  have f5 : ∀ p sh, oq w4 p sh → oq w5 p sh := fun p sh h => by rw [e5]; exact h
  have hn5 : wn w5 = n + 4 := by rw [e5]; exact hn4
  replace hq := f5 _ _ hq
  replace ho1 := f5 _ _ ho1
  replace ho4 := f5 _ _ ho4
  have hB : gP w5 q 1 = (n + 4) := by rw [e5]; exact if_pos ⟨rfl, rfl⟩
  refine wp_aload_n d_Cl_init_24 rfl 0 rfl ?_
  refine wp_bipush d_Cl_init_25 (by decide) (by decide) ?_
  refine wp_newarrG (N := 8) (t := 2) hn5 d_Cl_init_27 rfl (Or.inr (Or.inl ⟨rfl, rfl⟩)) wd_c3 (by decide) (bl hb (a := 4) (by decide)) (k2 := (5, 29)) rfl (by decide) (fun w6 e6 hn6 ho6 => ?_)
  have f6 : ∀ p sh, oq w5 p sh → oq w6 p sh := fun p sh h => by rw [e6]; exact oq_nw h
  replace hn6 : wn w6 = n + 5 := hn6
  replace hq := f6 _ _ hq
  replace ho1 := f6 _ _ ho1
  replace ho4 := f6 _ _ ho4
  replace hB : gP w6 q 1 = (n + 4) := by rw [e6, gP_nw (qln hqn hn5)]; exact hB
  clear ho6
  refine wp_putC d_Cl_init_29 fl_Cl_22 (Or.inr rfl) (Or.inr dcc_1) cl_1 ⟨rfl, Or.inr ⟨_, rfl⟩⟩ hq (fun w7 e7 => ?_)
  have f7 : ∀ p sh, oq w6 p sh → oq w7 p sh := fun p sh h => by rw [e7]; exact h
  have hn7 : wn w7 = n + 5 := by rw [e7]; exact hn6
  replace hq := f7 _ _ hq
  replace ho1 := f7 _ _ ho1
  replace ho4 := f7 _ _ ho4
  replace hB : gP w7 q 1 = (n + 4) := by rw [e7, gP_uPn (fun z => absurd z.2 (by decide))]; exact hB
  refine wp_aload_n d_Cl_init_32 rfl 0 rfl ?_
  refine wp_bipush d_Cl_init_33 (by decide) (by decide) ?_
  refine wp_newarrG (N := 8) (t := 1) hn7 d_Cl_init_35 rfl (Or.inl ⟨rfl, rfl⟩) wd_c4 (by decide) (bl hb (a := 5) (by decide)) (k2 := (6, 37)) rfl (by decide) (fun w8 e8 hn8 ho8 => ?_)
  have f8 : ∀ p sh, oq w7 p sh → oq w8 p sh := fun p sh h => by rw [e8]; exact oq_nw h
  replace hn8 : wn w8 = n + 6 := hn8
  replace hq := f8 _ _ hq
  replace ho1 := f8 _ _ ho1
  replace ho4 := f8 _ _ ho4
  replace hB : gP w8 q 1 = (n + 4) := by rw [e8, gP_nw (qln hqn hn7)]; exact hB
  clear ho8
  refine wp_putC d_Cl_init_37 fl_Cl_26 (Or.inr rfl) (Or.inr dcc_1) cl_1 ⟨rfl, Or.inr ⟨_, rfl⟩⟩ hq (fun w9 e9 => ?_)
  have f9 : ∀ p sh, oq w8 p sh → oq w9 p sh := fun p sh h => by rw [e9]; exact h
  have hn9 : wn w9 = n + 6 := by rw [e9]; exact hn8
  replace hq := f9 _ _ hq
  replace ho1 := f9 _ _ ho1
  replace ho4 := f9 _ _ ho4
  replace hB : gP w9 q 1 = (n + 4) := by rw [e9, gP_uPn (fun z => absurd z.2 (by decide))]; exact hB
  refine wp_aload_n d_Cl_init_40 rfl 0 rfl ?_
  refine wp_bipush d_Cl_init_41 (by decide) (by decide) ?_
  refine wp_newarrG (N := 6) (t := 1) hn9 d_Cl_init_43 rfl (Or.inl ⟨rfl, rfl⟩) wd_c4 (by decide) (bl hb (a := 6) (by decide)) (k2 := (7, 43)) rfl (by decide) (fun w10 e10 hn10 ho10 => ?_)
  have f10 : ∀ p sh, oq w9 p sh → oq w10 p sh := fun p sh h => by rw [e10]; exact oq_nw h
  replace hn10 : wn w10 = n + 7 := hn10
  replace hq := f10 _ _ hq
  replace ho1 := f10 _ _ ho1
  replace ho4 := f10 _ _ ho4
  replace hB : gP w10 q 1 = (n + 4) := by rw [e10, gP_nw (qln hqn hn9)]; exact hB
  clear ho10
  refine wp_putC d_Cl_init_45 fl_Cl_30 (Or.inr rfl) (Or.inr dcc_1) cl_1 ⟨rfl, Or.inr ⟨_, rfl⟩⟩ hq (fun w11 e11 => ?_)
  have f11 : ∀ p sh, oq w10 p sh → oq w11 p sh := fun p sh h => by rw [e11]; exact h
  have hn11 : wn w11 = n + 7 := by rw [e11]; exact hn10
  replace hq := f11 _ _ hq
  replace ho1 := f11 _ _ ho1
  replace ho4 := f11 _ _ ho4
  replace hB : gP w11 q 1 = (n + 4) := by rw [e11, gP_uPn (fun z => absurd z.2 (by decide))]; exact hB
  refine wp_aload_n d_Cl_init_48 rfl 0 rfl ?_
  refine wp_bipush d_Cl_init_49 (by decide) (by decide) ?_
  refine wp_newarrG (N := 6) (t := 1) hn11 d_Cl_init_51 rfl (Or.inl ⟨rfl, rfl⟩) wd_c4 (by decide) (bl hb (a := 7) (by decide)) (k2 := (8, 49)) rfl (by decide) (fun w12 e12 hn12 ho12 => ?_)
  have f12 : ∀ p sh, oq w11 p sh → oq w12 p sh := fun p sh h => by rw [e12]; exact oq_nw h
  replace hn12 : wn w12 = n + 8 := hn12
  replace hq := f12 _ _ hq
  replace ho1 := f12 _ _ ho1
  replace ho4 := f12 _ _ ho4
  replace hB : gP w12 q 1 = (n + 4) := by rw [e12, gP_nw (qln hqn hn11)]; exact hB
  clear ho12
  refine wp_putC d_Cl_init_53 fl_Cl_33 (Or.inr rfl) (Or.inr dcc_1) cl_1 ⟨rfl, Or.inr ⟨_, rfl⟩⟩ hq (fun w13 e13 => ?_)
  have f13 : ∀ p sh, oq w12 p sh → oq w13 p sh := fun p sh h => by rw [e13]; exact h
  have hn13 : wn w13 = n + 8 := by rw [e13]; exact hn12
  replace hq := f13 _ _ hq
  replace ho1 := f13 _ _ ho1
  replace ho4 := f13 _ _ ho4
  replace hB : gP w13 q 1 = (n + 4) := by rw [e13, gP_uPn (fun z => absurd z.2 (by decide))]; exact hB
  refine wp_aload_n d_Cl_init_56 rfl 0 rfl ?_
  refine wp_bipush d_Cl_init_57 (by decide) (by decide) ?_
  refine wp_newarrG (N := 6) (t := 1) hn13 d_Cl_init_59 rfl (Or.inl ⟨rfl, rfl⟩) wd_c4 (by decide) (bl hb (a := 8) (by decide)) (k2 := (9, 55)) rfl (by decide) (fun w14 e14 hn14 ho14 => ?_)
  have f14 : ∀ p sh, oq w13 p sh → oq w14 p sh := fun p sh h => by rw [e14]; exact oq_nw h
  replace hn14 : wn w14 = n + 9 := hn14
  replace hq := f14 _ _ hq
  replace ho1 := f14 _ _ ho1
  replace ho4 := f14 _ _ ho4
  replace hB : gP w14 q 1 = (n + 4) := by rw [e14, gP_nw (qln hqn hn13)]; exact hB
  clear ho14
  refine wp_putC d_Cl_init_61 fl_Cl_36 (Or.inr rfl) (Or.inr dcc_1) cl_1 ⟨rfl, Or.inr ⟨_, rfl⟩⟩ hq (fun w15 e15 => ?_)
  have f15 : ∀ p sh, oq w14 p sh → oq w15 p sh := fun p sh h => by rw [e15]; exact h
  have hn15 : wn w15 = n + 9 := by rw [e15]; exact hn14
  replace hq := f15 _ _ hq
  replace ho1 := f15 _ _ ho1
  replace ho4 := f15 _ _ ho4
  replace hB : gP w15 q 1 = (n + 4) := by rw [e15, gP_uPn (fun z => absurd z.2 (by decide))]; exact hB
  refine wp_iconst d_Cl_init_64 (by decide) ?_
  refine wp_istore_n d_Cl_init_65 rfl rfl (by decide) ?_
  refine wp_iload_n d_Cl_init_66 rfl 0 rfl ?_
  refine wp_aload_n d_Cl_init_67 rfl 1 rfl ?_
  refine wp_getP d_Cl_init_68 fl_Cl_18 cl_1 rfl hq hB ?_
  refine wp_alen (t := 5) (n := 6) d_Cl_init_71 ho4 (by decide) (by decide) ?_
  refine wp_icmp_ge (tgt := 94) d_Cl_init_72 (by decide) (fun h => absurd h (by decide)) (fun _ => ?_)
  refine wp_aload_n d_Cl_init_75 rfl 1 rfl ?_
  refine wp_getP d_Cl_init_76 fl_Cl_18 cl_1 rfl hq hB ?_
  refine wp_iload_n d_Cl_init_79 rfl 0 rfl ?_
  refine wp_newG hn15 d_Cl_init_80 cl_3 nl_Cl_init_9 df_3 (bl hb (a := 9) (by decide)) (k2 := (10, 62)) rfl (by decide) (fun w16 e16 hn16 ho16 => ?_)
  have f16 : ∀ p sh, oq w15 p sh → oq w16 p sh := fun p sh h => by rw [e16]; exact oq_nw h
  replace hn16 : wn w16 = n + 10 := hn16
  replace hq := f16 _ _ hq
  replace ho1 := f16 _ _ ho1
  replace ho4 := f16 _ _ ho4
  replace ho16 : oq w16 (n + 10) (0, 3) := ho16
  replace hB : gP w16 q 1 = (n + 4) := by rw [e16, gP_nw (qln hqn hn15)]; exact hB
  refine wp_dup d_Cl_init_83 rfl ?_
  refine wp_callCN (q := (n + 10)) (A := []) (S := [vr (n + 10), vi 0, vr (n + 4)]) d_Cl_init_84 cac_Cl_init_Lt_init rfl (by decide) wd_c13 rfl (bp (by decide)) (bb hb (by decide)) rfl (Nat.le_of_ble_eq_true rfl) (by decide) (MetS.mono (i_lt hn16 (bbc hb (a := 10) (by decide)) ho16) (fun r w17 hh => ?_))
  obtain ⟨rfl, e17⟩ := hh
  have s17 : StC (n + 10) 2 w16 w17 := by rw [e17]; exact st_lt hn16 (Nat.le_refl _)
  have hn17 : wn w17 = n + 12 := by rw [s17.1, hn16]
  replace hq := s17.2.1 _ _ hq
  replace ho1 := s17.2.1 _ _ ho1
  replace ho4 := s17.2.1 _ _ ho4
  replace ho16 := s17.2.1 _ _ ho16
  replace hB : gP w17 q 1 = (n + 4) := by rw [s17.2.2 _ _ (qln hqn hn16) (fun z => qne hqn (by decide) z)]; exact hB
  show WpG _ _ _ _ _ ([vr (n + 10), vi 0, vr (n + 4)]) (12, 70) _ _
  refine wp_aastLit d_Cl_init_87 (a := (n + 4)) (v := (n + 10)) (i := 0) (inA5 ho4 (by decide)) ho16 ?_
  obtain ⟨w18, e18⟩ : ∃ w1, w1 = uP w17 (n + 4) 0 (n + 10) := ⟨_, rfl⟩
  show WpG _ _ _ _ _ _ _ (uP w17 (n + 4) 0 (n + 10)) _
  rw [← e18]
  have f18 : ∀ p sh, oq w17 p sh → oq w18 p sh := fun p sh h => by rw [e18]; exact h
  have hn18 : wn w18 = n + 12 := by rw [e18]; exact hn17
  replace hq := f18 _ _ hq
  replace ho1 := f18 _ _ ho1
  replace ho4 := f18 _ _ ho4
  replace ho16 := f18 _ _ ho16
  replace hB : gP w18 q 1 = (n + 4) := by rw [e18, gP_uPn (fun z => qne hqn (by decide) z.1)]; exact hB
  refine wp_iinc d_Cl_init_88 0 rfl rfl (by decide) (by decide) ?_
  refine wp_goto (tgt := 66) d_Cl_init_91 (by decide) ?_
  refine wp_iload_n d_Cl_init_66 rfl 0 rfl ?_
  refine wp_aload_n d_Cl_init_67 rfl 1 rfl ?_
  refine wp_getP d_Cl_init_68 fl_Cl_18 cl_1 rfl hq hB ?_
  refine wp_alen (t := 5) (n := 6) d_Cl_init_71 ho4 (by decide) (by decide) ?_
  refine wp_icmp_ge (tgt := 94) d_Cl_init_72 (by decide) (fun h => absurd h (by decide)) (fun _ => ?_)
  refine wp_aload_n d_Cl_init_75 rfl 1 rfl ?_
  refine wp_getP d_Cl_init_76 fl_Cl_18 cl_1 rfl hq hB ?_
  refine wp_iload_n d_Cl_init_79 rfl 0 rfl ?_
  refine wp_newG hn18 d_Cl_init_80 cl_3 nl_Cl_init_9 df_3 (bl hb (a := 12) (by decide)) (k2 := (13, 77)) rfl (by decide) (fun w19 e19 hn19 ho19 => ?_)
  have f19 : ∀ p sh, oq w18 p sh → oq w19 p sh := fun p sh h => by rw [e19]; exact oq_nw h
  replace hn19 : wn w19 = n + 13 := hn19
  replace hq := f19 _ _ hq
  replace ho1 := f19 _ _ ho1
  replace ho4 := f19 _ _ ho4
  replace ho16 := f19 _ _ ho16
  replace ho19 : oq w19 (n + 13) (0, 3) := ho19
  replace hB : gP w19 q 1 = (n + 4) := by rw [e19, gP_nw (qln hqn hn18)]; exact hB
  refine wp_dup d_Cl_init_83 rfl ?_
  refine wp_callCN (q := (n + 13)) (A := []) (S := [vr (n + 13), vi 1, vr (n + 4)]) d_Cl_init_84 cac_Cl_init_Lt_init rfl (by decide) wd_c13 rfl (bp (by decide)) (bb hb (by decide)) rfl (Nat.le_of_ble_eq_true rfl) (by decide) (MetS.mono (i_lt hn19 (bbc hb (a := 13) (by decide)) ho19) (fun r w20 hh => ?_))
  obtain ⟨rfl, e20⟩ := hh
  have s20 : StC (n + 13) 2 w19 w20 := by rw [e20]; exact st_lt hn19 (Nat.le_refl _)
  have hn20 : wn w20 = n + 15 := by rw [s20.1, hn19]
  replace hq := s20.2.1 _ _ hq
  replace ho1 := s20.2.1 _ _ ho1
  replace ho4 := s20.2.1 _ _ ho4
  replace ho16 := s20.2.1 _ _ ho16
  replace ho19 := s20.2.1 _ _ ho19
  replace hB : gP w20 q 1 = (n + 4) := by rw [s20.2.2 _ _ (qln hqn hn19) (fun z => qne hqn (by decide) z)]; exact hB
  show WpG _ _ _ _ _ ([vr (n + 13), vi 1, vr (n + 4)]) (15, 85) _ _
  refine wp_aastLit d_Cl_init_87 (a := (n + 4)) (v := (n + 13)) (i := 1) (inA5 ho4 (by decide)) ho19 ?_
  obtain ⟨w21, e21⟩ : ∃ w1, w1 = uP w20 (n + 4) 1 (n + 13) := ⟨_, rfl⟩
  show WpG _ _ _ _ _ _ _ (uP w20 (n + 4) 1 (n + 13)) _
  rw [← e21]
  have f21 : ∀ p sh, oq w20 p sh → oq w21 p sh := fun p sh h => by rw [e21]; exact h
  have hn21 : wn w21 = n + 15 := by rw [e21]; exact hn20
  replace hq := f21 _ _ hq
  replace ho1 := f21 _ _ ho1
  replace ho4 := f21 _ _ ho4
  replace ho16 := f21 _ _ ho16
  replace ho19 := f21 _ _ ho19
  replace hB : gP w21 q 1 = (n + 4) := by rw [e21, gP_uPn (fun z => qne hqn (by decide) z.1)]; exact hB
  refine wp_iinc d_Cl_init_88 0 rfl rfl (by decide) (by decide) ?_
  refine wp_goto (tgt := 66) d_Cl_init_91 (by decide) ?_
  refine wp_iload_n d_Cl_init_66 rfl 0 rfl ?_
  refine wp_aload_n d_Cl_init_67 rfl 1 rfl ?_
  refine wp_getP d_Cl_init_68 fl_Cl_18 cl_1 rfl hq hB ?_
  refine wp_alen (t := 5) (n := 6) d_Cl_init_71 ho4 (by decide) (by decide) ?_
  refine wp_icmp_ge (tgt := 94) d_Cl_init_72 (by decide) (fun h => absurd h (by decide)) (fun _ => ?_)
  refine wp_aload_n d_Cl_init_75 rfl 1 rfl ?_
  refine wp_getP d_Cl_init_76 fl_Cl_18 cl_1 rfl hq hB ?_
  refine wp_iload_n d_Cl_init_79 rfl 0 rfl ?_
  refine wp_newG hn21 d_Cl_init_80 cl_3 nl_Cl_init_9 df_3 (bl hb (a := 15) (by decide)) (k2 := (16, 92)) rfl (by decide) (fun w22 e22 hn22 ho22 => ?_)
  have f22 : ∀ p sh, oq w21 p sh → oq w22 p sh := fun p sh h => by rw [e22]; exact oq_nw h
  replace hn22 : wn w22 = n + 16 := hn22
  replace hq := f22 _ _ hq
  replace ho1 := f22 _ _ ho1
  replace ho4 := f22 _ _ ho4
  replace ho16 := f22 _ _ ho16
  replace ho19 := f22 _ _ ho19
  replace ho22 : oq w22 (n + 16) (0, 3) := ho22
  replace hB : gP w22 q 1 = (n + 4) := by rw [e22, gP_nw (qln hqn hn21)]; exact hB
  refine wp_dup d_Cl_init_83 rfl ?_
  refine wp_callCN (q := (n + 16)) (A := []) (S := [vr (n + 16), vi 2, vr (n + 4)]) d_Cl_init_84 cac_Cl_init_Lt_init rfl (by decide) wd_c13 rfl (bp (by decide)) (bb hb (by decide)) rfl (Nat.le_of_ble_eq_true rfl) (by decide) (MetS.mono (i_lt hn22 (bbc hb (a := 16) (by decide)) ho22) (fun r w23 hh => ?_))
  obtain ⟨rfl, e23⟩ := hh
  have s23 : StC (n + 16) 2 w22 w23 := by rw [e23]; exact st_lt hn22 (Nat.le_refl _)
  have hn23 : wn w23 = n + 18 := by rw [s23.1, hn22]
  replace hq := s23.2.1 _ _ hq
  replace ho1 := s23.2.1 _ _ ho1
  replace ho4 := s23.2.1 _ _ ho4
  replace ho16 := s23.2.1 _ _ ho16
  replace ho19 := s23.2.1 _ _ ho19
  replace ho22 := s23.2.1 _ _ ho22
  replace hB : gP w23 q 1 = (n + 4) := by rw [s23.2.2 _ _ (qln hqn hn22) (fun z => qne hqn (by decide) z)]; exact hB
  show WpG _ _ _ _ _ ([vr (n + 16), vi 2, vr (n + 4)]) (18, 100) _ _
  refine wp_aastLit d_Cl_init_87 (a := (n + 4)) (v := (n + 16)) (i := 2) (inA5 ho4 (by decide)) ho22 ?_
  obtain ⟨w24, e24⟩ : ∃ w1, w1 = uP w23 (n + 4) 2 (n + 16) := ⟨_, rfl⟩
  show WpG _ _ _ _ _ _ _ (uP w23 (n + 4) 2 (n + 16)) _
  rw [← e24]
  have f24 : ∀ p sh, oq w23 p sh → oq w24 p sh := fun p sh h => by rw [e24]; exact h
  have hn24 : wn w24 = n + 18 := by rw [e24]; exact hn23
  replace hq := f24 _ _ hq
  replace ho1 := f24 _ _ ho1
  replace ho4 := f24 _ _ ho4
  replace ho16 := f24 _ _ ho16
  replace ho19 := f24 _ _ ho19
  replace ho22 := f24 _ _ ho22
  replace hB : gP w24 q 1 = (n + 4) := by rw [e24, gP_uPn (fun z => qne hqn (by decide) z.1)]; exact hB
  refine wp_iinc d_Cl_init_88 0 rfl rfl (by decide) (by decide) ?_
  refine wp_goto (tgt := 66) d_Cl_init_91 (by decide) ?_
  refine wp_iload_n d_Cl_init_66 rfl 0 rfl ?_
  refine wp_aload_n d_Cl_init_67 rfl 1 rfl ?_
  refine wp_getP d_Cl_init_68 fl_Cl_18 cl_1 rfl hq hB ?_
  refine wp_alen (t := 5) (n := 6) d_Cl_init_71 ho4 (by decide) (by decide) ?_
  refine wp_icmp_ge (tgt := 94) d_Cl_init_72 (by decide) (fun h => absurd h (by decide)) (fun _ => ?_)
  refine wp_aload_n d_Cl_init_75 rfl 1 rfl ?_
  refine wp_getP d_Cl_init_76 fl_Cl_18 cl_1 rfl hq hB ?_
  refine wp_iload_n d_Cl_init_79 rfl 0 rfl ?_
  refine wp_newG hn24 d_Cl_init_80 cl_3 nl_Cl_init_9 df_3 (bl hb (a := 18) (by decide)) (k2 := (19, 107)) rfl (by decide) (fun w25 e25 hn25 ho25 => ?_)
  have f25 : ∀ p sh, oq w24 p sh → oq w25 p sh := fun p sh h => by rw [e25]; exact oq_nw h
  replace hn25 : wn w25 = n + 19 := hn25
  replace hq := f25 _ _ hq
  replace ho1 := f25 _ _ ho1
  replace ho4 := f25 _ _ ho4
  replace ho16 := f25 _ _ ho16
  replace ho19 := f25 _ _ ho19
  replace ho22 := f25 _ _ ho22
  replace ho25 : oq w25 (n + 19) (0, 3) := ho25
  replace hB : gP w25 q 1 = (n + 4) := by rw [e25, gP_nw (qln hqn hn24)]; exact hB
  refine wp_dup d_Cl_init_83 rfl ?_
  refine wp_callCN (q := (n + 19)) (A := []) (S := [vr (n + 19), vi 3, vr (n + 4)]) d_Cl_init_84 cac_Cl_init_Lt_init rfl (by decide) wd_c13 rfl (bp (by decide)) (bb hb (by decide)) rfl (Nat.le_of_ble_eq_true rfl) (by decide) (MetS.mono (i_lt hn25 (bbc hb (a := 19) (by decide)) ho25) (fun r w26 hh => ?_))
  obtain ⟨rfl, e26⟩ := hh
  have s26 : StC (n + 19) 2 w25 w26 := by rw [e26]; exact st_lt hn25 (Nat.le_refl _)
  have hn26 : wn w26 = n + 21 := by rw [s26.1, hn25]
  replace hq := s26.2.1 _ _ hq
  replace ho1 := s26.2.1 _ _ ho1
  replace ho4 := s26.2.1 _ _ ho4
  replace ho16 := s26.2.1 _ _ ho16
  replace ho19 := s26.2.1 _ _ ho19
  replace ho22 := s26.2.1 _ _ ho22
  replace ho25 := s26.2.1 _ _ ho25
  replace hB : gP w26 q 1 = (n + 4) := by rw [s26.2.2 _ _ (qln hqn hn25) (fun z => qne hqn (by decide) z)]; exact hB
  show WpG _ _ _ _ _ ([vr (n + 19), vi 3, vr (n + 4)]) (21, 115) _ _
  refine wp_aastLit d_Cl_init_87 (a := (n + 4)) (v := (n + 19)) (i := 3) (inA5 ho4 (by decide)) ho25 ?_
  obtain ⟨w27, e27⟩ : ∃ w1, w1 = uP w26 (n + 4) 3 (n + 19) := ⟨_, rfl⟩
  show WpG _ _ _ _ _ _ _ (uP w26 (n + 4) 3 (n + 19)) _
  rw [← e27]
  have f27 : ∀ p sh, oq w26 p sh → oq w27 p sh := fun p sh h => by rw [e27]; exact h
  have hn27 : wn w27 = n + 21 := by rw [e27]; exact hn26
  replace hq := f27 _ _ hq
  replace ho1 := f27 _ _ ho1
  replace ho4 := f27 _ _ ho4
  replace ho16 := f27 _ _ ho16
  replace ho19 := f27 _ _ ho19
  replace ho22 := f27 _ _ ho22
  replace ho25 := f27 _ _ ho25
  replace hB : gP w27 q 1 = (n + 4) := by rw [e27, gP_uPn (fun z => qne hqn (by decide) z.1)]; exact hB
  refine wp_iinc d_Cl_init_88 0 rfl rfl (by decide) (by decide) ?_
  refine wp_goto (tgt := 66) d_Cl_init_91 (by decide) ?_
  refine wp_iload_n d_Cl_init_66 rfl 0 rfl ?_
  refine wp_aload_n d_Cl_init_67 rfl 1 rfl ?_
  refine wp_getP d_Cl_init_68 fl_Cl_18 cl_1 rfl hq hB ?_
  refine wp_alen (t := 5) (n := 6) d_Cl_init_71 ho4 (by decide) (by decide) ?_
  refine wp_icmp_ge (tgt := 94) d_Cl_init_72 (by decide) (fun h => absurd h (by decide)) (fun _ => ?_)
  refine wp_aload_n d_Cl_init_75 rfl 1 rfl ?_
  refine wp_getP d_Cl_init_76 fl_Cl_18 cl_1 rfl hq hB ?_
  refine wp_iload_n d_Cl_init_79 rfl 0 rfl ?_
  refine wp_newG hn27 d_Cl_init_80 cl_3 nl_Cl_init_9 df_3 (bl hb (a := 21) (by decide)) (k2 := (22, 122)) rfl (by decide) (fun w28 e28 hn28 ho28 => ?_)
  have f28 : ∀ p sh, oq w27 p sh → oq w28 p sh := fun p sh h => by rw [e28]; exact oq_nw h
  replace hn28 : wn w28 = n + 22 := hn28
  replace hq := f28 _ _ hq
  replace ho1 := f28 _ _ ho1
  replace ho4 := f28 _ _ ho4
  replace ho16 := f28 _ _ ho16
  replace ho19 := f28 _ _ ho19
  replace ho22 := f28 _ _ ho22
  replace ho25 := f28 _ _ ho25
  replace ho28 : oq w28 (n + 22) (0, 3) := ho28
  replace hB : gP w28 q 1 = (n + 4) := by rw [e28, gP_nw (qln hqn hn27)]; exact hB
  refine wp_dup d_Cl_init_83 rfl ?_
  refine wp_callCN (q := (n + 22)) (A := []) (S := [vr (n + 22), vi 4, vr (n + 4)]) d_Cl_init_84 cac_Cl_init_Lt_init rfl (by decide) wd_c13 rfl (bp (by decide)) (bb hb (by decide)) rfl (Nat.le_of_ble_eq_true rfl) (by decide) (MetS.mono (i_lt hn28 (bbc hb (a := 22) (by decide)) ho28) (fun r w29 hh => ?_))
  obtain ⟨rfl, e29⟩ := hh
  have s29 : StC (n + 22) 2 w28 w29 := by rw [e29]; exact st_lt hn28 (Nat.le_refl _)
  have hn29 : wn w29 = n + 24 := by rw [s29.1, hn28]
  replace hq := s29.2.1 _ _ hq
  replace ho1 := s29.2.1 _ _ ho1
  replace ho4 := s29.2.1 _ _ ho4
  replace ho16 := s29.2.1 _ _ ho16
  replace ho19 := s29.2.1 _ _ ho19
  replace ho22 := s29.2.1 _ _ ho22
  replace ho25 := s29.2.1 _ _ ho25
  replace ho28 := s29.2.1 _ _ ho28
  replace hB : gP w29 q 1 = (n + 4) := by rw [s29.2.2 _ _ (qln hqn hn28) (fun z => qne hqn (by decide) z)]; exact hB
  show WpG _ _ _ _ _ ([vr (n + 22), vi 4, vr (n + 4)]) (24, 130) _ _
  refine wp_aastLit d_Cl_init_87 (a := (n + 4)) (v := (n + 22)) (i := 4) (inA5 ho4 (by decide)) ho28 ?_
  obtain ⟨w30, e30⟩ : ∃ w1, w1 = uP w29 (n + 4) 4 (n + 22) := ⟨_, rfl⟩
  show WpG _ _ _ _ _ _ _ (uP w29 (n + 4) 4 (n + 22)) _
  rw [← e30]
  have f30 : ∀ p sh, oq w29 p sh → oq w30 p sh := fun p sh h => by rw [e30]; exact h
  have hn30 : wn w30 = n + 24 := by rw [e30]; exact hn29
  replace hq := f30 _ _ hq
  replace ho1 := f30 _ _ ho1
  replace ho4 := f30 _ _ ho4
  replace ho16 := f30 _ _ ho16
  replace ho19 := f30 _ _ ho19
  replace ho22 := f30 _ _ ho22
  replace ho25 := f30 _ _ ho25
  replace ho28 := f30 _ _ ho28
  replace hB : gP w30 q 1 = (n + 4) := by rw [e30, gP_uPn (fun z => qne hqn (by decide) z.1)]; exact hB
  refine wp_iinc d_Cl_init_88 0 rfl rfl (by decide) (by decide) ?_
  refine wp_goto (tgt := 66) d_Cl_init_91 (by decide) ?_
  refine wp_iload_n d_Cl_init_66 rfl 0 rfl ?_
  refine wp_aload_n d_Cl_init_67 rfl 1 rfl ?_
  refine wp_getP d_Cl_init_68 fl_Cl_18 cl_1 rfl hq hB ?_
  refine wp_alen (t := 5) (n := 6) d_Cl_init_71 ho4 (by decide) (by decide) ?_
  refine wp_icmp_ge (tgt := 94) d_Cl_init_72 (by decide) (fun h => absurd h (by decide)) (fun _ => ?_)
  refine wp_aload_n d_Cl_init_75 rfl 1 rfl ?_
  refine wp_getP d_Cl_init_76 fl_Cl_18 cl_1 rfl hq hB ?_
  refine wp_iload_n d_Cl_init_79 rfl 0 rfl ?_
  refine wp_newG hn30 d_Cl_init_80 cl_3 nl_Cl_init_9 df_3 (bl hb (a := 24) (by decide)) (k2 := (25, 137)) rfl (by decide) (fun w31 e31 hn31 ho31 => ?_)
  have f31 : ∀ p sh, oq w30 p sh → oq w31 p sh := fun p sh h => by rw [e31]; exact oq_nw h
  replace hn31 : wn w31 = n + 25 := hn31
  replace hq := f31 _ _ hq
  replace ho1 := f31 _ _ ho1
  replace ho4 := f31 _ _ ho4
  replace ho16 := f31 _ _ ho16
  replace ho19 := f31 _ _ ho19
  replace ho22 := f31 _ _ ho22
  replace ho25 := f31 _ _ ho25
  replace ho28 := f31 _ _ ho28
  replace ho31 : oq w31 (n + 25) (0, 3) := ho31
  replace hB : gP w31 q 1 = (n + 4) := by rw [e31, gP_nw (qln hqn hn30)]; exact hB
  refine wp_dup d_Cl_init_83 rfl ?_
  refine wp_callCN (q := (n + 25)) (A := []) (S := [vr (n + 25), vi 5, vr (n + 4)]) d_Cl_init_84 cac_Cl_init_Lt_init rfl (by decide) wd_c13 rfl (bp (by decide)) (bb hb (by decide)) rfl (Nat.le_of_ble_eq_true rfl) (by decide) (MetS.mono (i_lt hn31 (bbc hb (a := 25) (by decide)) ho31) (fun r w32 hh => ?_))
  obtain ⟨rfl, e32⟩ := hh
  have s32 : StC (n + 25) 2 w31 w32 := by rw [e32]; exact st_lt hn31 (Nat.le_refl _)
  have hn32 : wn w32 = n + 27 := by rw [s32.1, hn31]
  replace hq := s32.2.1 _ _ hq
  replace ho1 := s32.2.1 _ _ ho1
  replace ho4 := s32.2.1 _ _ ho4
  replace ho16 := s32.2.1 _ _ ho16
  replace ho19 := s32.2.1 _ _ ho19
  replace ho22 := s32.2.1 _ _ ho22
  replace ho25 := s32.2.1 _ _ ho25
  replace ho28 := s32.2.1 _ _ ho28
  replace ho31 := s32.2.1 _ _ ho31
  replace hB : gP w32 q 1 = (n + 4) := by rw [s32.2.2 _ _ (qln hqn hn31) (fun z => qne hqn (by decide) z)]; exact hB
  show WpG _ _ _ _ _ ([vr (n + 25), vi 5, vr (n + 4)]) (27, 145) _ _
  refine wp_aastLit d_Cl_init_87 (a := (n + 4)) (v := (n + 25)) (i := 5) (inA5 ho4 (by decide)) ho31 ?_
  obtain ⟨w33, e33⟩ : ∃ w1, w1 = uP w32 (n + 4) 5 (n + 25) := ⟨_, rfl⟩
  show WpG _ _ _ _ _ _ _ (uP w32 (n + 4) 5 (n + 25)) _
  rw [← e33]
  have f33 : ∀ p sh, oq w32 p sh → oq w33 p sh := fun p sh h => by rw [e33]; exact h
  have hn33 : wn w33 = n + 27 := by rw [e33]; exact hn32
  replace hq := f33 _ _ hq
  replace ho1 := f33 _ _ ho1
  replace ho4 := f33 _ _ ho4
  replace ho16 := f33 _ _ ho16
  replace ho19 := f33 _ _ ho19
  replace ho22 := f33 _ _ ho22
  replace ho25 := f33 _ _ ho25
  replace ho28 := f33 _ _ ho28
  replace ho31 := f33 _ _ ho31
  replace hB : gP w33 q 1 = (n + 4) := by rw [e33, gP_uPn (fun z => qne hqn (by decide) z.1)]; exact hB
  refine wp_iinc d_Cl_init_88 0 rfl rfl (by decide) (by decide) ?_
  refine wp_goto (tgt := 66) d_Cl_init_91 (by decide) ?_
  refine wp_iload_n d_Cl_init_66 rfl 0 rfl ?_
  refine wp_aload_n d_Cl_init_67 rfl 1 rfl ?_
  refine wp_getP d_Cl_init_68 fl_Cl_18 cl_1 rfl hq hB ?_
  refine wp_alen (t := 5) (n := 6) d_Cl_init_71 ho4 (by decide) (by decide) ?_
  refine wp_icmp_ge (tgt := 94) d_Cl_init_72 (by decide) (fun _ => ?_) (fun h => absurd h (by decide))
  exact wp_vret d_Cl_init_94 rfl (by decide) ⟨rfl, by rw [e33, e32, e31, e30, e29, e28, e27, e26, e25, e24, e23, e22, e21, e20, e19, e18, e17, e16, e15, e14, e13, e12, e11, e10, e9, e8, e7, e6, e5, e4, e3, e2, e1]; rfl⟩
def rdW (n q : Nat) (w : Wo) : Wo := uP (fcW (n + 33) (n + 33) (nw (uP (clW (n + 5) (n + 5) (nw (uP (tkW (n + 1) (n + 1) (nw (w) (0, 7))) q 0 (n + 1)) (0, 1))) q 1 (n + 5)) (0, 2))) q 2 (n + 33)
theorem st_rd {n q : Nat} {w : Wo} (hn : wn w = n) (hq : q ≤ n) : StC q 35 w (rdW n q w) := by
  exact (((((((((StC.rf).nw).call (st_tk (congrArg (· + 1) hn) (by omega)) (Or.inr (by omega))).uP (Or.inl rfl)).nw).call (st_cl (congrArg (· + 5) hn) (by omega)) (Or.inr (by omega))).uP (Or.inl rfl)).nw).call (st_fc (congrArg (· + 33) hn) (by omega)) (Or.inr (by omega))).uP (Or.inl rfl)
theorem i_rd {n q : Nat} {w : Wo} (hn : wn w = n) (hb : n + 35 ≤ 1000) (hq : oq w q (0, 4)) : MetS false m_Rd_init [vr q] w (fun r w' => r = none ∧ w' = rdW n q w) := by
  have hqn : q ≤ n := by rw [← hn]; exact hq.2.1
  have hq0 : 0 < q := hq.1
  refine met_of (by decide) rfl (Nat.le_of_ble_eq_true rfl) ?_
  show WpG false false m_Rd_init 0 [(0, vr q)] [] (0, 0) w _
  refine wp_aload_n d_Rd_init_0 rfl 0 rfl ?_
  refine wp_objinit d_Rd_init_1 wd_c15 wd_c1 wd_c2 hq.1 (qle hqn hb) (by decide) (by decide) ?_
  refine wp_aload_n d_Rd_init_4 rfl 0 rfl ?_
  refine wp_newG hn d_Rd_init_5 cl_7 nl_Rd_init_9 df_7 (bl hb (a := 0) (by decide)) (k2 := (1, 4)) rfl (by decide) (fun w1 e1 hn1 ho1 => ?_)
  have f1 : ∀ p sh, oq w p sh → oq w1 p sh := fun p sh h => by rw [e1]; exact oq_nw h
  replace hn1 : wn w1 = n + 1 := hn1
  replace hq := f1 _ _ hq
  replace ho1 : oq w1 (n + 1) (0, 7) := ho1
  refine wp_dup d_Rd_init_8 rfl ?_
  refine wp_callCN (q := (n + 1)) (A := []) (S := [vr (n + 1), vr q]) d_Rd_init_9 cac_Rd_init_Tk_init rfl (by decide) wd_c16 rfl (bp (by decide)) (bb hb (by decide)) rfl (Nat.le_of_ble_eq_true rfl) (by decide) (MetS.mono (i_tk hn1 (bbc hb (a := 1) (by decide)) ho1) (fun r w2 hh => ?_))
  obtain ⟨rfl, e2⟩ := hh
  have s2 : StC (n + 1) 3 w1 w2 := by rw [e2]; exact st_tk hn1 (Nat.le_refl _)
  have hn2 : wn w2 = n + 4 := by rw [s2.1, hn1]
  replace hq := s2.2.1 _ _ hq
  replace ho1 := s2.2.1 _ _ ho1
  show WpG _ _ _ _ _ ([vr (n + 1), vr q]) (4, 1807) _ _
  refine wp_putC d_Rd_init_12 fl_Rd_12 (Or.inr rfl) (Or.inr dcc_4) cl_4 ⟨rfl, Or.inl ⟨_, rfl⟩⟩ hq (fun w3 e3 => ?_)
  have f3 : ∀ p sh, oq w2 p sh → oq w3 p sh := fun p sh h => by rw [e3]; exact h
  have hn3 : wn w3 = n + 4 := by rw [e3]; exact hn2
  replace hq := f3 _ _ hq
  replace ho1 := f3 _ _ ho1
  refine wp_aload_n d_Rd_init_15 rfl 0 rfl ?_
  refine wp_newG hn3 d_Rd_init_16 cl_1 nl_Rd_init_18 df_1 (bl hb (a := 4) (by decide)) (k2 := (5, 1819)) rfl (by decide) (fun w4 e4 hn4 ho4 => ?_)
  have f4 : ∀ p sh, oq w3 p sh → oq w4 p sh := fun p sh h => by rw [e4]; exact oq_nw h
  replace hn4 : wn w4 = n + 5 := hn4
  replace hq := f4 _ _ hq
  replace ho1 := f4 _ _ ho1
  replace ho4 : oq w4 (n + 5) (0, 1) := ho4
  refine wp_dup d_Rd_init_19 rfl ?_
  refine wp_callC (q := (n + 5)) (A := []) (S := [vr (n + 5), vr q]) d_Rd_init_20 cac_Rd_init_Cl_init rfl wd_c17 wd_c18 rfl (bp (by decide)) (bb hb (by decide)) rfl (Nat.le_of_ble_eq_true rfl) (by decide) (MetS.mono (i_cl hn4 (bbc hb (a := 5) (by decide)) ho4) (fun r w5 hh => ?_))
  obtain ⟨rfl, e5⟩ := hh
  have s5 : StC (n + 5) 27 w4 w5 := by rw [e5]; exact st_cl hn4 (Nat.le_refl _)
  have hn5 : wn w5 = n + 32 := by rw [s5.1, hn4]
  replace hq := s5.2.1 _ _ hq
  replace ho1 := s5.2.1 _ _ ho1
  replace ho4 := s5.2.1 _ _ ho4
  show WpG _ _ _ _ _ ([vr (n + 5), vr q]) (32, 1964) _ _
  refine wp_putC d_Rd_init_23 fl_Rd_21 (Or.inr rfl) (Or.inr dcc_4) cl_4 ⟨rfl, Or.inl ⟨_, rfl⟩⟩ hq (fun w6 e6 => ?_)
  have f6 : ∀ p sh, oq w5 p sh → oq w6 p sh := fun p sh h => by rw [e6]; exact h
  have hn6 : wn w6 = n + 32 := by rw [e6]; exact hn5
  replace hq := f6 _ _ hq
  replace ho1 := f6 _ _ ho1
  replace ho4 := f6 _ _ ho4
  refine wp_aload_n d_Rd_init_26 rfl 0 rfl ?_
  refine wp_newG hn6 d_Rd_init_27 cl_2 nl_Rd_init_25 df_2 (bl hb (a := 32) (by decide)) (k2 := (33, 1967)) rfl (by decide) (fun w7 e7 hn7 ho7 => ?_)
  have f7 : ∀ p sh, oq w6 p sh → oq w7 p sh := fun p sh h => by rw [e7]; exact oq_nw h
  replace hn7 : wn w7 = n + 33 := hn7
  replace hq := f7 _ _ hq
  replace ho1 := f7 _ _ ho1
  replace ho4 := f7 _ _ ho4
  replace ho7 : oq w7 (n + 33) (0, 2) := ho7
  refine wp_dup d_Rd_init_30 rfl ?_
  refine wp_callCN (q := (n + 33)) (A := []) (S := [vr (n + 33), vr q]) d_Rd_init_31 cac_Rd_init_Fc_init rfl (by decide) wd_c19 rfl (bp (by decide)) (bb hb (by decide)) rfl (Nat.le_of_ble_eq_true rfl) (by decide) (MetS.mono (i_fc hn7 (bbc hb (a := 33) (by decide)) ho7) (fun r w8 hh => ?_))
  obtain ⟨rfl, e8⟩ := hh
  have s8 : StC (n + 33) 2 w7 w8 := by rw [e8]; exact st_fc hn7 (Nat.le_refl _)
  have hn8 : wn w8 = n + 35 := by rw [s8.1, hn7]
  replace hq := s8.2.1 _ _ hq
  replace ho1 := s8.2.1 _ _ ho1
  replace ho4 := s8.2.1 _ _ ho4
  replace ho7 := s8.2.1 _ _ ho7
  show WpG _ _ _ _ _ ([vr (n + 33), vr q]) (35, 2567) _ _
  refine wp_putC d_Rd_init_34 fl_Rd_28 (Or.inr rfl) (Or.inr dcc_4) cl_4 ⟨rfl, Or.inl ⟨_, rfl⟩⟩ hq (fun w9 e9 => ?_)
  have f9 : ∀ p sh, oq w8 p sh → oq w9 p sh := fun p sh h => by rw [e9]; exact h
  have hn9 : wn w9 = n + 35 := by rw [e9]; exact hn8
  replace hq := f9 _ _ hq
  replace ho1 := f9 _ _ ho1
  replace ho4 := f9 _ _ ho4
  replace ho7 := f9 _ _ ho7
  exact wp_vret d_Rd_init_37 rfl (by decide) ⟨rfl, by rw [e9, e8, e7, e6, e5, e4, e3, e2, e1]; rfl⟩
def dW (n q : Nat) (w : Wo) : Wo := uP (bkW (n + 58) (n + 58) (nw (uP (bkW (n + 39) (n + 39) (nw (uP (rdW (n + 3) (n + 3) (nw (uP (tpW (n + 1) (n + 1) (nw (w) (0, 6))) q 0 (n + 1)) (0, 4))) q 1 (n + 3)) (0, 0))) q 2 (n + 39)) (0, 0))) q 3 (n + 58)
theorem st_d {n q : Nat} {w : Wo} (hn : wn w = n) (hq : q ≤ n) : StC q 76 w (dW n q w) := by
  exact ((((((((((((StC.rf).nw).call (st_tp (congrArg (· + 1) hn) (by omega)) (Or.inr (by omega))).uP (Or.inl rfl)).nw).call (st_rd (congrArg (· + 3) hn) (by omega)) (Or.inr (by omega))).uP (Or.inl rfl)).nw).call (st_bk (congrArg (· + 39) hn) (by omega)) (Or.inr (by omega))).uP (Or.inl rfl)).nw).call (st_bk (congrArg (· + 58) hn) (by omega)) (Or.inr (by omega))).uP (Or.inl rfl)
theorem i_d {n q : Nat} {w : Wo} (hn : wn w = n) (hb : n + 76 ≤ 1000) (hq : oq w q (0, 8)) : MetS false m_D_init [vr q] w (fun r w' => r = none ∧ w' = dW n q w) := by
  have hqn : q ≤ n := by rw [← hn]; exact hq.2.1
  have hq0 : 0 < q := hq.1
  refine met_of (by decide) rfl (Nat.le_of_ble_eq_true rfl) ?_
  show WpG false false m_D_init 0 [(0, vr q)] [] (0, 0) w _
  refine wp_aload_n d_D_init_0 rfl 0 rfl ?_
  refine wp_objinit d_D_init_1 wd_c20 wd_c1 wd_c2 hq.1 (qle hqn hb) (by decide) (by decide) ?_
  refine wp_aload_n d_D_init_4 rfl 0 rfl ?_
  refine wp_newG hn d_D_init_5 cl_6 nl_D_init_7 df_6 (bl hb (a := 0) (by decide)) (k2 := (1, 2)) rfl (by decide) (fun w1 e1 hn1 ho1 => ?_)
  have f1 : ∀ p sh, oq w p sh → oq w1 p sh := fun p sh h => by rw [e1]; exact oq_nw h
  replace hn1 : wn w1 = n + 1 := hn1
  replace hq := f1 _ _ hq
  replace ho1 : oq w1 (n + 1) (0, 6) := ho1
  refine wp_dup d_D_init_8 rfl ?_
  refine wp_callCN (q := (n + 1)) (A := []) (S := [vr (n + 1), vr q]) d_D_init_9 cac_D_init_Tp_init rfl (by decide) wd_c21 rfl (bp (by decide)) (bb hb (by decide)) rfl (Nat.le_of_ble_eq_true rfl) (by decide) (MetS.mono (i_tp hn1 (bbc hb (a := 1) (by decide)) ho1) (fun r w2 hh => ?_))
  obtain ⟨rfl, e2⟩ := hh
  have s2 : StC (n + 1) 1 w1 w2 := by rw [e2]; exact st_tp hn1 (Nat.le_refl _)
  have hn2 : wn w2 = n + 2 := by rw [s2.1, hn1]
  replace hq := s2.2.1 _ _ hq
  replace ho1 := s2.2.1 _ _ ho1
  show WpG _ _ _ _ _ ([vr (n + 1), vr q]) (2, 602) _ _
  refine wp_putC d_D_init_12 fl_D_10 (Or.inr rfl) (Or.inr dcc_8) cl_8 ⟨rfl, Or.inl ⟨_, rfl⟩⟩ hq (fun w3 e3 => ?_)
  have f3 : ∀ p sh, oq w2 p sh → oq w3 p sh := fun p sh h => by rw [e3]; exact h
  have hn3 : wn w3 = n + 2 := by rw [e3]; exact hn2
  replace hq := f3 _ _ hq
  replace ho1 := f3 _ _ ho1
  refine wp_aload_n d_D_init_15 rfl 0 rfl ?_
  refine wp_newG hn3 d_D_init_16 cl_4 nl_D_init_16 df_4 (bl hb (a := 2) (by decide)) (k2 := (3, 612)) rfl (by decide) (fun w4 e4 hn4 ho4 => ?_)
  have f4 : ∀ p sh, oq w3 p sh → oq w4 p sh := fun p sh h => by rw [e4]; exact oq_nw h
  replace hn4 : wn w4 = n + 3 := hn4
  replace hq := f4 _ _ hq
  replace ho1 := f4 _ _ ho1
  replace ho4 : oq w4 (n + 3) (0, 4) := ho4
  refine wp_dup d_D_init_19 rfl ?_
  refine wp_callCN (q := (n + 3)) (A := []) (S := [vr (n + 3), vr q]) d_D_init_20 cac_D_init_Rd_init rfl (by decide) wd_c22 rfl (bp (by decide)) (bb hb (by decide)) rfl (Nat.le_of_ble_eq_true rfl) (by decide) (MetS.mono (i_rd hn4 (bbc hb (a := 3) (by decide)) ho4) (fun r w5 hh => ?_))
  obtain ⟨rfl, e5⟩ := hh
  have s5 : StC (n + 3) 35 w4 w5 := by rw [e5]; exact st_rd hn4 (Nat.le_refl _)
  have hn5 : wn w5 = n + 38 := by rw [s5.1, hn4]
  replace hq := s5.2.1 _ _ hq
  replace ho1 := s5.2.1 _ _ ho1
  replace ho4 := s5.2.1 _ _ ho4
  show WpG _ _ _ _ _ ([vr (n + 3), vr q]) (38, 3179) _ _
  refine wp_putC d_D_init_23 fl_D_19 (Or.inr rfl) (Or.inr dcc_8) cl_8 ⟨rfl, Or.inl ⟨_, rfl⟩⟩ hq (fun w6 e6 => ?_)
  have f6 : ∀ p sh, oq w5 p sh → oq w6 p sh := fun p sh h => by rw [e6]; exact h
  have hn6 : wn w6 = n + 38 := by rw [e6]; exact hn5
  replace hq := f6 _ _ hq
  replace ho1 := f6 _ _ ho1
  replace ho4 := f6 _ _ ho4
  refine wp_aload_n d_D_init_26 rfl 0 rfl ?_
  refine wp_newG hn6 d_D_init_27 cl_0 nl_D_init_23 df_0 (bl hb (a := 38) (by decide)) (k2 := (39, 3187)) rfl (by decide) (fun w7 e7 hn7 ho7 => ?_)
  have f7 : ∀ p sh, oq w6 p sh → oq w7 p sh := fun p sh h => by rw [e7]; exact oq_nw h
  replace hn7 : wn w7 = n + 39 := hn7
  replace hq := f7 _ _ hq
  replace ho1 := f7 _ _ ho1
  replace ho4 := f7 _ _ ho4
  replace ho7 : oq w7 (n + 39) (0, 0) := ho7
  refine wp_dup d_D_init_30 rfl ?_
  refine wp_callCN (q := (n + 39)) (A := []) (S := [vr (n + 39), vr q]) d_D_init_31 cac_D_init_Bk_init rfl (by decide) wd_c23 rfl (bp (by decide)) (bb hb (by decide)) rfl (Nat.le_of_ble_eq_true rfl) (by decide) (MetS.mono (i_bk hn7 (bbc hb (a := 39) (by decide)) ho7) (fun r w8 hh => ?_))
  obtain ⟨rfl, e8⟩ := hh
  have s8 : StC (n + 39) 18 w7 w8 := by rw [e8]; exact st_bk hn7 (Nat.le_refl _)
  have hn8 : wn w8 = n + 57 := by rw [s8.1, hn7]
  replace hq := s8.2.1 _ _ hq
  replace ho1 := s8.2.1 _ _ ho1
  replace ho4 := s8.2.1 _ _ ho4
  replace ho7 := s8.2.1 _ _ ho7
  show WpG _ _ _ _ _ ([vr (n + 39), vr q]) (57, 4525) _ _
  refine wp_putC d_D_init_34 fl_D_26 (Or.inl rfl) (Or.inl rfl) cl_8 ⟨rfl, Or.inl ⟨_, rfl⟩⟩ hq (fun w9 e9 => ?_)
  have f9 : ∀ p sh, oq w8 p sh → oq w9 p sh := fun p sh h => by rw [e9]; exact h
  have hn9 : wn w9 = n + 57 := by rw [e9]; exact hn8
  replace hq := f9 _ _ hq
  replace ho1 := f9 _ _ ho1
  replace ho4 := f9 _ _ ho4
  replace ho7 := f9 _ _ ho7
  refine wp_aload_n d_D_init_37 rfl 0 rfl ?_
  refine wp_newG hn9 d_D_init_38 cl_0 nl_D_init_23 df_0 (bl hb (a := 57) (by decide)) (k2 := (58, 4533)) rfl (by decide) (fun w10 e10 hn10 ho10 => ?_)
  have f10 : ∀ p sh, oq w9 p sh → oq w10 p sh := fun p sh h => by rw [e10]; exact oq_nw h
  replace hn10 : wn w10 = n + 58 := hn10
  replace hq := f10 _ _ hq
  replace ho1 := f10 _ _ ho1
  replace ho4 := f10 _ _ ho4
  replace ho7 := f10 _ _ ho7
  replace ho10 : oq w10 (n + 58) (0, 0) := ho10
  refine wp_dup d_D_init_41 rfl ?_
  refine wp_callCN (q := (n + 58)) (A := []) (S := [vr (n + 58), vr q]) d_D_init_42 cac_D_init_Bk_init rfl (by decide) wd_c23 rfl (bp (by decide)) (bb hb (by decide)) rfl (Nat.le_of_ble_eq_true rfl) (by decide) (MetS.mono (i_bk hn10 (bbc hb (a := 58) (by decide)) ho10) (fun r w11 hh => ?_))
  obtain ⟨rfl, e11⟩ := hh
  have s11 : StC (n + 58) 18 w10 w11 := by rw [e11]; exact st_bk hn10 (Nat.le_refl _)
  have hn11 : wn w11 = n + 76 := by rw [s11.1, hn10]
  replace hq := s11.2.1 _ _ hq
  replace ho1 := s11.2.1 _ _ ho1
  replace ho4 := s11.2.1 _ _ ho4
  replace ho7 := s11.2.1 _ _ ho7
  replace ho10 := s11.2.1 _ _ ho10
  show WpG _ _ _ _ _ ([vr (n + 58), vr q]) (76, 5871) _ _
  refine wp_putC d_D_init_45 fl_D_30 (Or.inl rfl) (Or.inl rfl) cl_8 ⟨rfl, Or.inl ⟨_, rfl⟩⟩ hq (fun w12 e12 => ?_)
  have f12 : ∀ p sh, oq w11 p sh → oq w12 p sh := fun p sh h => by rw [e12]; exact h
  have hn12 : wn w12 = n + 76 := by rw [e12]; exact hn11
  replace hq := f12 _ _ hq
  replace ho1 := f12 _ _ ho1
  replace ho4 := f12 _ _ ho4
  replace ho7 := f12 _ _ ho7
  replace ho10 := f12 _ _ ho10
  exact wp_vret d_D_init_48 rfl (by decide) ⟨rfl, by rw [e12, e11, e10, e9, e8, e7, e6, e5, e4, e3, e2, e1]; rfl⟩
def mW (n q : Nat) (w : Wo) : Wo := uP (nw (uP (nw (uP (nw (uP (nw (uP (nw (uP (nw (uP (nw (uP (nw (uP (nw (uP (nw (uP (nw (uP (nw (uP (nw (uP (nw (uP (nw (uP (nw (uP (nw (uP (nw (uP (nw (uP (nw (uP (nw (uP (nw (uP (nw (uP (nw (uP (nw (uP (nw (uP (nw (uP (nw (uP (nw (uP (nw (uP (nw (uP (nw (uP (nw (uP (nw (uP (nw (uP (nw (uP (nw (uP (nw (w) (1, 600)) q 1 (n + 1)) (1, 602)) q 6 (n + 2)) (1, 602)) q 7 (n + 3)) (1, 602)) q 8 (n + 4)) (2, 602)) q 9 (n + 5)) (1, 2)) q 12 (n + 6)) (2, 32)) q 13 (n + 7)) (1, 32)) q 14 (n + 8)) (1, 32)) q 15 (n + 9)) (1, 2)) q 16 (n + 10)) (1, 61)) q 17 (n + 11)) (1, 244)) q 18 (n + 12)) (2, 244)) q 19 (n + 13)) (1, 61)) q 20 (n + 14)) (1, 61)) q 21 (n + 15)) (1, 61)) q 22 (n + 16)) (1, 61)) q 23 (n + 17)) (1, 366)) q 24 (n + 18)) (1, 366)) q 25 (n + 19)) (1, 1464)) q 26 (n + 20)) (2, 1464)) q 27 (n + 21)) (1, 2)) q 28 (n + 22)) (1, 400)) q 29 (n + 23)) (2, 1600)) q 30 (n + 24)) (2, 9)) q 32 (n + 25)) (1, 9)) q 33 (n + 26)) (4, 9)) q 34 (n + 27)) (1, 4)) q 39 (n + 28)) (2, 4)) q 40 (n + 29)) (1, 366)) q 47 (n + 30)) (1, 366)) q 48 (n + 31)) (1, 61)) q 49 (n + 32)) (4, 256)) q 50 (n + 33)) (1, 6)) q 51 (n + 34)) (1, 6)) q 52 (n + 35)) (1, 6)) q 53 (n + 36)) (4, 9)) q 54 (n + 37)) (4, 6)) q 55 (n + 38)
theorem st_m {n q : Nat} {w : Wo} (hn : wn w = n) (hq : q ≤ n) : StC q 38 w (mW n q w) := by
  exact ((((((((((((((((((((((((((((((((((((((((((((((((((((((((((((((((((((((((((((StC.rf).nw).uP (Or.inl rfl)).nw).uP (Or.inl rfl)).nw).uP (Or.inl rfl)).nw).uP (Or.inl rfl)).nw).uP (Or.inl rfl)).nw).uP (Or.inl rfl)).nw).uP (Or.inl rfl)).nw).uP (Or.inl rfl)).nw).uP (Or.inl rfl)).nw).uP (Or.inl rfl)).nw).uP (Or.inl rfl)).nw).uP (Or.inl rfl)).nw).uP (Or.inl rfl)).nw).uP (Or.inl rfl)).nw).uP (Or.inl rfl)).nw).uP (Or.inl rfl)).nw).uP (Or.inl rfl)).nw).uP (Or.inl rfl)).nw).uP (Or.inl rfl)).nw).uP (Or.inl rfl)).nw).uP (Or.inl rfl)).nw).uP (Or.inl rfl)).nw).uP (Or.inl rfl)).nw).uP (Or.inl rfl)).nw).uP (Or.inl rfl)).nw).uP (Or.inl rfl)).nw).uP (Or.inl rfl)).nw).uP (Or.inl rfl)).nw).uP (Or.inl rfl)).nw).uP (Or.inl rfl)).nw).uP (Or.inl rfl)).nw).uP (Or.inl rfl)).nw).uP (Or.inl rfl)).nw).uP (Or.inl rfl)).nw).uP (Or.inl rfl)).nw).uP (Or.inl rfl)).nw).uP (Or.inl rfl)).nw).uP (Or.inl rfl)
theorem i_m {n q : Nat} {w : Wo} (hn : wn w = n) (hb : n + 38 ≤ 1000) (hq : oq w q (0, 9)) : MetS false m_M_init [vr q] w (fun r w' => r = none ∧ w' = mW n q w) := by
  have hqn : q ≤ n := by rw [← hn]; exact hq.2.1
  have hq0 : 0 < q := hq.1
  refine met_of (by decide) rfl (Nat.le_of_ble_eq_true rfl) ?_
  show WpG false false m_M_init 0 [(0, vr q)] [] (0, 0) w _
  refine wp_aload_n d_M_init_0 rfl 0 rfl ?_
  refine wp_objinit d_M_init_1 wd_c24 wd_c1 wd_c2 hq.1 (qle hqn hb) (by decide) (by decide) ?_
  refine wp_aload_n d_M_init_4 rfl 0 rfl ?_
  refine wp_sipush d_M_init_5 (by decide) (by decide) ?_
  refine wp_newarrG (N := 600) (t := 1) hn d_M_init_8 rfl (Or.inl ⟨rfl, rfl⟩) wd_c4 (by decide) (bl hb (a := 0) (by decide)) (k2 := (1, 600)) rfl (by decide) (fun w1 e1 hn1 ho1 => ?_)
  have f1 : ∀ p sh, oq w p sh → oq w1 p sh := fun p sh h => by rw [e1]; exact oq_nw h
  replace hn1 : wn w1 = n + 1 := hn1
  replace hq := f1 _ _ hq
  clear ho1
  refine wp_putC d_M_init_10 fl_M_7 (Or.inr rfl) (Or.inr dcc_9) cl_9 ⟨rfl, Or.inr ⟨_, rfl⟩⟩ hq (fun w2 e2 => ?_)
  have f2 : ∀ p sh, oq w1 p sh → oq w2 p sh := fun p sh h => by rw [e2]; exact h
  have hn2 : wn w2 = n + 1 := by rw [e2]; exact hn1
  replace hq := f2 _ _ hq
  refine wp_aload_n d_M_init_13 rfl 0 rfl ?_
  refine wp_sipush d_M_init_14 (by decide) (by decide) ?_
  refine wp_newarrG (N := 602) (t := 1) hn2 d_M_init_17 rfl (Or.inl ⟨rfl, rfl⟩) wd_c4 (by decide) (bl hb (a := 1) (by decide)) (k2 := (2, 1202)) rfl (by decide) (fun w3 e3 hn3 ho3 => ?_)
  have f3 : ∀ p sh, oq w2 p sh → oq w3 p sh := fun p sh h => by rw [e3]; exact oq_nw h
  replace hn3 : wn w3 = n + 2 := hn3
  replace hq := f3 _ _ hq
  clear ho3
  refine wp_putC d_M_init_19 fl_M_13 (Or.inr rfl) (Or.inr dcc_9) cl_9 ⟨rfl, Or.inr ⟨_, rfl⟩⟩ hq (fun w4 e4 => ?_)
  have f4 : ∀ p sh, oq w3 p sh → oq w4 p sh := fun p sh h => by rw [e4]; exact h
  have hn4 : wn w4 = n + 2 := by rw [e4]; exact hn3
  replace hq := f4 _ _ hq
  refine wp_aload_n d_M_init_22 rfl 0 rfl ?_
  refine wp_sipush d_M_init_23 (by decide) (by decide) ?_
  refine wp_newarrG (N := 602) (t := 1) hn4 d_M_init_26 rfl (Or.inl ⟨rfl, rfl⟩) wd_c4 (by decide) (bl hb (a := 2) (by decide)) (k2 := (3, 1804)) rfl (by decide) (fun w5 e5 hn5 ho5 => ?_)
  have f5 : ∀ p sh, oq w4 p sh → oq w5 p sh := fun p sh h => by rw [e5]; exact oq_nw h
  replace hn5 : wn w5 = n + 3 := hn5
  replace hq := f5 _ _ hq
  clear ho5
  refine wp_putC d_M_init_28 fl_M_16 (Or.inr rfl) (Or.inr dcc_9) cl_9 ⟨rfl, Or.inr ⟨_, rfl⟩⟩ hq (fun w6 e6 => ?_)
  have f6 : ∀ p sh, oq w5 p sh → oq w6 p sh := fun p sh h => by rw [e6]; exact h
  have hn6 : wn w6 = n + 3 := by rw [e6]; exact hn5
  replace hq := f6 _ _ hq
  refine wp_aload_n d_M_init_31 rfl 0 rfl ?_
  refine wp_sipush d_M_init_32 (by decide) (by decide) ?_
  refine wp_newarrG (N := 602) (t := 1) hn6 d_M_init_35 rfl (Or.inl ⟨rfl, rfl⟩) wd_c4 (by decide) (bl hb (a := 3) (by decide)) (k2 := (4, 2406)) rfl (by decide) (fun w7 e7 hn7 ho7 => ?_)
  have f7 : ∀ p sh, oq w6 p sh → oq w7 p sh := fun p sh h => by rw [e7]; exact oq_nw h
  replace hn7 : wn w7 = n + 4 := hn7
  replace hq := f7 _ _ hq
  clear ho7
  refine wp_putC d_M_init_37 fl_M_19 (Or.inr rfl) (Or.inr dcc_9) cl_9 ⟨rfl, Or.inr ⟨_, rfl⟩⟩ hq (fun w8 e8 => ?_)
  have f8 : ∀ p sh, oq w7 p sh → oq w8 p sh := fun p sh h => by rw [e8]; exact h
  have hn8 : wn w8 = n + 4 := by rw [e8]; exact hn7
  replace hq := f8 _ _ hq
  refine wp_aload_n d_M_init_40 rfl 0 rfl ?_
  refine wp_sipush d_M_init_41 (by decide) (by decide) ?_
  refine wp_newarrG (N := 602) (t := 2) hn8 d_M_init_44 rfl (Or.inr (Or.inl ⟨rfl, rfl⟩)) wd_c3 (by decide) (bl hb (a := 4) (by decide)) (k2 := (5, 3008)) rfl (by decide) (fun w9 e9 hn9 ho9 => ?_)
  have f9 : ∀ p sh, oq w8 p sh → oq w9 p sh := fun p sh h => by rw [e9]; exact oq_nw h
  replace hn9 : wn w9 = n + 5 := hn9
  replace hq := f9 _ _ hq
  clear ho9
  refine wp_putC d_M_init_46 fl_M_22 (Or.inr rfl) (Or.inr dcc_9) cl_9 ⟨rfl, Or.inr ⟨_, rfl⟩⟩ hq (fun w10 e10 => ?_)
  have f10 : ∀ p sh, oq w9 p sh → oq w10 p sh := fun p sh h => by rw [e10]; exact h
  have hn10 : wn w10 = n + 5 := by rw [e10]; exact hn9
  replace hq := f10 _ _ hq
  refine wp_aload_n d_M_init_49 rfl 0 rfl ?_
  refine wp_iconst d_M_init_50 (by decide) ?_
  refine wp_newarrG (N := 2) (t := 1) hn10 d_M_init_51 rfl (Or.inl ⟨rfl, rfl⟩) wd_c4 (by decide) (bl hb (a := 5) (by decide)) (k2 := (6, 3010)) rfl (by decide) (fun w11 e11 hn11 ho11 => ?_)
  have f11 : ∀ p sh, oq w10 p sh → oq w11 p sh := fun p sh h => by rw [e11]; exact oq_nw h
  replace hn11 : wn w11 = n + 6 := hn11
  replace hq := f11 _ _ hq
  clear ho11
  refine wp_putC d_M_init_53 fl_M_26 (Or.inr rfl) (Or.inr dcc_9) cl_9 ⟨rfl, Or.inr ⟨_, rfl⟩⟩ hq (fun w12 e12 => ?_)
  have f12 : ∀ p sh, oq w11 p sh → oq w12 p sh := fun p sh h => by rw [e12]; exact h
  have hn12 : wn w12 = n + 6 := by rw [e12]; exact hn11
  replace hq := f12 _ _ hq
  refine wp_aload_n d_M_init_56 rfl 0 rfl ?_
  refine wp_bipush d_M_init_57 (by decide) (by decide) ?_
  refine wp_newarrG (N := 32) (t := 2) hn12 d_M_init_59 rfl (Or.inr (Or.inl ⟨rfl, rfl⟩)) wd_c3 (by decide) (bl hb (a := 6) (by decide)) (k2 := (7, 3042)) rfl (by decide) (fun w13 e13 hn13 ho13 => ?_)
  have f13 : ∀ p sh, oq w12 p sh → oq w13 p sh := fun p sh h => by rw [e13]; exact oq_nw h
  replace hn13 : wn w13 = n + 7 := hn13
  replace hq := f13 _ _ hq
  clear ho13
  refine wp_putC d_M_init_61 fl_M_29 (Or.inr rfl) (Or.inr dcc_9) cl_9 ⟨rfl, Or.inr ⟨_, rfl⟩⟩ hq (fun w14 e14 => ?_)
  have f14 : ∀ p sh, oq w13 p sh → oq w14 p sh := fun p sh h => by rw [e14]; exact h
  have hn14 : wn w14 = n + 7 := by rw [e14]; exact hn13
  replace hq := f14 _ _ hq
  refine wp_aload_n d_M_init_64 rfl 0 rfl ?_
  refine wp_bipush d_M_init_65 (by decide) (by decide) ?_
  refine wp_newarrG (N := 32) (t := 1) hn14 d_M_init_67 rfl (Or.inl ⟨rfl, rfl⟩) wd_c4 (by decide) (bl hb (a := 7) (by decide)) (k2 := (8, 3074)) rfl (by decide) (fun w15 e15 hn15 ho15 => ?_)
  have f15 : ∀ p sh, oq w14 p sh → oq w15 p sh := fun p sh h => by rw [e15]; exact oq_nw h
  replace hn15 : wn w15 = n + 8 := hn15
  replace hq := f15 _ _ hq
  clear ho15
  refine wp_putC d_M_init_69 fl_M_32 (Or.inr rfl) (Or.inr dcc_9) cl_9 ⟨rfl, Or.inr ⟨_, rfl⟩⟩ hq (fun w16 e16 => ?_)
  have f16 : ∀ p sh, oq w15 p sh → oq w16 p sh := fun p sh h => by rw [e16]; exact h
  have hn16 : wn w16 = n + 8 := by rw [e16]; exact hn15
  replace hq := f16 _ _ hq
  refine wp_aload_n d_M_init_72 rfl 0 rfl ?_
  refine wp_bipush d_M_init_73 (by decide) (by decide) ?_
  refine wp_newarrG (N := 32) (t := 1) hn16 d_M_init_75 rfl (Or.inl ⟨rfl, rfl⟩) wd_c4 (by decide) (bl hb (a := 8) (by decide)) (k2 := (9, 3106)) rfl (by decide) (fun w17 e17 hn17 ho17 => ?_)
  have f17 : ∀ p sh, oq w16 p sh → oq w17 p sh := fun p sh h => by rw [e17]; exact oq_nw h
  replace hn17 : wn w17 = n + 9 := hn17
  replace hq := f17 _ _ hq
  clear ho17
  refine wp_putC d_M_init_77 fl_M_35 (Or.inr rfl) (Or.inr dcc_9) cl_9 ⟨rfl, Or.inr ⟨_, rfl⟩⟩ hq (fun w18 e18 => ?_)
  have f18 : ∀ p sh, oq w17 p sh → oq w18 p sh := fun p sh h => by rw [e18]; exact h
  have hn18 : wn w18 = n + 9 := by rw [e18]; exact hn17
  replace hq := f18 _ _ hq
  refine wp_aload_n d_M_init_80 rfl 0 rfl ?_
  refine wp_iconst d_M_init_81 (by decide) ?_
  refine wp_newarrG (N := 2) (t := 1) hn18 d_M_init_82 rfl (Or.inl ⟨rfl, rfl⟩) wd_c4 (by decide) (bl hb (a := 9) (by decide)) (k2 := (10, 3108)) rfl (by decide) (fun w19 e19 hn19 ho19 => ?_)
  have f19 : ∀ p sh, oq w18 p sh → oq w19 p sh := fun p sh h => by rw [e19]; exact oq_nw h
  replace hn19 : wn w19 = n + 10 := hn19
  replace hq := f19 _ _ hq
  clear ho19
  refine wp_putC d_M_init_84 fl_M_38 (Or.inr rfl) (Or.inr dcc_9) cl_9 ⟨rfl, Or.inr ⟨_, rfl⟩⟩ hq (fun w20 e20 => ?_)
  have f20 : ∀ p sh, oq w19 p sh → oq w20 p sh := fun p sh h => by rw [e20]; exact h
  have hn20 : wn w20 = n + 10 := by rw [e20]; exact hn19
  replace hq := f20 _ _ hq
  refine wp_aload_n d_M_init_87 rfl 0 rfl ?_
  refine wp_bipush d_M_init_88 (by decide) (by decide) ?_
  refine wp_newarrG (N := 61) (t := 1) hn20 d_M_init_90 rfl (Or.inl ⟨rfl, rfl⟩) wd_c4 (by decide) (bl hb (a := 10) (by decide)) (k2 := (11, 3169)) rfl (by decide) (fun w21 e21 hn21 ho21 => ?_)
  have f21 : ∀ p sh, oq w20 p sh → oq w21 p sh := fun p sh h => by rw [e21]; exact oq_nw h
  replace hn21 : wn w21 = n + 11 := hn21
  replace hq := f21 _ _ hq
  clear ho21
  refine wp_putC d_M_init_92 fl_M_41 (Or.inr rfl) (Or.inr dcc_9) cl_9 ⟨rfl, Or.inr ⟨_, rfl⟩⟩ hq (fun w22 e22 => ?_)
  have f22 : ∀ p sh, oq w21 p sh → oq w22 p sh := fun p sh h => by rw [e22]; exact h
  have hn22 : wn w22 = n + 11 := by rw [e22]; exact hn21
  replace hq := f22 _ _ hq
  refine wp_aload_n d_M_init_95 rfl 0 rfl ?_
  refine wp_sipush d_M_init_96 (by decide) (by decide) ?_
  refine wp_newarrG (N := 244) (t := 1) hn22 d_M_init_99 rfl (Or.inl ⟨rfl, rfl⟩) wd_c4 (by decide) (bl hb (a := 11) (by decide)) (k2 := (12, 3413)) rfl (by decide) (fun w23 e23 hn23 ho23 => ?_)
  have f23 : ∀ p sh, oq w22 p sh → oq w23 p sh := fun p sh h => by rw [e23]; exact oq_nw h
  replace hn23 : wn w23 = n + 12 := hn23
  replace hq := f23 _ _ hq
  clear ho23
  refine wp_putC d_M_init_101 fl_M_44 (Or.inr rfl) (Or.inr dcc_9) cl_9 ⟨rfl, Or.inr ⟨_, rfl⟩⟩ hq (fun w24 e24 => ?_)
  have f24 : ∀ p sh, oq w23 p sh → oq w24 p sh := fun p sh h => by rw [e24]; exact h
  have hn24 : wn w24 = n + 12 := by rw [e24]; exact hn23
  replace hq := f24 _ _ hq
  refine wp_aload_n d_M_init_104 rfl 0 rfl ?_
  refine wp_sipush d_M_init_105 (by decide) (by decide) ?_
  refine wp_newarrG (N := 244) (t := 2) hn24 d_M_init_108 rfl (Or.inr (Or.inl ⟨rfl, rfl⟩)) wd_c3 (by decide) (bl hb (a := 12) (by decide)) (k2 := (13, 3657)) rfl (by decide) (fun w25 e25 hn25 ho25 => ?_)
  have f25 : ∀ p sh, oq w24 p sh → oq w25 p sh := fun p sh h => by rw [e25]; exact oq_nw h
  replace hn25 : wn w25 = n + 13 := hn25
  replace hq := f25 _ _ hq
  clear ho25
  refine wp_putC d_M_init_110 fl_M_47 (Or.inr rfl) (Or.inr dcc_9) cl_9 ⟨rfl, Or.inr ⟨_, rfl⟩⟩ hq (fun w26 e26 => ?_)
  have f26 : ∀ p sh, oq w25 p sh → oq w26 p sh := fun p sh h => by rw [e26]; exact h
  have hn26 : wn w26 = n + 13 := by rw [e26]; exact hn25
  replace hq := f26 _ _ hq
  refine wp_aload_n d_M_init_113 rfl 0 rfl ?_
  refine wp_bipush d_M_init_114 (by decide) (by decide) ?_
  refine wp_newarrG (N := 61) (t := 1) hn26 d_M_init_116 rfl (Or.inl ⟨rfl, rfl⟩) wd_c4 (by decide) (bl hb (a := 13) (by decide)) (k2 := (14, 3718)) rfl (by decide) (fun w27 e27 hn27 ho27 => ?_)
  have f27 : ∀ p sh, oq w26 p sh → oq w27 p sh := fun p sh h => by rw [e27]; exact oq_nw h
  replace hn27 : wn w27 = n + 14 := hn27
  replace hq := f27 _ _ hq
  clear ho27
  refine wp_putC d_M_init_118 fl_M_50 (Or.inr rfl) (Or.inr dcc_9) cl_9 ⟨rfl, Or.inr ⟨_, rfl⟩⟩ hq (fun w28 e28 => ?_)
  have f28 : ∀ p sh, oq w27 p sh → oq w28 p sh := fun p sh h => by rw [e28]; exact h
  have hn28 : wn w28 = n + 14 := by rw [e28]; exact hn27
  replace hq := f28 _ _ hq
  refine wp_aload_n d_M_init_121 rfl 0 rfl ?_
  refine wp_bipush d_M_init_122 (by decide) (by decide) ?_
  refine wp_newarrG (N := 61) (t := 1) hn28 d_M_init_124 rfl (Or.inl ⟨rfl, rfl⟩) wd_c4 (by decide) (bl hb (a := 14) (by decide)) (k2 := (15, 3779)) rfl (by decide) (fun w29 e29 hn29 ho29 => ?_)
  have f29 : ∀ p sh, oq w28 p sh → oq w29 p sh := fun p sh h => by rw [e29]; exact oq_nw h
  replace hn29 : wn w29 = n + 15 := hn29
  replace hq := f29 _ _ hq
  clear ho29
  refine wp_putC d_M_init_126 fl_M_53 (Or.inr rfl) (Or.inr dcc_9) cl_9 ⟨rfl, Or.inr ⟨_, rfl⟩⟩ hq (fun w30 e30 => ?_)
  have f30 : ∀ p sh, oq w29 p sh → oq w30 p sh := fun p sh h => by rw [e30]; exact h
  have hn30 : wn w30 = n + 15 := by rw [e30]; exact hn29
  replace hq := f30 _ _ hq
  refine wp_aload_n d_M_init_129 rfl 0 rfl ?_
  refine wp_bipush d_M_init_130 (by decide) (by decide) ?_
  refine wp_newarrG (N := 61) (t := 1) hn30 d_M_init_132 rfl (Or.inl ⟨rfl, rfl⟩) wd_c4 (by decide) (bl hb (a := 15) (by decide)) (k2 := (16, 3840)) rfl (by decide) (fun w31 e31 hn31 ho31 => ?_)
  have f31 : ∀ p sh, oq w30 p sh → oq w31 p sh := fun p sh h => by rw [e31]; exact oq_nw h
  replace hn31 : wn w31 = n + 16 := hn31
  replace hq := f31 _ _ hq
  clear ho31
  refine wp_putC d_M_init_134 fl_M_56 (Or.inr rfl) (Or.inr dcc_9) cl_9 ⟨rfl, Or.inr ⟨_, rfl⟩⟩ hq (fun w32 e32 => ?_)
  have f32 : ∀ p sh, oq w31 p sh → oq w32 p sh := fun p sh h => by rw [e32]; exact h
  have hn32 : wn w32 = n + 16 := by rw [e32]; exact hn31
  replace hq := f32 _ _ hq
  refine wp_aload_n d_M_init_137 rfl 0 rfl ?_
  refine wp_bipush d_M_init_138 (by decide) (by decide) ?_
  refine wp_newarrG (N := 61) (t := 1) hn32 d_M_init_140 rfl (Or.inl ⟨rfl, rfl⟩) wd_c4 (by decide) (bl hb (a := 16) (by decide)) (k2 := (17, 3901)) rfl (by decide) (fun w33 e33 hn33 ho33 => ?_)
  have f33 : ∀ p sh, oq w32 p sh → oq w33 p sh := fun p sh h => by rw [e33]; exact oq_nw h
  replace hn33 : wn w33 = n + 17 := hn33
  replace hq := f33 _ _ hq
  clear ho33
  refine wp_putC d_M_init_142 fl_M_59 (Or.inr rfl) (Or.inr dcc_9) cl_9 ⟨rfl, Or.inr ⟨_, rfl⟩⟩ hq (fun w34 e34 => ?_)
  have f34 : ∀ p sh, oq w33 p sh → oq w34 p sh := fun p sh h => by rw [e34]; exact h
  have hn34 : wn w34 = n + 17 := by rw [e34]; exact hn33
  replace hq := f34 _ _ hq
  refine wp_aload_n d_M_init_145 rfl 0 rfl ?_
  refine wp_sipush d_M_init_146 (by decide) (by decide) ?_
  refine wp_newarrG (N := 366) (t := 1) hn34 d_M_init_149 rfl (Or.inl ⟨rfl, rfl⟩) wd_c4 (by decide) (bl hb (a := 17) (by decide)) (k2 := (18, 4267)) rfl (by decide) (fun w35 e35 hn35 ho35 => ?_)
  have f35 : ∀ p sh, oq w34 p sh → oq w35 p sh := fun p sh h => by rw [e35]; exact oq_nw h
  replace hn35 : wn w35 = n + 18 := hn35
  replace hq := f35 _ _ hq
  clear ho35
  refine wp_putC d_M_init_151 fl_M_62 (Or.inr rfl) (Or.inr dcc_9) cl_9 ⟨rfl, Or.inr ⟨_, rfl⟩⟩ hq (fun w36 e36 => ?_)
  have f36 : ∀ p sh, oq w35 p sh → oq w36 p sh := fun p sh h => by rw [e36]; exact h
  have hn36 : wn w36 = n + 18 := by rw [e36]; exact hn35
  replace hq := f36 _ _ hq
  refine wp_aload_n d_M_init_154 rfl 0 rfl ?_
  refine wp_sipush d_M_init_155 (by decide) (by decide) ?_
  refine wp_newarrG (N := 366) (t := 1) hn36 d_M_init_158 rfl (Or.inl ⟨rfl, rfl⟩) wd_c4 (by decide) (bl hb (a := 18) (by decide)) (k2 := (19, 4633)) rfl (by decide) (fun w37 e37 hn37 ho37 => ?_)
  have f37 : ∀ p sh, oq w36 p sh → oq w37 p sh := fun p sh h => by rw [e37]; exact oq_nw h
  replace hn37 : wn w37 = n + 19 := hn37
  replace hq := f37 _ _ hq
  clear ho37
  refine wp_putC d_M_init_160 fl_M_65 (Or.inr rfl) (Or.inr dcc_9) cl_9 ⟨rfl, Or.inr ⟨_, rfl⟩⟩ hq (fun w38 e38 => ?_)
  have f38 : ∀ p sh, oq w37 p sh → oq w38 p sh := fun p sh h => by rw [e38]; exact h
  have hn38 : wn w38 = n + 19 := by rw [e38]; exact hn37
  replace hq := f38 _ _ hq
  refine wp_aload_n d_M_init_163 rfl 0 rfl ?_
  refine wp_sipush d_M_init_164 (by decide) (by decide) ?_
  refine wp_newarrG (N := 1464) (t := 1) hn38 d_M_init_167 rfl (Or.inl ⟨rfl, rfl⟩) wd_c4 (by decide) (bl hb (a := 19) (by decide)) (k2 := (20, 6097)) rfl (by decide) (fun w39 e39 hn39 ho39 => ?_)
  have f39 : ∀ p sh, oq w38 p sh → oq w39 p sh := fun p sh h => by rw [e39]; exact oq_nw h
  replace hn39 : wn w39 = n + 20 := hn39
  replace hq := f39 _ _ hq
  clear ho39
  refine wp_putC d_M_init_169 fl_M_68 (Or.inr rfl) (Or.inr dcc_9) cl_9 ⟨rfl, Or.inr ⟨_, rfl⟩⟩ hq (fun w40 e40 => ?_)
  have f40 : ∀ p sh, oq w39 p sh → oq w40 p sh := fun p sh h => by rw [e40]; exact h
  have hn40 : wn w40 = n + 20 := by rw [e40]; exact hn39
  replace hq := f40 _ _ hq
  refine wp_aload_n d_M_init_172 rfl 0 rfl ?_
  refine wp_sipush d_M_init_173 (by decide) (by decide) ?_
  refine wp_newarrG (N := 1464) (t := 2) hn40 d_M_init_176 rfl (Or.inr (Or.inl ⟨rfl, rfl⟩)) wd_c3 (by decide) (bl hb (a := 20) (by decide)) (k2 := (21, 7561)) rfl (by decide) (fun w41 e41 hn41 ho41 => ?_)
  have f41 : ∀ p sh, oq w40 p sh → oq w41 p sh := fun p sh h => by rw [e41]; exact oq_nw h
  replace hn41 : wn w41 = n + 21 := hn41
  replace hq := f41 _ _ hq
  clear ho41
  refine wp_putC d_M_init_178 fl_M_71 (Or.inr rfl) (Or.inr dcc_9) cl_9 ⟨rfl, Or.inr ⟨_, rfl⟩⟩ hq (fun w42 e42 => ?_)
  have f42 : ∀ p sh, oq w41 p sh → oq w42 p sh := fun p sh h => by rw [e42]; exact h
  have hn42 : wn w42 = n + 21 := by rw [e42]; exact hn41
  replace hq := f42 _ _ hq
  refine wp_aload_n d_M_init_181 rfl 0 rfl ?_
  refine wp_iconst d_M_init_182 (by decide) ?_
  refine wp_newarrG (N := 2) (t := 1) hn42 d_M_init_183 rfl (Or.inl ⟨rfl, rfl⟩) wd_c4 (by decide) (bl hb (a := 21) (by decide)) (k2 := (22, 7563)) rfl (by decide) (fun w43 e43 hn43 ho43 => ?_)
  have f43 : ∀ p sh, oq w42 p sh → oq w43 p sh := fun p sh h => by rw [e43]; exact oq_nw h
  replace hn43 : wn w43 = n + 22 := hn43
  replace hq := f43 _ _ hq
  clear ho43
  refine wp_putC d_M_init_185 fl_M_74 (Or.inr rfl) (Or.inr dcc_9) cl_9 ⟨rfl, Or.inr ⟨_, rfl⟩⟩ hq (fun w44 e44 => ?_)
  have f44 : ∀ p sh, oq w43 p sh → oq w44 p sh := fun p sh h => by rw [e44]; exact h
  have hn44 : wn w44 = n + 22 := by rw [e44]; exact hn43
  replace hq := f44 _ _ hq
  refine wp_aload_n d_M_init_188 rfl 0 rfl ?_
  refine wp_sipush d_M_init_189 (by decide) (by decide) ?_
  refine wp_newarrG (N := 400) (t := 1) hn44 d_M_init_192 rfl (Or.inl ⟨rfl, rfl⟩) wd_c4 (by decide) (bl hb (a := 22) (by decide)) (k2 := (23, 7963)) rfl (by decide) (fun w45 e45 hn45 ho45 => ?_)
  have f45 : ∀ p sh, oq w44 p sh → oq w45 p sh := fun p sh h => by rw [e45]; exact oq_nw h
  replace hn45 : wn w45 = n + 23 := hn45
  replace hq := f45 _ _ hq
  clear ho45
  refine wp_putC d_M_init_194 fl_M_77 (Or.inr rfl) (Or.inr dcc_9) cl_9 ⟨rfl, Or.inr ⟨_, rfl⟩⟩ hq (fun w46 e46 => ?_)
  have f46 : ∀ p sh, oq w45 p sh → oq w46 p sh := fun p sh h => by rw [e46]; exact h
  have hn46 : wn w46 = n + 23 := by rw [e46]; exact hn45
  replace hq := f46 _ _ hq
  refine wp_aload_n d_M_init_197 rfl 0 rfl ?_
  refine wp_sipush d_M_init_198 (by decide) (by decide) ?_
  refine wp_newarrG (N := 1600) (t := 2) hn46 d_M_init_201 rfl (Or.inr (Or.inl ⟨rfl, rfl⟩)) wd_c3 (by decide) (bl hb (a := 23) (by decide)) (k2 := (24, 9563)) rfl (by decide) (fun w47 e47 hn47 ho47 => ?_)
  have f47 : ∀ p sh, oq w46 p sh → oq w47 p sh := fun p sh h => by rw [e47]; exact oq_nw h
  replace hn47 : wn w47 = n + 24 := hn47
  replace hq := f47 _ _ hq
  clear ho47
  refine wp_putC d_M_init_203 fl_M_80 (Or.inr rfl) (Or.inr dcc_9) cl_9 ⟨rfl, Or.inr ⟨_, rfl⟩⟩ hq (fun w48 e48 => ?_)
  have f48 : ∀ p sh, oq w47 p sh → oq w48 p sh := fun p sh h => by rw [e48]; exact h
  have hn48 : wn w48 = n + 24 := by rw [e48]; exact hn47
  replace hq := f48 _ _ hq
  refine wp_aload_n d_M_init_206 rfl 0 rfl ?_
  refine wp_bipush d_M_init_207 (by decide) (by decide) ?_
  refine wp_newarrG (N := 9) (t := 2) hn48 d_M_init_209 rfl (Or.inr (Or.inl ⟨rfl, rfl⟩)) wd_c3 (by decide) (bl hb (a := 24) (by decide)) (k2 := (25, 9572)) rfl (by decide) (fun w49 e49 hn49 ho49 => ?_)
  have f49 : ∀ p sh, oq w48 p sh → oq w49 p sh := fun p sh h => by rw [e49]; exact oq_nw h
  replace hn49 : wn w49 = n + 25 := hn49
  replace hq := f49 _ _ hq
  clear ho49
  refine wp_putC d_M_init_211 fl_M_83 (Or.inr rfl) (Or.inr dcc_9) cl_9 ⟨rfl, Or.inr ⟨_, rfl⟩⟩ hq (fun w50 e50 => ?_)
  have f50 : ∀ p sh, oq w49 p sh → oq w50 p sh := fun p sh h => by rw [e50]; exact h
  have hn50 : wn w50 = n + 25 := by rw [e50]; exact hn49
  replace hq := f50 _ _ hq
  refine wp_aload_n d_M_init_214 rfl 0 rfl ?_
  refine wp_bipush d_M_init_215 (by decide) (by decide) ?_
  refine wp_newarrG (N := 9) (t := 1) hn50 d_M_init_217 rfl (Or.inl ⟨rfl, rfl⟩) wd_c4 (by decide) (bl hb (a := 25) (by decide)) (k2 := (26, 9581)) rfl (by decide) (fun w51 e51 hn51 ho51 => ?_)
  have f51 : ∀ p sh, oq w50 p sh → oq w51 p sh := fun p sh h => by rw [e51]; exact oq_nw h
  replace hn51 : wn w51 = n + 26 := hn51
  replace hq := f51 _ _ hq
  clear ho51
  refine wp_putC d_M_init_219 fl_M_86 (Or.inr rfl) (Or.inr dcc_9) cl_9 ⟨rfl, Or.inr ⟨_, rfl⟩⟩ hq (fun w52 e52 => ?_)
  have f52 : ∀ p sh, oq w51 p sh → oq w52 p sh := fun p sh h => by rw [e52]; exact h
  have hn52 : wn w52 = n + 26 := by rw [e52]; exact hn51
  replace hq := f52 _ _ hq
  refine wp_aload_n d_M_init_222 rfl 0 rfl ?_
  refine wp_bipush d_M_init_223 (by decide) (by decide) ?_
  refine wp_newarrG (N := 9) (t := 4) hn52 d_M_init_225 rfl (Or.inr (Or.inr (Or.inr ⟨rfl, rfl⟩))) wd_c25 (by decide) (bl hb (a := 26) (by decide)) (k2 := (27, 9590)) rfl (by decide) (fun w53 e53 hn53 ho53 => ?_)
  have f53 : ∀ p sh, oq w52 p sh → oq w53 p sh := fun p sh h => by rw [e53]; exact oq_nw h
  replace hn53 : wn w53 = n + 27 := hn53
  replace hq := f53 _ _ hq
  clear ho53
  refine wp_putC d_M_init_227 fl_M_89 (Or.inr rfl) (Or.inr dcc_9) cl_9 ⟨rfl, Or.inr ⟨_, rfl⟩⟩ hq (fun w54 e54 => ?_)
  have f54 : ∀ p sh, oq w53 p sh → oq w54 p sh := fun p sh h => by rw [e54]; exact h
  have hn54 : wn w54 = n + 27 := by rw [e54]; exact hn53
  replace hq := f54 _ _ hq
  refine wp_aload_n d_M_init_230 rfl 0 rfl ?_
  refine wp_iconst d_M_init_231 (by decide) ?_
  refine wp_newarrG (N := 4) (t := 1) hn54 d_M_init_232 rfl (Or.inl ⟨rfl, rfl⟩) wd_c4 (by decide) (bl hb (a := 27) (by decide)) (k2 := (28, 9594)) rfl (by decide) (fun w55 e55 hn55 ho55 => ?_)
  have f55 : ∀ p sh, oq w54 p sh → oq w55 p sh := fun p sh h => by rw [e55]; exact oq_nw h
  replace hn55 : wn w55 = n + 28 := hn55
  replace hq := f55 _ _ hq
  clear ho55
  refine wp_putC d_M_init_234 fl_M_93 (Or.inr rfl) (Or.inr dcc_9) cl_9 ⟨rfl, Or.inr ⟨_, rfl⟩⟩ hq (fun w56 e56 => ?_)
  have f56 : ∀ p sh, oq w55 p sh → oq w56 p sh := fun p sh h => by rw [e56]; exact h
  have hn56 : wn w56 = n + 28 := by rw [e56]; exact hn55
  replace hq := f56 _ _ hq
  refine wp_aload_n d_M_init_237 rfl 0 rfl ?_
  refine wp_iconst d_M_init_238 (by decide) ?_
  refine wp_newarrG (N := 4) (t := 2) hn56 d_M_init_239 rfl (Or.inr (Or.inl ⟨rfl, rfl⟩)) wd_c3 (by decide) (bl hb (a := 28) (by decide)) (k2 := (29, 9598)) rfl (by decide) (fun w57 e57 hn57 ho57 => ?_)
  have f57 : ∀ p sh, oq w56 p sh → oq w57 p sh := fun p sh h => by rw [e57]; exact oq_nw h
  replace hn57 : wn w57 = n + 29 := hn57
  replace hq := f57 _ _ hq
  clear ho57
  refine wp_putC d_M_init_241 fl_M_96 (Or.inr rfl) (Or.inr dcc_9) cl_9 ⟨rfl, Or.inr ⟨_, rfl⟩⟩ hq (fun w58 e58 => ?_)
  have f58 : ∀ p sh, oq w57 p sh → oq w58 p sh := fun p sh h => by rw [e58]; exact h
  have hn58 : wn w58 = n + 29 := by rw [e58]; exact hn57
  replace hq := f58 _ _ hq
  refine wp_aload_n d_M_init_244 rfl 0 rfl ?_
  refine wp_sipush d_M_init_245 (by decide) (by decide) ?_
  refine wp_newarrG (N := 366) (t := 1) hn58 d_M_init_248 rfl (Or.inl ⟨rfl, rfl⟩) wd_c4 (by decide) (bl hb (a := 29) (by decide)) (k2 := (30, 9964)) rfl (by decide) (fun w59 e59 hn59 ho59 => ?_)
  have f59 : ∀ p sh, oq w58 p sh → oq w59 p sh := fun p sh h => by rw [e59]; exact oq_nw h
  replace hn59 : wn w59 = n + 30 := hn59
  replace hq := f59 _ _ hq
  clear ho59
  refine wp_putC d_M_init_250 fl_M_99 (Or.inr rfl) (Or.inr dcc_9) cl_9 ⟨rfl, Or.inr ⟨_, rfl⟩⟩ hq (fun w60 e60 => ?_)
  have f60 : ∀ p sh, oq w59 p sh → oq w60 p sh := fun p sh h => by rw [e60]; exact h
  have hn60 : wn w60 = n + 30 := by rw [e60]; exact hn59
  replace hq := f60 _ _ hq
  refine wp_aload_n d_M_init_253 rfl 0 rfl ?_
  refine wp_sipush d_M_init_254 (by decide) (by decide) ?_
  refine wp_newarrG (N := 366) (t := 1) hn60 d_M_init_257 rfl (Or.inl ⟨rfl, rfl⟩) wd_c4 (by decide) (bl hb (a := 30) (by decide)) (k2 := (31, 10330)) rfl (by decide) (fun w61 e61 hn61 ho61 => ?_)
  have f61 : ∀ p sh, oq w60 p sh → oq w61 p sh := fun p sh h => by rw [e61]; exact oq_nw h
  replace hn61 : wn w61 = n + 31 := hn61
  replace hq := f61 _ _ hq
  clear ho61
  refine wp_putC d_M_init_259 fl_M_102 (Or.inr rfl) (Or.inr dcc_9) cl_9 ⟨rfl, Or.inr ⟨_, rfl⟩⟩ hq (fun w62 e62 => ?_)
  have f62 : ∀ p sh, oq w61 p sh → oq w62 p sh := fun p sh h => by rw [e62]; exact h
  have hn62 : wn w62 = n + 31 := by rw [e62]; exact hn61
  replace hq := f62 _ _ hq
  refine wp_aload_n d_M_init_262 rfl 0 rfl ?_
  refine wp_bipush d_M_init_263 (by decide) (by decide) ?_
  refine wp_newarrG (N := 61) (t := 1) hn62 d_M_init_265 rfl (Or.inl ⟨rfl, rfl⟩) wd_c4 (by decide) (bl hb (a := 31) (by decide)) (k2 := (32, 10391)) rfl (by decide) (fun w63 e63 hn63 ho63 => ?_)
  have f63 : ∀ p sh, oq w62 p sh → oq w63 p sh := fun p sh h => by rw [e63]; exact oq_nw h
  replace hn63 : wn w63 = n + 32 := hn63
  replace hq := f63 _ _ hq
  clear ho63
  refine wp_putC d_M_init_267 fl_M_105 (Or.inr rfl) (Or.inr dcc_9) cl_9 ⟨rfl, Or.inr ⟨_, rfl⟩⟩ hq (fun w64 e64 => ?_)
  have f64 : ∀ p sh, oq w63 p sh → oq w64 p sh := fun p sh h => by rw [e64]; exact h
  have hn64 : wn w64 = n + 32 := by rw [e64]; exact hn63
  replace hq := f64 _ _ hq
  refine wp_aload_n d_M_init_270 rfl 0 rfl ?_
  refine wp_sipush d_M_init_271 (by decide) (by decide) ?_
  refine wp_newarrG (N := 256) (t := 4) hn64 d_M_init_274 rfl (Or.inr (Or.inr (Or.inr ⟨rfl, rfl⟩))) wd_c25 (by decide) (bl hb (a := 32) (by decide)) (k2 := (33, 10647)) rfl (by decide) (fun w65 e65 hn65 ho65 => ?_)
  have f65 : ∀ p sh, oq w64 p sh → oq w65 p sh := fun p sh h => by rw [e65]; exact oq_nw h
  replace hn65 : wn w65 = n + 33 := hn65
  replace hq := f65 _ _ hq
  clear ho65
  refine wp_putC d_M_init_276 fl_M_108 (Or.inr rfl) (Or.inr dcc_9) cl_9 ⟨rfl, Or.inr ⟨_, rfl⟩⟩ hq (fun w66 e66 => ?_)
  have f66 : ∀ p sh, oq w65 p sh → oq w66 p sh := fun p sh h => by rw [e66]; exact h
  have hn66 : wn w66 = n + 33 := by rw [e66]; exact hn65
  replace hq := f66 _ _ hq
  refine wp_aload_n d_M_init_279 rfl 0 rfl ?_
  refine wp_bipush d_M_init_280 (by decide) (by decide) ?_
  refine wp_newarrG (N := 6) (t := 1) hn66 d_M_init_282 rfl (Or.inl ⟨rfl, rfl⟩) wd_c4 (by decide) (bl hb (a := 33) (by decide)) (k2 := (34, 10653)) rfl (by decide) (fun w67 e67 hn67 ho67 => ?_)
  have f67 : ∀ p sh, oq w66 p sh → oq w67 p sh := fun p sh h => by rw [e67]; exact oq_nw h
  replace hn67 : wn w67 = n + 34 := hn67
  replace hq := f67 _ _ hq
  clear ho67
  refine wp_putC d_M_init_284 fl_M_111 (Or.inr rfl) (Or.inr dcc_9) cl_9 ⟨rfl, Or.inr ⟨_, rfl⟩⟩ hq (fun w68 e68 => ?_)
  have f68 : ∀ p sh, oq w67 p sh → oq w68 p sh := fun p sh h => by rw [e68]; exact h
  have hn68 : wn w68 = n + 34 := by rw [e68]; exact hn67
  replace hq := f68 _ _ hq
  refine wp_aload_n d_M_init_287 rfl 0 rfl ?_
  refine wp_bipush d_M_init_288 (by decide) (by decide) ?_
  refine wp_newarrG (N := 6) (t := 1) hn68 d_M_init_290 rfl (Or.inl ⟨rfl, rfl⟩) wd_c4 (by decide) (bl hb (a := 34) (by decide)) (k2 := (35, 10659)) rfl (by decide) (fun w69 e69 hn69 ho69 => ?_)
  have f69 : ∀ p sh, oq w68 p sh → oq w69 p sh := fun p sh h => by rw [e69]; exact oq_nw h
  replace hn69 : wn w69 = n + 35 := hn69
  replace hq := f69 _ _ hq
  clear ho69
  refine wp_putC d_M_init_292 fl_M_114 (Or.inr rfl) (Or.inr dcc_9) cl_9 ⟨rfl, Or.inr ⟨_, rfl⟩⟩ hq (fun w70 e70 => ?_)
  have f70 : ∀ p sh, oq w69 p sh → oq w70 p sh := fun p sh h => by rw [e70]; exact h
  have hn70 : wn w70 = n + 35 := by rw [e70]; exact hn69
  replace hq := f70 _ _ hq
  refine wp_aload_n d_M_init_295 rfl 0 rfl ?_
  refine wp_bipush d_M_init_296 (by decide) (by decide) ?_
  refine wp_newarrG (N := 6) (t := 1) hn70 d_M_init_298 rfl (Or.inl ⟨rfl, rfl⟩) wd_c4 (by decide) (bl hb (a := 35) (by decide)) (k2 := (36, 10665)) rfl (by decide) (fun w71 e71 hn71 ho71 => ?_)
  have f71 : ∀ p sh, oq w70 p sh → oq w71 p sh := fun p sh h => by rw [e71]; exact oq_nw h
  replace hn71 : wn w71 = n + 36 := hn71
  replace hq := f71 _ _ hq
  clear ho71
  refine wp_putC d_M_init_300 fl_M_117 (Or.inr rfl) (Or.inr dcc_9) cl_9 ⟨rfl, Or.inr ⟨_, rfl⟩⟩ hq (fun w72 e72 => ?_)
  have f72 : ∀ p sh, oq w71 p sh → oq w72 p sh := fun p sh h => by rw [e72]; exact h
  have hn72 : wn w72 = n + 36 := by rw [e72]; exact hn71
  replace hq := f72 _ _ hq
  refine wp_aload_n d_M_init_303 rfl 0 rfl ?_
  refine wp_bipush d_M_init_304 (by decide) (by decide) ?_
  refine wp_newarrG (N := 9) (t := 4) hn72 d_M_init_306 rfl (Or.inr (Or.inr (Or.inr ⟨rfl, rfl⟩))) wd_c25 (by decide) (bl hb (a := 36) (by decide)) (k2 := (37, 10674)) rfl (by decide) (fun w73 e73 hn73 ho73 => ?_)
  have f73 : ∀ p sh, oq w72 p sh → oq w73 p sh := fun p sh h => by rw [e73]; exact oq_nw h
  replace hn73 : wn w73 = n + 37 := hn73
  replace hq := f73 _ _ hq
  clear ho73
  refine wp_putC d_M_init_308 fl_M_120 (Or.inr rfl) (Or.inr dcc_9) cl_9 ⟨rfl, Or.inr ⟨_, rfl⟩⟩ hq (fun w74 e74 => ?_)
  have f74 : ∀ p sh, oq w73 p sh → oq w74 p sh := fun p sh h => by rw [e74]; exact h
  have hn74 : wn w74 = n + 37 := by rw [e74]; exact hn73
  replace hq := f74 _ _ hq
  refine wp_aload_n d_M_init_311 rfl 0 rfl ?_
  refine wp_bipush d_M_init_312 (by decide) (by decide) ?_
  refine wp_newarrG (N := 6) (t := 4) hn74 d_M_init_314 rfl (Or.inr (Or.inr (Or.inr ⟨rfl, rfl⟩))) wd_c25 (by decide) (bl hb (a := 37) (by decide)) (k2 := (38, 10680)) rfl (by decide) (fun w75 e75 hn75 ho75 => ?_)
  have f75 : ∀ p sh, oq w74 p sh → oq w75 p sh := fun p sh h => by rw [e75]; exact oq_nw h
  replace hn75 : wn w75 = n + 38 := hn75
  replace hq := f75 _ _ hq
  clear ho75
  refine wp_putC d_M_init_316 fl_M_123 (Or.inr rfl) (Or.inr dcc_9) cl_9 ⟨rfl, Or.inr ⟨_, rfl⟩⟩ hq (fun w76 e76 => ?_)
  have f76 : ∀ p sh, oq w75 p sh → oq w76 p sh := fun p sh h => by rw [e76]; exact h
  have hn76 : wn w76 = n + 38 := by rw [e76]; exact hn75
  replace hq := f76 _ _ hq
  exact wp_vret d_M_init_319 rfl (by decide) ⟨rfl, by rw [e76, e75, e74, e73, e72, e71, e70, e69, e68, e67, e66, e65, e64, e63, e62, e61, e60, e59, e58, e57, e56, e55, e54, e53, e52, e51, e50, e49, e48, e47, e46, e45, e44, e43, e42, e41, e40, e39, e38, e37, e36, e35, e34, e33, e32, e31, e30, e29, e28, e27, e26, e25, e24, e23, e22, e21, e20, e19, e18, e17, e16, e15, e14, e13, e12, e11, e10, e9, e8, e7, e6, e5, e4, e3, e2, e1]; rfl⟩

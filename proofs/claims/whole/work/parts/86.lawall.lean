/-! the law from its entry to its loop -/
theorem nl_law_8 (xs : List Int) : NLP (m_law xs) 8 8 := ⟨RC8, TC8, rfl, (aw1 (i := 23) rfl rfl), (aw1 (i := 24) rfl rfl), (aw1 (i := 1) rfl rfl)⟩
theorem nl_law_26 (xs : List Int) : NLP (m_law xs) 26 9 := ⟨RC9, TC9, rfl, (aw4 (i := 84) rfl rfl), (aw4 (i := 85) rfl rfl), (aw1 (i := 10) rfl rfl)⟩
theorem cac_law_D (xs : List Int) : CaP (m_law xs) m_D_init 0 := ⟨(aw1 (i := 27) rfl rfl), (aw1 (i := 1) rfl rfl), ⟨by decide, by decide⟩, by decide +kernel, Nat.le_of_ble_eq_true rfl, Nat.le_of_ble_eq_true rfl⟩
theorem wdL_25 : Jvm.Cond.methodLink "PlanDeskLaw" 25 ({ cls := "PlanDesk", name := "<init>", desc := "()V" } : Jvm.MethodName) ∈ AW := (aw1 (i := 25) rfl rfl)
theorem wdL_D : Jvm.Cond.instanceMethod ({ cls := "PlanDesk", name := "<init>", desc := "()V" } : Jvm.MethodName) ∈ AW := (aw1 (i := 26) rfl rfl)
theorem cac_law_M (xs : List Int) : CaP (m_law xs) m_M_init 0 := ⟨(aw4 (i := 88) rfl rfl), (aw1 (i := 10) rfl rfl), ⟨by decide, by decide⟩, by decide +kernel, Nat.le_of_ble_eq_true rfl, Nat.le_of_ble_eq_true rfl⟩
theorem wdL_28 : Jvm.Cond.methodLink "PlanDeskLaw" 28 ({ cls := "PlanDeskModel", name := "<init>", desc := "()V" } : Jvm.MethodName) ∈ AW := (aw4 (i := 86) rfl rfl)
theorem wdL_M : Jvm.Cond.instanceMethod ({ cls := "PlanDeskModel", name := "<init>", desc := "()V" } : Jvm.MethodName) ∈ AW := (aw4 (i := 87) rfl rfl)
theorem iv_WF : IV WF := by
  have g := gw_WF.2.1
  refine ⟨s0, (0, 0), fun _ => 0, 0, ⟨TpR.nil (g 2 1), ⟨40, 59, Or.inl rfl, Or.inr rfl, by decide, by decide +kernel, by decide +kernel, ⟨g 40 1, fun i x hx => (by cases hx), fun i hi => absurd hi (Nat.not_lt_zero i), ⟨g 41 0, fun i r hr => (by cases hr)⟩⟩⟩, g 4 4, g 4 5⟩, ⟨⟨by decide, g 78 2, fun i hi => absurd hi (Nat.not_lt_zero i), fun i hi => absurd hi (Nat.not_lt_zero i)⟩, ⟨g 78 3, g 78 4⟩, 0, by decide, g 78 11, ⟨⟨g 84 0, by decide, fun x hx => (by cases hx), fun i x hx => (by cases hx)⟩, ⟨g 88 0, by decide, fun r hr => (by cases hr), fun i r hr => (by cases hr)⟩, ⟨g 100 0, by decide, fun i x hx => (by cases hx)⟩, fun p hp => absurd hp (Nat.not_lt_zero p)⟩, fun a b ha hb => ?_⟩, ⟨0, by decide, s0_wf, rfl⟩⟩
  rw [g 111 _]
  show 0 = b01 ((0 : Nat).testBit b)
  rw [Nat.zero_testBit]
  rfl
set_option maxRecDepth 20000 in
set_option maxHeartbeats 2000000 in
theorem law_all (xs : List Int) : WpG false true (m_law xs) 0 [(0, vr 4000)] [] (0, 0) v0 (fun r _ => r = some (vi 1)) := by
  refine wp_newG (m := m_law xs) (n := 0) rfl d_L_law_0 cl_8 (nl_law_8 xs) df_8 (by decide) (k2 := (1, 4)) rfl ⟨Nat.le_of_ble_eq_true rfl, Nat.le_of_ble_eq_true rfl⟩ (fun w1 e1 hn1 ho1 => ?_)
  replace hn1 : wn w1 = 1 := hn1
  replace ho1 : oq w1 1 (0, 8) := ho1
  refine wp_dup (m := m_law xs) d_L_law_3 rfl ?_
  refine wp_callC (m := m_law xs) (q := 1) (A := []) (S := [vr 1]) d_L_law_4 (cac_law_D xs) rfl wdL_25 wdL_D rfl (by decide) (by decide) rfl (Nat.le_of_ble_eq_true rfl) ⟨Nat.le_of_ble_eq_true rfl, Nat.le_of_ble_eq_true rfl⟩ (MetS.mono (i_d hn1 (by decide) ho1) (fun r w2 hh => ?_))
  obtain ⟨rfl, e2⟩ := hh
  show WpG _ _ _ _ _ [vr 1] (77, 5875) _ _
  refine wp_astore_n (m := m_law xs) (L' := [(1, vr 1), (0, vr 4000)]) d_L_law_7 (i := 1) rfl rfl (Nat.le_of_ble_eq_true rfl) ?_
  have e2' : w2 = w_D := by rw [e2, e1]; rfl
  have hn2 : wn w2 = 77 := by rw [e2']; exact wn_D
  refine wp_newG (m := m_law xs) hn2 d_L_law_8 cl_9 (nl_law_26 xs) df_9 (by decide) (k2 := (78, 5931)) rfl ⟨Nat.le_of_ble_eq_true rfl, Nat.le_of_ble_eq_true rfl⟩ (fun w3 e3 hn3 ho3 => ?_)
  replace hn3 : wn w3 = 78 := hn3
  replace ho3 : oq w3 78 (0, 9) := ho3
  refine wp_dup (m := m_law xs) d_L_law_11 rfl ?_
  refine wp_callC (m := m_law xs) (q := 78) (A := []) (S := [vr 78]) d_L_law_12 (cac_law_M xs) rfl wdL_28 wdL_M rfl (by decide) (by decide) rfl (Nat.le_of_ble_eq_true rfl) ⟨Nat.le_of_ble_eq_true rfl, Nat.le_of_ble_eq_true rfl⟩ (MetS.mono (i_m hn3 (by decide) ho3) (fun r w4 hh => ?_))
  obtain ⟨rfl, e4⟩ := hh
  show WpG _ _ _ _ _ [vr 78] (116, 16611) _ _
  refine wp_astore_n (m := m_law xs) (L' := [(2, vr 78), (1, vr 1), (0, vr 4000)]) d_L_law_15 (i := 2) rfl rfl (Nat.le_of_ble_eq_true rfl) ?_
  have e4' : w4 = w_M := by rw [e4, e3, e2']; rfl
  have hn4 : wn w4 = 116 := by rw [e4']; exact wn_M
  refine wp_iconst (m := m_law xs) d_L_law_16 (by decide) ?_
  refine wp_newarrG (m := m_law xs) (t := 2) (N := 1) hn4 d_L_law_17 rfl (Or.inr (Or.inl ⟨rfl, rfl⟩)) wd_c3 (by decide) (by decide) (k2 := (117, 16612)) rfl ⟨Nat.le_of_ble_eq_true rfl, Nat.le_of_ble_eq_true rfl⟩ (fun w5 e5 hn5 ho5 => ?_)
  have e5' : w5 = WF := by rw [e5, e4']; rfl
  subst e5'
  refine wp_astore_n (m := m_law xs) (L' := [(3, vr 117), (2, vr 78), (1, vr 1), (0, vr 4000)]) d_L_law_19 (i := 3) rfl rfl (Nat.le_of_ble_eq_true rfl) ?_
  refine wp_seal (m := m_law xs) ly_WF ?_
  refine wp_iconst (m := m_law xs) d_L_law_20 (by decide) ?_
  refine wp_istore (m := m_law xs) (L' := [(4, vi 0), (3, vr 117), (2, vr 78), (1, vr 1), (0, vr 4000)]) d_L_law_21 rfl (Nat.le_of_ble_eq_true rfl) ?_
  exact wp_pick (m := m_law xs) [4, 3, 2, 1, 0] rfl (law_loop 513 0 117 16612 0 WF (by omega) (by omega) (by omega) (by omega) (by omega) iv_WF)

/-! the constructors (by program) -/
theorem df_0 : DFP 0 := fun j hj => by
  have hj : j < 8 := hj
  have h : j = 0 ∨ j = 1 ∨ j = 2 ∨ j = 3 ∨ j = 4 ∨ j = 5 ∨ j = 6 ∨ j = 7 := by omega
  rcases h with rfl | rfl | rfl | rfl | rfl | rfl | rfl | rfl
  · exact Or.inr (Or.inr ⟨rfl, Or.inl ⟨_, rfl⟩⟩)
  · exact Or.inl ⟨rfl, Or.inl rfl⟩
  · exact Or.inr (Or.inr ⟨rfl, Or.inr ⟨_, rfl⟩⟩)
  · exact Or.inr (Or.inr ⟨rfl, Or.inr ⟨_, rfl⟩⟩)
  · exact Or.inr (Or.inr ⟨rfl, Or.inr ⟨_, rfl⟩⟩)
  · exact Or.inr (Or.inr ⟨rfl, Or.inr ⟨_, rfl⟩⟩)
  · exact Or.inr (Or.inr ⟨rfl, Or.inr ⟨_, rfl⟩⟩)
  · exact Or.inr (Or.inr ⟨rfl, Or.inr ⟨_, rfl⟩⟩)
theorem df_1 : DFP 1 := fun j hj => by
  have hj : j < 12 := hj
  have h : j = 0 ∨ j = 1 ∨ j = 2 ∨ j = 3 ∨ j = 4 ∨ j = 5 ∨ j = 6 ∨ j = 7 ∨ j = 8 ∨ j = 9 ∨ j = 10 ∨ j = 11 := by omega
  rcases h with rfl | rfl | rfl | rfl | rfl | rfl | rfl | rfl | rfl | rfl | rfl | rfl
  · exact Or.inr (Or.inr ⟨rfl, Or.inl ⟨_, rfl⟩⟩)
  · exact Or.inr (Or.inr ⟨rfl, Or.inr ⟨_, rfl⟩⟩)
  · exact Or.inl ⟨rfl, Or.inl rfl⟩
  · exact Or.inl ⟨rfl, Or.inl rfl⟩
  · exact Or.inl ⟨rfl, Or.inl rfl⟩
  · exact Or.inl ⟨rfl, Or.inl rfl⟩
  · exact Or.inl ⟨rfl, Or.inl rfl⟩
  · exact Or.inr (Or.inr ⟨rfl, Or.inr ⟨_, rfl⟩⟩)
  · exact Or.inr (Or.inr ⟨rfl, Or.inr ⟨_, rfl⟩⟩)
  · exact Or.inr (Or.inr ⟨rfl, Or.inr ⟨_, rfl⟩⟩)
  · exact Or.inr (Or.inr ⟨rfl, Or.inr ⟨_, rfl⟩⟩)
  · exact Or.inr (Or.inr ⟨rfl, Or.inr ⟨_, rfl⟩⟩)
theorem df_2 : DFP 2 := fun j hj => by
  have hj : j < 3 := hj
  have h : j = 0 ∨ j = 1 ∨ j = 2 := by omega
  rcases h with rfl | rfl | rfl
  · exact Or.inr (Or.inr ⟨rfl, Or.inr ⟨_, rfl⟩⟩)
  · exact Or.inr (Or.inr ⟨rfl, Or.inr ⟨_, rfl⟩⟩)
  · exact Or.inl ⟨rfl, Or.inl rfl⟩
theorem df_3 : DFP 3 := fun j hj => by
  have hj : j < 7 := hj
  have h : j = 0 ∨ j = 1 ∨ j = 2 ∨ j = 3 ∨ j = 4 ∨ j = 5 ∨ j = 6 := by omega
  rcases h with rfl | rfl | rfl | rfl | rfl | rfl | rfl
  · exact Or.inl ⟨rfl, Or.inl rfl⟩
  · exact Or.inl ⟨rfl, Or.inl rfl⟩
  · exact Or.inl ⟨rfl, Or.inl rfl⟩
  · exact Or.inl ⟨rfl, Or.inr rfl⟩
  · exact Or.inl ⟨rfl, Or.inl rfl⟩
  · exact Or.inr (Or.inr ⟨rfl, Or.inr ⟨_, rfl⟩⟩)
  · exact Or.inr (Or.inr ⟨rfl, Or.inr ⟨_, rfl⟩⟩)
theorem df_4 : DFP 4 := fun j hj => by
  have hj : j < 10 := hj
  have h : j = 0 ∨ j = 1 ∨ j = 2 ∨ j = 3 ∨ j = 4 ∨ j = 5 ∨ j = 6 ∨ j = 7 ∨ j = 8 ∨ j = 9 := by omega
  rcases h with rfl | rfl | rfl | rfl | rfl | rfl | rfl | rfl | rfl | rfl
  · exact Or.inr (Or.inr ⟨rfl, Or.inl ⟨_, rfl⟩⟩)
  · exact Or.inr (Or.inr ⟨rfl, Or.inl ⟨_, rfl⟩⟩)
  · exact Or.inr (Or.inr ⟨rfl, Or.inl ⟨_, rfl⟩⟩)
  · exact Or.inr (Or.inr ⟨rfl, Or.inl ⟨_, rfl⟩⟩)
  · exact Or.inl ⟨rfl, Or.inl rfl⟩
  · exact Or.inl ⟨rfl, Or.inl rfl⟩
  · exact Or.inl ⟨rfl, Or.inl rfl⟩
  · exact Or.inl ⟨rfl, Or.inl rfl⟩
  · exact Or.inl ⟨rfl, Or.inl rfl⟩
  · exact Or.inr (Or.inl ⟨rfl, rfl⟩)
theorem df_5 : DFP 5 := fun j hj => by
  have hj : j < 12 := hj
  have h : j = 0 ∨ j = 1 ∨ j = 2 ∨ j = 3 ∨ j = 4 ∨ j = 5 ∨ j = 6 ∨ j = 7 ∨ j = 8 ∨ j = 9 ∨ j = 10 ∨ j = 11 := by omega
  rcases h with rfl | rfl | rfl | rfl | rfl | rfl | rfl | rfl | rfl | rfl | rfl | rfl
  · exact Or.inl ⟨rfl, Or.inl rfl⟩
  · exact Or.inr (Or.inr ⟨rfl, Or.inr ⟨_, rfl⟩⟩)
  · exact Or.inr (Or.inr ⟨rfl, Or.inr ⟨_, rfl⟩⟩)
  · exact Or.inr (Or.inr ⟨rfl, Or.inr ⟨_, rfl⟩⟩)
  · exact Or.inr (Or.inr ⟨rfl, Or.inr ⟨_, rfl⟩⟩)
  · exact Or.inr (Or.inr ⟨rfl, Or.inr ⟨_, rfl⟩⟩)
  · exact Or.inr (Or.inr ⟨rfl, Or.inr ⟨_, rfl⟩⟩)
  · exact Or.inr (Or.inr ⟨rfl, Or.inr ⟨_, rfl⟩⟩)
  · exact Or.inr (Or.inr ⟨rfl, Or.inr ⟨_, rfl⟩⟩)
  · exact Or.inr (Or.inr ⟨rfl, Or.inr ⟨_, rfl⟩⟩)
  · exact Or.inr (Or.inr ⟨rfl, Or.inr ⟨_, rfl⟩⟩)
  · exact Or.inr (Or.inr ⟨rfl, Or.inr ⟨_, rfl⟩⟩)
theorem df_6 : DFP 6 := fun j hj => by
  have hj : j < 2 := hj
  have h : j = 0 ∨ j = 1 := by omega
  rcases h with rfl | rfl
  · exact Or.inr (Or.inr ⟨rfl, Or.inr ⟨_, rfl⟩⟩)
  · exact Or.inl ⟨rfl, Or.inl rfl⟩
theorem df_7 : DFP 7 := fun j hj => by
  have hj : j < 4 := hj
  have h : j = 0 ∨ j = 1 ∨ j = 2 ∨ j = 3 := by omega
  rcases h with rfl | rfl | rfl | rfl
  · exact Or.inr (Or.inr ⟨rfl, Or.inr ⟨_, rfl⟩⟩)
  · exact Or.inr (Or.inr ⟨rfl, Or.inr ⟨_, rfl⟩⟩)
  · exact Or.inr (Or.inr ⟨rfl, Or.inr ⟨_, rfl⟩⟩)
  · exact Or.inl ⟨rfl, Or.inl rfl⟩
theorem df_8 : DFP 8 := fun j hj => by
  have hj : j < 4 := hj
  have h : j = 0 ∨ j = 1 ∨ j = 2 ∨ j = 3 := by omega
  rcases h with rfl | rfl | rfl | rfl
  · exact Or.inr (Or.inr ⟨rfl, Or.inl ⟨_, rfl⟩⟩)
  · exact Or.inr (Or.inr ⟨rfl, Or.inl ⟨_, rfl⟩⟩)
  · exact Or.inr (Or.inr ⟨rfl, Or.inl ⟨_, rfl⟩⟩)
  · exact Or.inr (Or.inr ⟨rfl, Or.inl ⟨_, rfl⟩⟩)
theorem df_9 : DFP 9 := fun j hj => by
  have hj : j < 56 := hj
  have h : j = 0 ∨ j = 1 ∨ j = 2 ∨ j = 3 ∨ j = 4 ∨ j = 5 ∨ j = 6 ∨ j = 7 ∨ j = 8 ∨ j = 9 ∨ j = 10 ∨ j = 11 ∨ j = 12 ∨ j = 13 ∨ j = 14 ∨ j = 15 ∨ j = 16 ∨ j = 17 ∨ j = 18 ∨ j = 19 ∨ j = 20 ∨ j = 21 ∨ j = 22 ∨ j = 23 ∨ j = 24 ∨ j = 25 ∨ j = 26 ∨ j = 27 ∨ j = 28 ∨ j = 29 ∨ j = 30 ∨ j = 31 ∨ j = 32 ∨ j = 33 ∨ j = 34 ∨ j = 35 ∨ j = 36 ∨ j = 37 ∨ j = 38 ∨ j = 39 ∨ j = 40 ∨ j = 41 ∨ j = 42 ∨ j = 43 ∨ j = 44 ∨ j = 45 ∨ j = 46 ∨ j = 47 ∨ j = 48 ∨ j = 49 ∨ j = 50 ∨ j = 51 ∨ j = 52 ∨ j = 53 ∨ j = 54 ∨ j = 55 := by omega
  rcases h with rfl | rfl | rfl | rfl | rfl | rfl | rfl | rfl | rfl | rfl | rfl | rfl | rfl | rfl | rfl | rfl | rfl | rfl | rfl | rfl | rfl | rfl | rfl | rfl | rfl | rfl | rfl | rfl | rfl | rfl | rfl | rfl | rfl | rfl | rfl | rfl | rfl | rfl | rfl | rfl | rfl | rfl | rfl | rfl | rfl | rfl | rfl | rfl | rfl | rfl | rfl | rfl | rfl | rfl | rfl | rfl
  · exact Or.inl ⟨rfl, Or.inl rfl⟩
  · exact Or.inr (Or.inr ⟨rfl, Or.inr ⟨_, rfl⟩⟩)
  · exact Or.inl ⟨rfl, Or.inl rfl⟩
  · exact Or.inl ⟨rfl, Or.inl rfl⟩
  · exact Or.inl ⟨rfl, Or.inl rfl⟩
  · exact Or.inl ⟨rfl, Or.inl rfl⟩
  · exact Or.inr (Or.inr ⟨rfl, Or.inr ⟨_, rfl⟩⟩)
  · exact Or.inr (Or.inr ⟨rfl, Or.inr ⟨_, rfl⟩⟩)
  · exact Or.inr (Or.inr ⟨rfl, Or.inr ⟨_, rfl⟩⟩)
  · exact Or.inr (Or.inr ⟨rfl, Or.inr ⟨_, rfl⟩⟩)
  · exact Or.inl ⟨rfl, Or.inl rfl⟩
  · exact Or.inl ⟨rfl, Or.inl rfl⟩
  · exact Or.inr (Or.inr ⟨rfl, Or.inr ⟨_, rfl⟩⟩)
  · exact Or.inr (Or.inr ⟨rfl, Or.inr ⟨_, rfl⟩⟩)
  · exact Or.inr (Or.inr ⟨rfl, Or.inr ⟨_, rfl⟩⟩)
  · exact Or.inr (Or.inr ⟨rfl, Or.inr ⟨_, rfl⟩⟩)
  · exact Or.inr (Or.inr ⟨rfl, Or.inr ⟨_, rfl⟩⟩)
  · exact Or.inr (Or.inr ⟨rfl, Or.inr ⟨_, rfl⟩⟩)
  · exact Or.inr (Or.inr ⟨rfl, Or.inr ⟨_, rfl⟩⟩)
  · exact Or.inr (Or.inr ⟨rfl, Or.inr ⟨_, rfl⟩⟩)
  · exact Or.inr (Or.inr ⟨rfl, Or.inr ⟨_, rfl⟩⟩)
  · exact Or.inr (Or.inr ⟨rfl, Or.inr ⟨_, rfl⟩⟩)
  · exact Or.inr (Or.inr ⟨rfl, Or.inr ⟨_, rfl⟩⟩)
  · exact Or.inr (Or.inr ⟨rfl, Or.inr ⟨_, rfl⟩⟩)
  · exact Or.inr (Or.inr ⟨rfl, Or.inr ⟨_, rfl⟩⟩)
  · exact Or.inr (Or.inr ⟨rfl, Or.inr ⟨_, rfl⟩⟩)
  · exact Or.inr (Or.inr ⟨rfl, Or.inr ⟨_, rfl⟩⟩)
  · exact Or.inr (Or.inr ⟨rfl, Or.inr ⟨_, rfl⟩⟩)
  · exact Or.inr (Or.inr ⟨rfl, Or.inr ⟨_, rfl⟩⟩)
  · exact Or.inr (Or.inr ⟨rfl, Or.inr ⟨_, rfl⟩⟩)
  · exact Or.inr (Or.inr ⟨rfl, Or.inr ⟨_, rfl⟩⟩)
  · exact Or.inl ⟨rfl, Or.inl rfl⟩
  · exact Or.inr (Or.inr ⟨rfl, Or.inr ⟨_, rfl⟩⟩)
  · exact Or.inr (Or.inr ⟨rfl, Or.inr ⟨_, rfl⟩⟩)
  · exact Or.inr (Or.inr ⟨rfl, Or.inr ⟨_, rfl⟩⟩)
  · exact Or.inl ⟨rfl, Or.inl rfl⟩
  · exact Or.inr (Or.inl ⟨rfl, rfl⟩)
  · exact Or.inl ⟨rfl, Or.inl rfl⟩
  · exact Or.inl ⟨rfl, Or.inl rfl⟩
  · exact Or.inr (Or.inr ⟨rfl, Or.inr ⟨_, rfl⟩⟩)
  · exact Or.inr (Or.inr ⟨rfl, Or.inr ⟨_, rfl⟩⟩)
  · exact Or.inl ⟨rfl, Or.inl rfl⟩
  · exact Or.inl ⟨rfl, Or.inl rfl⟩
  · exact Or.inl ⟨rfl, Or.inl rfl⟩
  · exact Or.inl ⟨rfl, Or.inl rfl⟩
  · exact Or.inl ⟨rfl, Or.inl rfl⟩
  · exact Or.inl ⟨rfl, Or.inl rfl⟩
  · exact Or.inr (Or.inr ⟨rfl, Or.inr ⟨_, rfl⟩⟩)
  · exact Or.inr (Or.inr ⟨rfl, Or.inr ⟨_, rfl⟩⟩)
  · exact Or.inr (Or.inr ⟨rfl, Or.inr ⟨_, rfl⟩⟩)
  · exact Or.inr (Or.inr ⟨rfl, Or.inr ⟨_, rfl⟩⟩)
  · exact Or.inr (Or.inr ⟨rfl, Or.inr ⟨_, rfl⟩⟩)
  · exact Or.inr (Or.inr ⟨rfl, Or.inr ⟨_, rfl⟩⟩)
  · exact Or.inr (Or.inr ⟨rfl, Or.inr ⟨_, rfl⟩⟩)
  · exact Or.inr (Or.inr ⟨rfl, Or.inr ⟨_, rfl⟩⟩)
  · exact Or.inr (Or.inr ⟨rfl, Or.inr ⟨_, rfl⟩⟩)
theorem dcc_0 : ∃ T, clT[0]? = some ("PlanDesk$Book", T, nf 0) := ⟨TC0, rfl⟩
theorem dcc_1 : ∃ T, clT[1]? = some ("PlanDesk$Clause", T, nf 1) := ⟨TC1, rfl⟩
theorem dcc_2 : ∃ T, clT[2]? = some ("PlanDesk$Facts", T, nf 2) := ⟨TC2, rfl⟩
theorem dcc_3 : ∃ T, clT[3]? = some ("PlanDesk$Literal", T, nf 3) := ⟨TC3, rfl⟩
theorem dcc_4 : ∃ T, clT[4]? = some ("PlanDesk$Reader", T, nf 4) := ⟨TC4, rfl⟩
theorem dcc_5 : ∃ T, clT[5]? = some ("PlanDesk$Rules", T, nf 5) := ⟨TC5, rfl⟩
theorem dcc_6 : ∃ T, clT[6]? = some ("PlanDesk$Tape", T, nf 6) := ⟨TC6, rfl⟩
theorem dcc_7 : ∃ T, clT[7]? = some ("PlanDesk$Tokens", T, nf 7) := ⟨TC7, rfl⟩
theorem dcc_8 : ∃ T, clT[8]? = some ("PlanDesk", T, nf 8) := ⟨TC8, rfl⟩
theorem dcc_9 : ∃ T, clT[9]? = some ("PlanDeskModel", T, nf 9) := ⟨TC9, rfl⟩
theorem bl {n a b : Nat} (h : n + b ≤ 1000) (hk : a < b) : n + a < 1000 := by omega
theorem bbc {n a b c : Nat} (h : n + b ≤ 1000) (hk : a + c ≤ b) : n + a + c ≤ 1000 := by omega
theorem bb {n a b : Nat} (h : n + b ≤ 1000) (hk : a ≤ b) : n + a ≤ 1000 := by omega
theorem bp {n a : Nat} (hk : 0 < a) : 0 < n + a := by omega
theorem qle {n q b : Nat} (h : q ≤ n) (hb : n + b ≤ 1000) : q ≤ 1000 := by omega
theorem qln {n q k : Nat} {w : Wo} (h : q ≤ n) (hn : wn w = n + k) : q ≤ wn w := by omega
theorem qne {n q k : Nat} (h : q ≤ n) (hk : 0 < k) (e : q = n + k) : False := by omega
theorem inA5 {w : Wo} {a : Nat} {i : Int} (h : oq w a (5, 6)) (hi : 0 ≤ i ∧ i < 6) : inA w a 5 i := ⟨h.1, h.2.1, by rw [h.2.2], hi.1, by rw [h.2.2]; exact hi.2, by rw [h.2.2]; decide⟩
theorem wd_c0 : (Jvm.Cond.methodLink "PlanDesk$Literal" (3 : Nat) ({ cls := "java/lang/Object", name := "<init>", desc := "()V" } : Jvm.MethodName)) ∈ AW := (aw1 (i := 89) rfl rfl)
theorem wd_c1 : (Jvm.Cond.instanceMethod ({ cls := "java/lang/Object", name := "<init>", desc := "()V" } : Jvm.MethodName)) ∈ AW := (aw1 (i := 29) rfl rfl)
theorem wd_c2 : (Jvm.Cond.code ({ cls := "java/lang/Object", name := "<init>", desc := "()V" } : Jvm.MethodName) object_method_1_code (1 : Nat) (Option.none : Option Jvm.ClassFile.FieldType)) ∈ AW := (aw1 (i := 30) rfl rfl)
theorem wd_c3 : (Jvm.Cond.arrayClass Jvm.ClassFile.FieldType.long) ∈ AW := (aw1 (i := 77) rfl rfl)
theorem wd_c4 : (Jvm.Cond.arrayClass Jvm.ClassFile.FieldType.int) ∈ AW := (aw1 (i := 76) rfl rfl)
theorem wd_c5 : (Jvm.Cond.methodLink "PlanDesk$Tape" (3 : Nat) ({ cls := "java/lang/Object", name := "<init>", desc := "()V" } : Jvm.MethodName)) ∈ AW := (aw1 (i := 36) rfl rfl)
theorem wd_c6 : (Jvm.Cond.arrayClass Jvm.ClassFile.FieldType.byte) ∈ AW := (aw1 (i := 46) rfl rfl)
theorem wd_c7 : (Jvm.Cond.methodLink "PlanDesk$Tokens" (3 : Nat) ({ cls := "java/lang/Object", name := "<init>", desc := "()V" } : Jvm.MethodName)) ∈ AW := (aw1 (i := 58) rfl rfl)
theorem wd_c8 : (Jvm.Cond.methodLink "PlanDesk$Facts" (3 : Nat) ({ cls := "java/lang/Object", name := "<init>", desc := "()V" } : Jvm.MethodName)) ∈ AW := (aw1 (i := 186) rfl rfl)
theorem wd_c9 : (Jvm.Cond.methodLink "PlanDesk$Rules" (3 : Nat) ({ cls := "java/lang/Object", name := "<init>", desc := "()V" } : Jvm.MethodName)) ∈ AW := (aw2 (i := 2) rfl rfl)
theorem wd_c10 : (Jvm.Cond.methodLink "PlanDesk$Book" (3 : Nat) ({ cls := "java/lang/Object", name := "<init>", desc := "()V" } : Jvm.MethodName)) ∈ AW := (aw1 (i := 236) rfl rfl)
theorem nl_Bk_init_9 : NLP m_Bk_init 9 5 := ⟨RC5, TC5, rfl, (aw1 (i := 237) rfl rfl), (aw1 (i := 238) rfl rfl), (aw1 (i := 9) rfl rfl)⟩
theorem cac_Bk_init_Rl_init : CaP m_Bk_init m_Rl_init 0 := ⟨(aw2 (i := 1) rfl rfl), (aw1 (i := 9) rfl rfl), ⟨by decide, by decide⟩, by decide +kernel, by decide, by decide⟩
theorem wd_c11 : (Jvm.Cond.instanceMethod ({ cls := "PlanDesk$Rules", name := "<init>", desc := "()V" } : Jvm.MethodName)) ∈ AW := (aw2 (i := 0) rfl rfl)
theorem wd_c12 : (Jvm.Cond.methodLink "PlanDesk$Clause" (3 : Nat) ({ cls := "java/lang/Object", name := "<init>", desc := "()V" } : Jvm.MethodName)) ∈ AW := (aw1 (i := 83) rfl rfl)
theorem nl_Cl_init_9 : NLP m_Cl_init 9 3 := ⟨RC3, TC3, rfl, (aw1 (i := 84) rfl rfl), (aw1 (i := 85) rfl rfl), (aw1 (i := 6) rfl rfl)⟩
theorem cac_Cl_init_Lt_init : CaP m_Cl_init m_Lt_init 0 := ⟨(aw1 (i := 88) rfl rfl), (aw1 (i := 6) rfl rfl), ⟨by decide, by decide⟩, by decide +kernel, by decide, by decide⟩
theorem wd_c13 : (Jvm.Cond.instanceMethod ({ cls := "PlanDesk$Literal", name := "<init>", desc := "()V" } : Jvm.MethodName)) ∈ AW := (aw1 (i := 87) rfl rfl)
theorem wd_c14 : (Jvm.Cond.classLink "PlanDesk$Clause" (9 : Nat) "PlanDesk$Literal") ∈ AW := (aw1 (i := 84) rfl rfl)
theorem wd_c15 : (Jvm.Cond.methodLink "PlanDesk$Reader" (3 : Nat) ({ cls := "java/lang/Object", name := "<init>", desc := "()V" } : Jvm.MethodName)) ∈ AW := (aw1 (i := 52) rfl rfl)
theorem nl_Rd_init_9 : NLP m_Rd_init 9 7 := ⟨RC7, TC7, rfl, (aw1 (i := 53) rfl rfl), (aw1 (i := 54) rfl rfl), (aw1 (i := 4) rfl rfl)⟩
theorem cac_Rd_init_Tk_init : CaP m_Rd_init m_Tk_init 0 := ⟨(aw1 (i := 57) rfl rfl), (aw1 (i := 4) rfl rfl), ⟨by decide, by decide⟩, by decide +kernel, by decide, by decide⟩
theorem wd_c16 : (Jvm.Cond.instanceMethod ({ cls := "PlanDesk$Tokens", name := "<init>", desc := "()V" } : Jvm.MethodName)) ∈ AW := (aw1 (i := 56) rfl rfl)
theorem nl_Rd_init_18 : NLP m_Rd_init 18 1 := ⟨RC1, TC1, rfl, (aw1 (i := 78) rfl rfl), (aw1 (i := 79) rfl rfl), (aw1 (i := 5) rfl rfl)⟩
theorem cac_Rd_init_Cl_init : CaP m_Rd_init m_Cl_init 0 := ⟨(aw1 (i := 82) rfl rfl), (aw1 (i := 5) rfl rfl), ⟨by decide, by decide⟩, by decide +kernel, by decide, by decide⟩
theorem wd_c17 : (Jvm.Cond.methodLink "PlanDesk$Reader" (20 : Nat) ({ cls := "PlanDesk$Clause", name := "<init>", desc := "()V" } : Jvm.MethodName)) ∈ AW := (aw1 (i := 80) rfl rfl)
theorem wd_c18 : (Jvm.Cond.instanceMethod ({ cls := "PlanDesk$Clause", name := "<init>", desc := "()V" } : Jvm.MethodName)) ∈ AW := (aw1 (i := 81) rfl rfl)
theorem nl_Rd_init_25 : NLP m_Rd_init 25 2 := ⟨RC2, TC2, rfl, (aw1 (i := 181) rfl rfl), (aw1 (i := 182) rfl rfl), (aw1 (i := 7) rfl rfl)⟩
theorem cac_Rd_init_Fc_init : CaP m_Rd_init m_Fc_init 0 := ⟨(aw1 (i := 185) rfl rfl), (aw1 (i := 7) rfl rfl), ⟨by decide, by decide⟩, by decide +kernel, by decide, by decide⟩
theorem wd_c19 : (Jvm.Cond.instanceMethod ({ cls := "PlanDesk$Facts", name := "<init>", desc := "()V" } : Jvm.MethodName)) ∈ AW := (aw1 (i := 184) rfl rfl)
theorem wd_c20 : (Jvm.Cond.methodLink "PlanDesk" (1 : Nat) ({ cls := "java/lang/Object", name := "<init>", desc := "()V" } : Jvm.MethodName)) ∈ AW := (aw1 (i := 28) rfl rfl)
theorem nl_D_init_7 : NLP m_D_init 7 6 := ⟨RC6, TC6, rfl, (aw1 (i := 31) rfl rfl), (aw1 (i := 32) rfl rfl), (aw1 (i := 2) rfl rfl)⟩
theorem cac_D_init_Tp_init : CaP m_D_init m_Tp_init 0 := ⟨(aw1 (i := 35) rfl rfl), (aw1 (i := 2) rfl rfl), ⟨by decide, by decide⟩, by decide +kernel, by decide, by decide⟩
theorem wd_c21 : (Jvm.Cond.instanceMethod ({ cls := "PlanDesk$Tape", name := "<init>", desc := "()V" } : Jvm.MethodName)) ∈ AW := (aw1 (i := 34) rfl rfl)
theorem nl_D_init_16 : NLP m_D_init 16 4 := ⟨RC4, TC4, rfl, (aw1 (i := 47) rfl rfl), (aw1 (i := 48) rfl rfl), (aw1 (i := 3) rfl rfl)⟩
theorem cac_D_init_Rd_init : CaP m_D_init m_Rd_init 0 := ⟨(aw1 (i := 51) rfl rfl), (aw1 (i := 3) rfl rfl), ⟨by decide, by decide⟩, by decide +kernel, by decide, by decide⟩
theorem wd_c22 : (Jvm.Cond.instanceMethod ({ cls := "PlanDesk$Reader", name := "<init>", desc := "()V" } : Jvm.MethodName)) ∈ AW := (aw1 (i := 50) rfl rfl)
theorem nl_D_init_23 : NLP m_D_init 23 0 := ⟨RC0, TC0, rfl, (aw1 (i := 231) rfl rfl), (aw1 (i := 232) rfl rfl), (aw1 (i := 8) rfl rfl)⟩
theorem cac_D_init_Bk_init : CaP m_D_init m_Bk_init 0 := ⟨(aw1 (i := 235) rfl rfl), (aw1 (i := 8) rfl rfl), ⟨by decide, by decide⟩, by decide +kernel, by decide, by decide⟩
theorem wd_c23 : (Jvm.Cond.instanceMethod ({ cls := "PlanDesk$Book", name := "<init>", desc := "()V" } : Jvm.MethodName)) ∈ AW := (aw1 (i := 234) rfl rfl)
theorem wd_c24 : (Jvm.Cond.methodLink "PlanDeskModel" (1 : Nat) ({ cls := "java/lang/Object", name := "<init>", desc := "()V" } : Jvm.MethodName)) ∈ AW := (aw4 (i := 89) rfl rfl)
theorem wd_c25 : (Jvm.Cond.arrayClass Jvm.ClassFile.FieldType.boolean) ∈ AW := (aw5 (i := 19) rfl rfl)

/-! the law at its loop's head (by program) -/
theorem lc_L_29 : Jvm.Cond.constantLong "PlanDeskLaw" 29 (Int64.ofInt 4294967295) ∈ AW := (aw6 (i := 0) rfl rfl)
theorem cvl_31 (xs : List Int) : VLP (m_law xs) m_D_type 31 2 8 := ⟨⟨(aw2 (i := 108) rfl rfl), (aw1 (i := 1) rfl rfl), ⟨by decide, by decide⟩, by decide +kernel, Nat.le_of_ble_eq_true rfl, Nat.le_of_ble_eq_true rfl⟩, (aw2 (i := 105) rfl rfl), (aw2 (i := 106) rfl rfl), (aw2 (i := 107) rfl rfl), TC8, rfl⟩
theorem cvl_35 (xs : List Int) : VLP (m_law xs) m_M_type 35 2 9 := ⟨⟨(aw5 (i := 27) rfl rfl), (aw1 (i := 10) rfl rfl), ⟨by decide, by decide⟩, by decide +kernel, Nat.le_of_ble_eq_true rfl, Nat.le_of_ble_eq_true rfl⟩, (aw5 (i := 24) rfl rfl), (aw5 (i := 25) rfl rfl), (aw5 (i := 26) rfl rfl), TC9, rfl⟩
theorem cvl_41 (xs : List Int) : VLP (m_law xs) m_M_program 41 0 9 := ⟨⟨(aw5 (i := 32) rfl rfl), (aw1 (i := 10) rfl rfl), ⟨by decide, by decide⟩, by decide +kernel, Nat.le_of_ble_eq_true rfl, Nat.le_of_ble_eq_true rfl⟩, (aw5 (i := 29) rfl rfl), (aw5 (i := 30) rfl rfl), (aw5 (i := 31) rfl rfl), TC9, rfl⟩
theorem cvl_42 (xs : List Int) : VLP (m_law xs) m_M_thrown 42 0 9 := ⟨⟨(aw5 (i := 23) rfl rfl), (aw1 (i := 10) rfl rfl), ⟨by decide, by decide⟩, by decide +kernel, Nat.le_of_ble_eq_true rfl, Nat.le_of_ble_eq_true rfl⟩, (aw5 (i := 20) rfl rfl), (aw5 (i := 21) rfl rfl), (aw5 (i := 22) rfl rfl), TC9, rfl⟩
theorem cvl_45 (xs : List Int) : VLP (m_law xs) m_D_fault 45 1 8 := ⟨⟨(aw2 (i := 119) rfl rfl), (aw1 (i := 1) rfl rfl), ⟨by decide, by decide⟩, by decide +kernel, Nat.le_of_ble_eq_true rfl, Nat.le_of_ble_eq_true rfl⟩, (aw2 (i := 116) rfl rfl), (aw2 (i := 117) rfl rfl), (aw2 (i := 118) rfl rfl), TC8, rfl⟩
theorem cvl_49 (xs : List Int) : VLP (m_law xs) m_M_fault 49 1 9 := ⟨⟨(aw5 (i := 193) rfl rfl), (aw1 (i := 10) rfl rfl), ⟨by decide, by decide⟩, by decide +kernel, Nat.le_of_ble_eq_true rfl, Nat.le_of_ble_eq_true rfl⟩, (aw5 (i := 190) rfl rfl), (aw5 (i := 191) rfl rfl), (aw5 (i := 192) rfl rfl), TC9, rfl⟩
theorem cvl_50 (xs : List Int) : VLP (m_law xs) m_D_predicates 50 0 8 := ⟨⟨(aw2 (i := 123) rfl rfl), (aw1 (i := 1) rfl rfl), ⟨by decide, by decide⟩, by decide +kernel, Nat.le_of_ble_eq_true rfl, Nat.le_of_ble_eq_true rfl⟩, (aw2 (i := 120) rfl rfl), (aw2 (i := 121) rfl rfl), (aw2 (i := 122) rfl rfl), TC8, rfl⟩
theorem cvl_53 (xs : List Int) : VLP (m_law xs) m_M_predicates 53 0 9 := ⟨⟨(aw5 (i := 197) rfl rfl), (aw1 (i := 10) rfl rfl), ⟨by decide, by decide⟩, by decide +kernel, Nat.le_of_ble_eq_true rfl, Nat.le_of_ble_eq_true rfl⟩, (aw5 (i := 194) rfl rfl), (aw5 (i := 195) rfl rfl), (aw5 (i := 196) rfl rfl), TC9, rfl⟩
theorem cvl_54 (xs : List Int) : VLP (m_law xs) m_D_predicate 54 2 8 := ⟨⟨(aw2 (i := 127) rfl rfl), (aw1 (i := 1) rfl rfl), ⟨by decide, by decide⟩, by decide +kernel, Nat.le_of_ble_eq_true rfl, Nat.le_of_ble_eq_true rfl⟩, (aw2 (i := 124) rfl rfl), (aw2 (i := 125) rfl rfl), (aw2 (i := 126) rfl rfl), TC8, rfl⟩
theorem cvl_57 (xs : List Int) : VLP (m_law xs) m_M_predicate 57 2 9 := ⟨⟨(aw5 (i := 201) rfl rfl), (aw1 (i := 10) rfl rfl), ⟨by decide, by decide⟩, by decide +kernel, Nat.le_of_ble_eq_true rfl, Nat.le_of_ble_eq_true rfl⟩, (aw5 (i := 198) rfl rfl), (aw5 (i := 199) rfl rfl), (aw5 (i := 200) rfl rfl), TC9, rfl⟩
theorem cvl_58 (xs : List Int) : VLP (m_law xs) m_D_hangs 58 2 8 := ⟨⟨(aw2 (i := 137) rfl rfl), (aw1 (i := 1) rfl rfl), ⟨by decide, by decide⟩, by decide +kernel, Nat.le_of_ble_eq_true rfl, Nat.le_of_ble_eq_true rfl⟩, (aw2 (i := 134) rfl rfl), (aw2 (i := 135) rfl rfl), (aw2 (i := 136) rfl rfl), TC8, rfl⟩
theorem cvl_62 (xs : List Int) : VLP (m_law xs) m_M_hangs 62 2 9 := ⟨⟨(aw5 (i := 208) rfl rfl), (aw1 (i := 10) rfl rfl), ⟨by decide, by decide⟩, by decide +kernel, Nat.le_of_ble_eq_true rfl, Nat.le_of_ble_eq_true rfl⟩, (aw5 (i := 205) rfl rfl), (aw5 (i := 206) rfl rfl), (aw5 (i := 207) rfl rfl), TC9, rfl⟩
theorem cvl_66 (xs : List Int) : VLP (m_law xs) m_M_rule 66 2 9 := ⟨⟨(aw5 (i := 212) rfl rfl), (aw1 (i := 10) rfl rfl), ⟨by decide, by decide⟩, by decide +kernel, Nat.le_of_ble_eq_true rfl, Nat.le_of_ble_eq_true rfl⟩, (aw5 (i := 209) rfl rfl), (aw5 (i := 210) rfl rfl), (aw5 (i := 211) rfl rfl), TC9, rfl⟩
theorem cvl_70 (xs : List Int) : VLP (m_law xs) m_M_literal 70 3 9 := ⟨⟨(aw5 (i := 216) rfl rfl), (aw1 (i := 10) rfl rfl), ⟨by decide, by decide⟩, by decide +kernel, Nat.le_of_ble_eq_true rfl, Nat.le_of_ble_eq_true rfl⟩, (aw5 (i := 213) rfl rfl), (aw5 (i := 214) rfl rfl), (aw5 (i := 215) rfl rfl), TC9, rfl⟩
theorem slh_36 (xs : List Int) : SLH (m_law xs) m_L_program hh_program 36 2 := ⟨(aw2 (i := 144) rfl rfl), (aw1 (i := 0) rfl rfl), ⟨by decide, by decide⟩, by decide +kernel, ⟨Nat.le_of_ble_eq_true rfl, Nat.le_of_ble_eq_true rfl⟩, (aw2 (i := 142) rfl rfl), (aw2 (i := 143) rfl rfl)⟩
theorem slh_63 (xs : List Int) : SLH (m_law xs) m_L_rule hh_rule 63 4 := ⟨(aw4 (i := 48) rfl rfl), (aw1 (i := 0) rfl rfl), ⟨by decide, by decide⟩, by decide +kernel, ⟨Nat.le_of_ble_eq_true rfl, Nat.le_of_ble_eq_true rfl⟩, (aw4 (i := 46) rfl rfl), (aw4 (i := 47) rfl rfl)⟩
theorem slh_67 (xs : List Int) : SLH (m_law xs) m_L_literal hh_literal 67 5 := ⟨(aw4 (i := 77) rfl rfl), (aw1 (i := 0) rfl rfl), ⟨by decide, by decide⟩, by decide +kernel, ⟨Nat.le_of_ble_eq_true rfl, Nat.le_of_ble_eq_true rfl⟩, (aw4 (i := 75) rfl rfl), (aw4 (i := 76) rfl rfl)⟩
theorem sw_L_law_39 {y : Int} (h0 : ¬ y = 0) (h1 : ¬ y = 1) (h2 : ¬ y = 2) (h3 : ¬ y = 3) (h4 : ¬ y = 4) (h5 : ¬ y = 5) (h6 : ¬ y = 6) (h7 : ¬ y = 7) : y < 0 ∨ 7 < y := by omega
set_option maxRecDepth 20000 in
set_option maxHeartbeats 4000000 in
theorem t_L_law_23 {xs : List Int} {x4 : Int} {k1 k2 : Nat} {w : Wo} {Q : Option AV → Wo → Prop} (hk1 : k1 + 1 ≤ (rmm (m_law xs)).cells ∧ k2 + 6 ≤ (rmm (m_law xs)).slots) (h : inr32 ((xs.length : Int) - 4) ∧ ((((xs.length : Int) - 4) < x4 → Q (some (vi 1)) w) ∧ (¬ ((xs.length : Int) - 4) < x4 → (0 ≤ x4 ∧ x4 < (xs.length : Int)) ∧ (((b_iand (xs.getD x4.toNat 0) 7) = 0 → inr32 (x4 + 1) ∧ (0 ≤ (x4 + 1) ∧ (x4 + 1) < (xs.length : Int)) ∧ inr32 (x4 + 2) ∧ (0 ≤ (x4 + 2) ∧ (x4 + 2) < (xs.length : Int)) ∧ inr32 (x4 + 3) ∧ (0 ≤ (x4 + 3) ∧ (x4 + 3) < (xs.length : Int)) ∧ MetI m_D_type [vr 1, vl (b_lor (b_lshl (xs.getD (x4 + 1).toNat 0) 32) (b_land (xs.getD (x4 + 2).toNat 0) 4294967295)), vi (xs.getD (x4 + 3).toNat 0)] w (fun z6 w5 => inr32 (x4 + 1) ∧ (0 ≤ (x4 + 1) ∧ (x4 + 1) < (xs.length : Int)) ∧ inr32 (x4 + 2) ∧ (0 ≤ (x4 + 2) ∧ (x4 + 2) < (xs.length : Int)) ∧ inr32 (x4 + 3) ∧ (0 ≤ (x4 + 3) ∧ (x4 + 3) < (xs.length : Int)) ∧ MetI m_M_type [vr 78, vl (b_lor (b_lshl (xs.getD (x4 + 1).toNat 0) 32) (b_land (xs.getD (x4 + 2).toNat 0) 4294967295)), vi (xs.getD (x4 + 3).toNat 0)] w5 (fun z11 w10 => ((z6 = z11 → inr32 (x4 + 4) ∧ WpG true true (m_law xs) 23 [(0, vr 4000), (1, vr 1), (2, vr 78), (3, vr 117), (4, vi (x4 + 4))] [] (k1, k2) w10 Q) ∧ (¬ z6 = z11 → Q (some (vi 0)) w10))))) ∧ ((b_iand (xs.getD x4.toNat 0) 7) = 1 → MetH m_L_program hh_program [vr 1, vr 117] w (fun r w12 => ∃ z13, r = some (vi z13) ∧ MetI m_M_program [vr 78] w12 (fun z15 w14 => MetI m_M_thrown [vr 78] w14 (fun z17 w16 => ((z17 = z13 → ((¬ z13 = 0 → inr32 (x4 + 4) ∧ WpG true true (m_law xs) 23 [(0, vr 4000), (1, vr 1), (2, vr 78), (3, vr 117), (4, vi (x4 + 4))] [] (k1 + 1, k2 + 6) w16 Q) ∧ (z13 = 0 → (((b_lcmp (gJ w16 117 0) z15) = 0 → inr32 (x4 + 4) ∧ WpG true true (m_law xs) 23 [(0, vr 4000), (1, vr 1), (2, vr 78), (3, vr 117), (4, vi (x4 + 4))] [] (k1 + 1, k2 + 6) w16 Q) ∧ (¬ (b_lcmp (gJ w16 117 0) z15) = 0 → Q (some (vi 0)) w16))))) ∧ (¬ z17 = z13 → Q (some (vi 0)) w16)))))) ∧ ((b_iand (xs.getD x4.toNat 0) 7) = 2 → inr32 (x4 + 1) ∧ (0 ≤ (x4 + 1) ∧ (x4 + 1) < (xs.length : Int)) ∧ MetI m_D_fault [vr 1, vi (xs.getD (x4 + 1).toNat 0)] w (fun z20 w19 => inr32 (x4 + 1) ∧ (0 ≤ (x4 + 1) ∧ (x4 + 1) < (xs.length : Int)) ∧ MetI m_M_fault [vr 78, vi (xs.getD (x4 + 1).toNat 0)] w19 (fun z23 w22 => ((z20 = z23 → inr32 (x4 + 4) ∧ WpG true true (m_law xs) 23 [(0, vr 4000), (1, vr 1), (2, vr 78), (3, vr 117), (4, vi (x4 + 4))] [] (k1, k2) w22 Q) ∧ (¬ z20 = z23 → Q (some (vi 0)) w22))))) ∧ ((b_iand (xs.getD x4.toNat 0) 7) = 3 → MetI m_D_predicates [vr 1] w (fun z25 w24 => MetI m_M_predicates [vr 78] w24 (fun z27 w26 => ((z25 = z27 → inr32 (x4 + 4) ∧ WpG true true (m_law xs) 23 [(0, vr 4000), (1, vr 1), (2, vr 78), (3, vr 117), (4, vi (x4 + 4))] [] (k1, k2) w26 Q) ∧ (¬ z25 = z27 → Q (some (vi 0)) w26))))) ∧ ((b_iand (xs.getD x4.toNat 0) 7) = 4 → inr32 (x4 + 1) ∧ (0 ≤ (x4 + 1) ∧ (x4 + 1) < (xs.length : Int)) ∧ inr32 (x4 + 2) ∧ (0 ≤ (x4 + 2) ∧ (x4 + 2) < (xs.length : Int)) ∧ MetI m_D_predicate [vr 1, vi (xs.getD (x4 + 1).toNat 0), vi (xs.getD (x4 + 2).toNat 0)] w (fun z31 w30 => inr32 (x4 + 1) ∧ (0 ≤ (x4 + 1) ∧ (x4 + 1) < (xs.length : Int)) ∧ inr32 (x4 + 2) ∧ (0 ≤ (x4 + 2) ∧ (x4 + 2) < (xs.length : Int)) ∧ MetI m_M_predicate [vr 78, vi (xs.getD (x4 + 1).toNat 0), vi (xs.getD (x4 + 2).toNat 0)] w30 (fun z35 w34 => ((z31 = z35 → inr32 (x4 + 4) ∧ WpG true true (m_law xs) 23 [(0, vr 4000), (1, vr 1), (2, vr 78), (3, vr 117), (4, vi (x4 + 4))] [] (k1, k2) w34 Q) ∧ (¬ z31 = z35 → Q (some (vi 0)) w34))))) ∧ ((b_iand (xs.getD x4.toNat 0) 7) = 5 → inr32 (x4 + 1) ∧ (0 ≤ (x4 + 1) ∧ (x4 + 1) < (xs.length : Int)) ∧ inr32 (x4 + 2) ∧ (0 ≤ (x4 + 2) ∧ (x4 + 2) < (xs.length : Int)) ∧ MetI m_D_hangs [vr 1, vi (xs.getD (x4 + 1).toNat 0), vi (xs.getD (x4 + 2).toNat 0)] w (fun z39 w38 => inr32 (x4 + 1) ∧ (0 ≤ (x4 + 1) ∧ (x4 + 1) < (xs.length : Int)) ∧ inr32 (x4 + 2) ∧ (0 ≤ (x4 + 2) ∧ (x4 + 2) < (xs.length : Int)) ∧ MetI m_M_hangs [vr 78, vi (xs.getD (x4 + 1).toNat 0), vi (xs.getD (x4 + 2).toNat 0)] w38 (fun z43 w42 => ((z39 = z43 → inr32 (x4 + 4) ∧ WpG true true (m_law xs) 23 [(0, vr 4000), (1, vr 1), (2, vr 78), (3, vr 117), (4, vi (x4 + 4))] [] (k1, k2) w42 Q) ∧ (¬ z39 = z43 → Q (some (vi 0)) w42))))) ∧ ((b_iand (xs.getD x4.toNat 0) 7) = 6 → inr32 (x4 + 1) ∧ (0 ≤ (x4 + 1) ∧ (x4 + 1) < (xs.length : Int)) ∧ inr32 (x4 + 2) ∧ (0 ≤ (x4 + 2) ∧ (x4 + 2) < (xs.length : Int)) ∧ MetH m_L_rule hh_rule [vr 1, vi (xs.getD (x4 + 1).toNat 0), vi (xs.getD (x4 + 2).toNat 0), vr 117] w (fun r w46 => ∃ z47, r = some (vi z47) ∧ inr32 (x4 + 1) ∧ (0 ≤ (x4 + 1) ∧ (x4 + 1) < (xs.length : Int)) ∧ inr32 (x4 + 2) ∧ (0 ≤ (x4 + 2) ∧ (x4 + 2) < (xs.length : Int)) ∧ MetI m_M_rule [vr 78, vi (xs.getD (x4 + 1).toNat 0), vi (xs.getD (x4 + 2).toNat 0)] w46 (fun z51 w50 => MetI m_M_thrown [vr 78] w50 (fun z53 w52 => ((z53 = z47 → ((¬ z47 = 0 → inr32 (x4 + 4) ∧ WpG true true (m_law xs) 23 [(0, vr 4000), (1, vr 1), (2, vr 78), (3, vr 117), (4, vi (x4 + 4))] [] (k1 + 1, k2 + 6) w52 Q) ∧ (z47 = 0 → (((b_lcmp (gJ w52 117 0) z51) = 0 → inr32 (x4 + 4) ∧ WpG true true (m_law xs) 23 [(0, vr 4000), (1, vr 1), (2, vr 78), (3, vr 117), (4, vi (x4 + 4))] [] (k1 + 1, k2 + 6) w52 Q) ∧ (¬ (b_lcmp (gJ w52 117 0) z51) = 0 → Q (some (vi 0)) w52))))) ∧ (¬ z53 = z47 → Q (some (vi 0)) w52)))))) ∧ ((b_iand (xs.getD x4.toNat 0) 7) = 7 → inr32 (x4 + 1) ∧ (0 ≤ (x4 + 1) ∧ (x4 + 1) < (xs.length : Int)) ∧ inr32 (x4 + 2) ∧ (0 ≤ (x4 + 2) ∧ (x4 + 2) < (xs.length : Int)) ∧ inr32 (x4 + 3) ∧ (0 ≤ (x4 + 3) ∧ (x4 + 3) < (xs.length : Int)) ∧ MetH m_L_literal hh_literal [vr 1, vi (xs.getD (x4 + 1).toNat 0), vi (xs.getD (x4 + 2).toNat 0), vi (xs.getD (x4 + 3).toNat 0), vr 117] w (fun r w57 => ∃ z58, r = some (vi z58) ∧ inr32 (x4 + 1) ∧ (0 ≤ (x4 + 1) ∧ (x4 + 1) < (xs.length : Int)) ∧ inr32 (x4 + 2) ∧ (0 ≤ (x4 + 2) ∧ (x4 + 2) < (xs.length : Int)) ∧ inr32 (x4 + 3) ∧ (0 ≤ (x4 + 3) ∧ (x4 + 3) < (xs.length : Int)) ∧ MetI m_M_literal [vr 78, vi (xs.getD (x4 + 1).toNat 0), vi (xs.getD (x4 + 2).toNat 0), vi (xs.getD (x4 + 3).toNat 0)] w57 (fun z63 w62 => MetI m_M_thrown [vr 78] w62 (fun z65 w64 => ((z65 = z58 → ((¬ z58 = 0 → inr32 (x4 + 4) ∧ WpG true true (m_law xs) 23 [(0, vr 4000), (1, vr 1), (2, vr 78), (3, vr 117), (4, vi (x4 + 4))] [] (k1 + 1, k2 + 6) w64 Q) ∧ (z58 = 0 → (((b_lcmp (gJ w64 117 0) z63) = 0 → inr32 (x4 + 4) ∧ WpG true true (m_law xs) 23 [(0, vr 4000), (1, vr 1), (2, vr 78), (3, vr 117), (4, vi (x4 + 4))] [] (k1 + 1, k2 + 6) w64 Q) ∧ (¬ (b_lcmp (gJ w64 117 0) z63) = 0 → Q (some (vi 0)) w64))))) ∧ (¬ z65 = z58 → Q (some (vi 0)) w64)))))) ∧ (¬ (b_iand (xs.getD x4.toNat 0) 7) = 0 → ¬ (b_iand (xs.getD x4.toNat 0) 7) = 1 → ¬ (b_iand (xs.getD x4.toNat 0) 7) = 2 → ¬ (b_iand (xs.getD x4.toNat 0) 7) = 3 → ¬ (b_iand (xs.getD x4.toNat 0) 7) = 4 → ¬ (b_iand (xs.getD x4.toNat 0) 7) = 5 → ¬ (b_iand (xs.getD x4.toNat 0) 7) = 6 → ¬ (b_iand (xs.getD x4.toNat 0) 7) = 7 → inr32 (x4 + 4) ∧ WpG true true (m_law xs) 23 [(0, vr 4000), (1, vr 1), (2, vr 78), (3, vr 117), (4, vi (x4 + 4))] [] (k1, k2) w Q))))) : WpG true true (m_law xs) 23 [(0, vr 4000), (1, vr 1), (2, vr 78), (3, vr 117), (4, vi x4)] [] (k1, k2) w Q := by
  have hk0 : k1 ≤ (rmm (m_law xs)).cells ∧ k2 ≤ (rmm (m_law xs)).slots := ⟨Nat.le_of_succ_le hk1.1, Nat.le_trans (Nat.le_add_right _ _) hk1.2⟩
  refine wp_ly (m := m_law xs) (fun hly => ?_)
  refine wp_iload (m := m_law xs) d_L_law_23 4 rfl ?_
  refine wp_aload_n (m := m_law xs) d_L_law_25 (i := 0) rfl 0 rfl ?_
  refine wp_slen (m := m_law xs) (xs := xs) rfl d_L_law_26 ?_
  refine wp_iconst (m := m_law xs) d_L_law_27 (by decide) ?_
  obtain ⟨ho, h⟩ := h
  refine wp_isub (m := m_law xs) d_L_law_28 ho ?_
  refine wp_icmp_gt (m := m_law xs) (tgt := 463) d_L_law_29 (by decide) (fun hc => ?_) (fun hc => ?_)
  · replace h := h.1 hc
    refine wp_iconst (m := m_law xs) d_L_law_463 (by decide) ?_
    exact wp_zret (m := m_law xs) d_L_law_464 rfl hk0 (by decide) h
  · replace h := h.2 hc
    refine wp_aload_n (m := m_law xs) d_L_law_32 (i := 0) rfl 0 rfl ?_
    refine wp_iload (m := m_law xs) d_L_law_33 4 rfl ?_
    obtain ⟨hi1, h⟩ := h
    refine wp_sld (m := m_law xs) (xs := xs) rfl hi1 d_L_law_35 ?_
    refine wp_bipush (m := m_law xs) d_L_law_36 (by decide) (by decide) ?_
    refine wp_iand (m := m_law xs) d_L_law_38 ?_
    by_cases hc0 : (b_iand (xs.getD x4.toNat 0) 7) = 0
    · replace h := h.1 hc0
      refine wp_tsw (m := m_law xs) (x := b_iand (xs.getD x4.toNat 0) 7) d_L_law_39 (by decide) 84 (by rw [hc0]; decide) ?_
      refine wp_aload_n (m := m_law xs) d_L_law_84 (i := 1) rfl 1 rfl ?_
      refine wp_aload_n (m := m_law xs) d_L_law_85 (i := 0) rfl 0 rfl ?_
      refine wp_iload (m := m_law xs) d_L_law_86 4 rfl ?_
      refine wp_iconst (m := m_law xs) d_L_law_88 (by decide) ?_
      obtain ⟨ho, h⟩ := h
      refine wp_iadd (m := m_law xs) d_L_law_89 ho ?_
      obtain ⟨hi2, h⟩ := h
      refine wp_sld (m := m_law xs) (xs := xs) rfl hi2 d_L_law_90 ?_
      refine wp_i2l (m := m_law xs) d_L_law_91 ?_
      refine wp_bipush (m := m_law xs) d_L_law_92 (by decide) (by decide) ?_
      refine wp_lshl (m := m_law xs) d_L_law_94 ?_
      refine wp_aload_n (m := m_law xs) d_L_law_95 (i := 0) rfl 0 rfl ?_
      refine wp_iload (m := m_law xs) d_L_law_96 4 rfl ?_
      refine wp_iconst (m := m_law xs) d_L_law_98 (by decide) ?_
      obtain ⟨ho, h⟩ := h
      refine wp_iadd (m := m_law xs) d_L_law_99 ho ?_
      obtain ⟨hi3, h⟩ := h
      refine wp_sld (m := m_law xs) (xs := xs) rfl hi3 d_L_law_100 ?_
      refine wp_i2l (m := m_law xs) d_L_law_101 ?_
      refine wp_ldc2 (m := m_law xs) d_L_law_102 (x := 4294967295) lc_L_29 (by decide) ?_
      refine wp_land (m := m_law xs) d_L_law_105 ?_
      refine wp_lor (m := m_law xs) d_L_law_106 ?_
      refine wp_aload_n (m := m_law xs) d_L_law_107 (i := 0) rfl 0 rfl ?_
      refine wp_iload (m := m_law xs) d_L_law_108 4 rfl ?_
      refine wp_iconst (m := m_law xs) d_L_law_110 (by decide) ?_
      obtain ⟨ho, h⟩ := h
      refine wp_iadd (m := m_law xs) d_L_law_111 ho ?_
      obtain ⟨hi4, h⟩ := h
      refine wp_sld (m := m_law xs) (xs := xs) rfl hi4 d_L_law_112 ?_
      refine wp_callV (m := m_law xs) (A := [vl (b_lor (b_lshl (xs.getD (x4 + 1).toNat 0) 32) (b_land (xs.getD (x4 + 2).toNat 0) 4294967295)), vi (xs.getD (x4 + 3).toNat 0)]) (S := []) d_L_law_113 (cvl_31 xs) (ly_o hly (by decide)) rfl (Nat.le_of_ble_eq_true rfl) hk0 (MetS.mono h (fun r w5 hh => ?_))
      obtain ⟨z6, er, h⟩ := hh
      subst er
      refine wp_ly (m := m_law xs) (fun hly => ?_)
      show WpG true true (m_law xs) _ _ [vi z6] (k1, k2) _ _
      refine wp_aload_n (m := m_law xs) d_L_law_116 (i := 2) rfl 2 rfl ?_
      refine wp_aload_n (m := m_law xs) d_L_law_117 (i := 0) rfl 0 rfl ?_
      refine wp_iload (m := m_law xs) d_L_law_118 4 rfl ?_
      refine wp_iconst (m := m_law xs) d_L_law_120 (by decide) ?_
      obtain ⟨ho, h⟩ := h
      refine wp_iadd (m := m_law xs) d_L_law_121 ho ?_
      obtain ⟨hi7, h⟩ := h
      refine wp_sld (m := m_law xs) (xs := xs) rfl hi7 d_L_law_122 ?_
      refine wp_i2l (m := m_law xs) d_L_law_123 ?_
      refine wp_bipush (m := m_law xs) d_L_law_124 (by decide) (by decide) ?_
      refine wp_lshl (m := m_law xs) d_L_law_126 ?_
      refine wp_aload_n (m := m_law xs) d_L_law_127 (i := 0) rfl 0 rfl ?_
      refine wp_iload (m := m_law xs) d_L_law_128 4 rfl ?_
      refine wp_iconst (m := m_law xs) d_L_law_130 (by decide) ?_
      obtain ⟨ho, h⟩ := h
      refine wp_iadd (m := m_law xs) d_L_law_131 ho ?_
      obtain ⟨hi8, h⟩ := h
      refine wp_sld (m := m_law xs) (xs := xs) rfl hi8 d_L_law_132 ?_
      refine wp_i2l (m := m_law xs) d_L_law_133 ?_
      refine wp_ldc2 (m := m_law xs) d_L_law_134 (x := 4294967295) lc_L_29 (by decide) ?_
      refine wp_land (m := m_law xs) d_L_law_137 ?_
      refine wp_lor (m := m_law xs) d_L_law_138 ?_
      refine wp_aload_n (m := m_law xs) d_L_law_139 (i := 0) rfl 0 rfl ?_
      refine wp_iload (m := m_law xs) d_L_law_140 4 rfl ?_
      refine wp_iconst (m := m_law xs) d_L_law_142 (by decide) ?_
      obtain ⟨ho, h⟩ := h
      refine wp_iadd (m := m_law xs) d_L_law_143 ho ?_
      obtain ⟨hi9, h⟩ := h
      refine wp_sld (m := m_law xs) (xs := xs) rfl hi9 d_L_law_144 ?_
      refine wp_callV (m := m_law xs) (A := [vl (b_lor (b_lshl (xs.getD (x4 + 1).toNat 0) 32) (b_land (xs.getD (x4 + 2).toNat 0) 4294967295)), vi (xs.getD (x4 + 3).toNat 0)]) (S := [vi z6]) d_L_law_145 (cvl_35 xs) (ly_o hly (by decide)) rfl (Nat.le_of_ble_eq_true rfl) hk0 (MetS.mono h (fun r w10 hh => ?_))
      obtain ⟨z11, er, h⟩ := hh
      subst er
      refine wp_ly (m := m_law xs) (fun hly => ?_)
      show WpG true true (m_law xs) _ _ [vi z11, vi z6] (k1, k2) _ _
      refine wp_icmp_eq (m := m_law xs) (tgt := 457) d_L_law_148 (by decide) (fun hc => ?_) (fun hc => ?_)
      · replace h := h.1 hc
        obtain ⟨ho, h⟩ := h
        refine wp_iinc (m := m_law xs) (L' := [(4, vi (x4 + 4)), (0, vr 4000), (1, vr 1), (2, vr 78), (3, vr 117)]) d_L_law_457 4 rfl rfl (Nat.le_of_ble_eq_true rfl) ho ?_
        refine wp_goto (m := m_law xs) (tgt := 23) d_L_law_460 (by decide) ?_
        exact wp_pick (m := m_law xs) [1, 2, 3, 4, 0] rfl h
      · replace h := h.2 hc
        refine wp_iconst (m := m_law xs) d_L_law_151 (by decide) ?_
        exact wp_zret (m := m_law xs) d_L_law_152 rfl hk0 (by decide) h
    replace h := h.2
    by_cases hc1 : (b_iand (xs.getD x4.toNat 0) 7) = 1
    · replace h := h.1 hc1
      refine wp_tsw (m := m_law xs) (x := b_iand (xs.getD x4.toNat 0) 7) d_L_law_39 (by decide) 153 (by rw [hc1]; decide) ?_
      refine wp_aload_n (m := m_law xs) d_L_law_153 (i := 1) rfl 1 rfl ?_
      refine wp_aload_n (m := m_law xs) d_L_law_154 (i := 3) rfl 3 rfl ?_
      refine wp_callSH (m := m_law xs) (A := [vr 1, vr 117]) (S := []) d_L_law_155 (slh_36 xs) rfl (Nat.le_of_ble_eq_true rfl) hk1 (MetH.mono h (fun r w12 hh => ?_))
      obtain ⟨z13, er, h⟩ := hh
      subst er
      refine wp_ly (m := m_law xs) (fun hly => ?_)
      show WpG true true (m_law xs) _ _ [vi z13] (k1 + 1, k2 + 6) _ _
      refine wp_istore (m := m_law xs) (L' := [(5, vi z13), (0, vr 4000), (1, vr 1), (2, vr 78), (3, vr 117), (4, vi x4)]) d_L_law_158 rfl (Nat.le_of_ble_eq_true rfl) ?_
      refine wp_aload_n (m := m_law xs) d_L_law_160 (i := 2) rfl 3 rfl ?_
      refine wp_callV (m := m_law xs) (A := []) (S := []) d_L_law_161 (cvl_41 xs) (ly_o hly (by decide)) rfl (Nat.le_of_ble_eq_true rfl) hk1 (MetS.mono h (fun r w14 hh => ?_))
      obtain ⟨z15, er, h⟩ := hh
      subst er
      refine wp_ly (m := m_law xs) (fun hly => ?_)
      show WpG true true (m_law xs) _ _ [vi z15] (k1 + 1, k2 + 6) _ _
      refine wp_istore (m := m_law xs) (L' := [(6, vi z15), (5, vi z13), (0, vr 4000), (1, vr 1), (2, vr 78), (3, vr 117), (4, vi x4)]) d_L_law_164 rfl (Nat.le_of_ble_eq_true rfl) ?_
      refine wp_aload_n (m := m_law xs) d_L_law_166 (i := 2) rfl 4 rfl ?_
      refine wp_callV (m := m_law xs) (A := []) (S := []) d_L_law_167 (cvl_42 xs) (ly_o hly (by decide)) rfl (Nat.le_of_ble_eq_true rfl) hk1 (MetS.mono h (fun r w16 hh => ?_))
      obtain ⟨z17, er, h⟩ := hh
      subst er
      refine wp_ly (m := m_law xs) (fun hly => ?_)
      show WpG true true (m_law xs) _ _ [vi z17] (k1 + 1, k2 + 6) _ _
      refine wp_iload (m := m_law xs) d_L_law_170 1 rfl ?_
      refine wp_icmp_eq (m := m_law xs) (tgt := 177) d_L_law_172 (by decide) (fun hc => ?_) (fun hc => ?_)
      · replace h := h.1 hc
        refine wp_iload (m := m_law xs) d_L_law_177 1 rfl ?_
        refine wp_if_ne (m := m_law xs) (tgt := 194) d_L_law_179 (by decide) (fun hc => ?_) (fun hc => ?_)
        · replace h := h.1 hc
          refine wp_goto (m := m_law xs) (tgt := 457) d_L_law_194 (by decide) ?_
          obtain ⟨ho, h⟩ := h
          refine wp_iinc (m := m_law xs) (L' := [(4, vi (x4 + 4)), (6, vi z15), (5, vi z13), (0, vr 4000), (1, vr 1), (2, vr 78), (3, vr 117)]) d_L_law_457 6 rfl rfl (Nat.le_of_ble_eq_true rfl) ho ?_
          refine wp_goto (m := m_law xs) (tgt := 23) d_L_law_460 (by decide) ?_
          exact wp_pick (m := m_law xs) [3, 4, 5, 6, 0] rfl h
        · replace h := h.2 hc
          refine wp_aload_n (m := m_law xs) d_L_law_182 (i := 3) rfl 5 rfl ?_
          refine wp_iconst (m := m_law xs) d_L_law_183 (by decide) ?_
          refine wp_laload (m := m_law xs) d_L_law_184 (ly_a (n := 1) (N := 1) hly (by decide) (by decide)) ?_
          refine wp_iload (m := m_law xs) d_L_law_185 0 rfl ?_
          refine wp_i2l (m := m_law xs) d_L_law_187 ?_
          refine wp_lcmp (m := m_law xs) d_L_law_188 ?_
          refine wp_if_eq (m := m_law xs) (tgt := 194) d_L_law_189 (by decide) (fun hc => ?_) (fun hc => ?_)
          · replace h := h.1 hc
            refine wp_goto (m := m_law xs) (tgt := 457) d_L_law_194 (by decide) ?_
            obtain ⟨ho, h⟩ := h
            refine wp_iinc (m := m_law xs) (L' := [(4, vi (x4 + 4)), (6, vi z15), (5, vi z13), (0, vr 4000), (1, vr 1), (2, vr 78), (3, vr 117)]) d_L_law_457 6 rfl rfl (Nat.le_of_ble_eq_true rfl) ho ?_
            refine wp_goto (m := m_law xs) (tgt := 23) d_L_law_460 (by decide) ?_
            exact wp_pick (m := m_law xs) [3, 4, 5, 6, 0] rfl h
          · replace h := h.2 hc
            refine wp_iconst (m := m_law xs) d_L_law_192 (by decide) ?_
            exact wp_zret (m := m_law xs) d_L_law_193 rfl hk1 (by decide) h
      · replace h := h.2 hc
        refine wp_iconst (m := m_law xs) d_L_law_175 (by decide) ?_
        exact wp_zret (m := m_law xs) d_L_law_176 rfl hk1 (by decide) h
    replace h := h.2
    by_cases hc2 : (b_iand (xs.getD x4.toNat 0) 7) = 2
    · replace h := h.1 hc2
      refine wp_tsw (m := m_law xs) (x := b_iand (xs.getD x4.toNat 0) 7) d_L_law_39 (by decide) 197 (by rw [hc2]; decide) ?_
      refine wp_aload_n (m := m_law xs) d_L_law_197 (i := 1) rfl 1 rfl ?_
      refine wp_aload_n (m := m_law xs) d_L_law_198 (i := 0) rfl 0 rfl ?_
      refine wp_iload (m := m_law xs) d_L_law_199 4 rfl ?_
      refine wp_iconst (m := m_law xs) d_L_law_201 (by decide) ?_
      obtain ⟨ho, h⟩ := h
      refine wp_iadd (m := m_law xs) d_L_law_202 ho ?_
      obtain ⟨hi18, h⟩ := h
      refine wp_sld (m := m_law xs) (xs := xs) rfl hi18 d_L_law_203 ?_
      refine wp_callV (m := m_law xs) (A := [vi (xs.getD (x4 + 1).toNat 0)]) (S := []) d_L_law_204 (cvl_45 xs) (ly_o hly (by decide)) rfl (Nat.le_of_ble_eq_true rfl) hk0 (MetS.mono h (fun r w19 hh => ?_))
      obtain ⟨z20, er, h⟩ := hh
      subst er
      refine wp_ly (m := m_law xs) (fun hly => ?_)
      show WpG true true (m_law xs) _ _ [vi z20] (k1, k2) _ _
      refine wp_aload_n (m := m_law xs) d_L_law_207 (i := 2) rfl 2 rfl ?_
      refine wp_aload_n (m := m_law xs) d_L_law_208 (i := 0) rfl 0 rfl ?_
      refine wp_iload (m := m_law xs) d_L_law_209 4 rfl ?_
      refine wp_iconst (m := m_law xs) d_L_law_211 (by decide) ?_
      obtain ⟨ho, h⟩ := h
      refine wp_iadd (m := m_law xs) d_L_law_212 ho ?_
      obtain ⟨hi21, h⟩ := h
      refine wp_sld (m := m_law xs) (xs := xs) rfl hi21 d_L_law_213 ?_
      refine wp_callV (m := m_law xs) (A := [vi (xs.getD (x4 + 1).toNat 0)]) (S := [vi z20]) d_L_law_214 (cvl_49 xs) (ly_o hly (by decide)) rfl (Nat.le_of_ble_eq_true rfl) hk0 (MetS.mono h (fun r w22 hh => ?_))
      obtain ⟨z23, er, h⟩ := hh
      subst er
      refine wp_ly (m := m_law xs) (fun hly => ?_)
      show WpG true true (m_law xs) _ _ [vi z23, vi z20] (k1, k2) _ _
      refine wp_icmp_eq (m := m_law xs) (tgt := 457) d_L_law_217 (by decide) (fun hc => ?_) (fun hc => ?_)
      · replace h := h.1 hc
        obtain ⟨ho, h⟩ := h
        refine wp_iinc (m := m_law xs) (L' := [(4, vi (x4 + 4)), (0, vr 4000), (1, vr 1), (2, vr 78), (3, vr 117)]) d_L_law_457 4 rfl rfl (Nat.le_of_ble_eq_true rfl) ho ?_
        refine wp_goto (m := m_law xs) (tgt := 23) d_L_law_460 (by decide) ?_
        exact wp_pick (m := m_law xs) [1, 2, 3, 4, 0] rfl h
      · replace h := h.2 hc
        refine wp_iconst (m := m_law xs) d_L_law_220 (by decide) ?_
        exact wp_zret (m := m_law xs) d_L_law_221 rfl hk0 (by decide) h
    replace h := h.2
    by_cases hc3 : (b_iand (xs.getD x4.toNat 0) 7) = 3
    · replace h := h.1 hc3
      refine wp_tsw (m := m_law xs) (x := b_iand (xs.getD x4.toNat 0) 7) d_L_law_39 (by decide) 222 (by rw [hc3]; decide) ?_
      refine wp_aload_n (m := m_law xs) d_L_law_222 (i := 1) rfl 1 rfl ?_
      refine wp_callV (m := m_law xs) (A := []) (S := []) d_L_law_223 (cvl_50 xs) (ly_o hly (by decide)) rfl (Nat.le_of_ble_eq_true rfl) hk0 (MetS.mono h (fun r w24 hh => ?_))
      obtain ⟨z25, er, h⟩ := hh
      subst er
      refine wp_ly (m := m_law xs) (fun hly => ?_)
      show WpG true true (m_law xs) _ _ [vi z25] (k1, k2) _ _
      refine wp_aload_n (m := m_law xs) d_L_law_226 (i := 2) rfl 2 rfl ?_
      refine wp_callV (m := m_law xs) (A := []) (S := [vi z25]) d_L_law_227 (cvl_53 xs) (ly_o hly (by decide)) rfl (Nat.le_of_ble_eq_true rfl) hk0 (MetS.mono h (fun r w26 hh => ?_))
      obtain ⟨z27, er, h⟩ := hh
      subst er
      refine wp_ly (m := m_law xs) (fun hly => ?_)
      show WpG true true (m_law xs) _ _ [vi z27, vi z25] (k1, k2) _ _
      refine wp_icmp_eq (m := m_law xs) (tgt := 457) d_L_law_230 (by decide) (fun hc => ?_) (fun hc => ?_)
      · replace h := h.1 hc
        obtain ⟨ho, h⟩ := h
        refine wp_iinc (m := m_law xs) (L' := [(4, vi (x4 + 4)), (0, vr 4000), (1, vr 1), (2, vr 78), (3, vr 117)]) d_L_law_457 4 rfl rfl (Nat.le_of_ble_eq_true rfl) ho ?_
        refine wp_goto (m := m_law xs) (tgt := 23) d_L_law_460 (by decide) ?_
        exact wp_pick (m := m_law xs) [1, 2, 3, 4, 0] rfl h
      · replace h := h.2 hc
        refine wp_iconst (m := m_law xs) d_L_law_233 (by decide) ?_
        exact wp_zret (m := m_law xs) d_L_law_234 rfl hk0 (by decide) h
    replace h := h.2
    by_cases hc4 : (b_iand (xs.getD x4.toNat 0) 7) = 4
    · replace h := h.1 hc4
      refine wp_tsw (m := m_law xs) (x := b_iand (xs.getD x4.toNat 0) 7) d_L_law_39 (by decide) 235 (by rw [hc4]; decide) ?_
      refine wp_aload_n (m := m_law xs) d_L_law_235 (i := 1) rfl 1 rfl ?_
      refine wp_aload_n (m := m_law xs) d_L_law_236 (i := 0) rfl 0 rfl ?_
      refine wp_iload (m := m_law xs) d_L_law_237 4 rfl ?_
      refine wp_iconst (m := m_law xs) d_L_law_239 (by decide) ?_
      obtain ⟨ho, h⟩ := h
      refine wp_iadd (m := m_law xs) d_L_law_240 ho ?_
      obtain ⟨hi28, h⟩ := h
      refine wp_sld (m := m_law xs) (xs := xs) rfl hi28 d_L_law_241 ?_
      refine wp_aload_n (m := m_law xs) d_L_law_242 (i := 0) rfl 0 rfl ?_
      refine wp_iload (m := m_law xs) d_L_law_243 4 rfl ?_
      refine wp_iconst (m := m_law xs) d_L_law_245 (by decide) ?_
      obtain ⟨ho, h⟩ := h
      refine wp_iadd (m := m_law xs) d_L_law_246 ho ?_
      obtain ⟨hi29, h⟩ := h
      refine wp_sld (m := m_law xs) (xs := xs) rfl hi29 d_L_law_247 ?_
      refine wp_callV (m := m_law xs) (A := [vi (xs.getD (x4 + 1).toNat 0), vi (xs.getD (x4 + 2).toNat 0)]) (S := []) d_L_law_248 (cvl_54 xs) (ly_o hly (by decide)) rfl (Nat.le_of_ble_eq_true rfl) hk0 (MetS.mono h (fun r w30 hh => ?_))
      obtain ⟨z31, er, h⟩ := hh
      subst er
      refine wp_ly (m := m_law xs) (fun hly => ?_)
      show WpG true true (m_law xs) _ _ [vi z31] (k1, k2) _ _
      refine wp_aload_n (m := m_law xs) d_L_law_251 (i := 2) rfl 2 rfl ?_
      refine wp_aload_n (m := m_law xs) d_L_law_252 (i := 0) rfl 0 rfl ?_
      refine wp_iload (m := m_law xs) d_L_law_253 4 rfl ?_
      refine wp_iconst (m := m_law xs) d_L_law_255 (by decide) ?_
      obtain ⟨ho, h⟩ := h
      refine wp_iadd (m := m_law xs) d_L_law_256 ho ?_
      obtain ⟨hi32, h⟩ := h
      refine wp_sld (m := m_law xs) (xs := xs) rfl hi32 d_L_law_257 ?_
      refine wp_aload_n (m := m_law xs) d_L_law_258 (i := 0) rfl 0 rfl ?_
      refine wp_iload (m := m_law xs) d_L_law_259 4 rfl ?_
      refine wp_iconst (m := m_law xs) d_L_law_261 (by decide) ?_
      obtain ⟨ho, h⟩ := h
      refine wp_iadd (m := m_law xs) d_L_law_262 ho ?_
      obtain ⟨hi33, h⟩ := h
      refine wp_sld (m := m_law xs) (xs := xs) rfl hi33 d_L_law_263 ?_
      refine wp_callV (m := m_law xs) (A := [vi (xs.getD (x4 + 1).toNat 0), vi (xs.getD (x4 + 2).toNat 0)]) (S := [vi z31]) d_L_law_264 (cvl_57 xs) (ly_o hly (by decide)) rfl (Nat.le_of_ble_eq_true rfl) hk0 (MetS.mono h (fun r w34 hh => ?_))
      obtain ⟨z35, er, h⟩ := hh
      subst er
      refine wp_ly (m := m_law xs) (fun hly => ?_)
      show WpG true true (m_law xs) _ _ [vi z35, vi z31] (k1, k2) _ _
      refine wp_icmp_eq (m := m_law xs) (tgt := 457) d_L_law_267 (by decide) (fun hc => ?_) (fun hc => ?_)
      · replace h := h.1 hc
        obtain ⟨ho, h⟩ := h
        refine wp_iinc (m := m_law xs) (L' := [(4, vi (x4 + 4)), (0, vr 4000), (1, vr 1), (2, vr 78), (3, vr 117)]) d_L_law_457 4 rfl rfl (Nat.le_of_ble_eq_true rfl) ho ?_
        refine wp_goto (m := m_law xs) (tgt := 23) d_L_law_460 (by decide) ?_
        exact wp_pick (m := m_law xs) [1, 2, 3, 4, 0] rfl h
      · replace h := h.2 hc
        refine wp_iconst (m := m_law xs) d_L_law_270 (by decide) ?_
        exact wp_zret (m := m_law xs) d_L_law_271 rfl hk0 (by decide) h
    replace h := h.2
    by_cases hc5 : (b_iand (xs.getD x4.toNat 0) 7) = 5
    · replace h := h.1 hc5
      refine wp_tsw (m := m_law xs) (x := b_iand (xs.getD x4.toNat 0) 7) d_L_law_39 (by decide) 272 (by rw [hc5]; decide) ?_
      refine wp_aload_n (m := m_law xs) d_L_law_272 (i := 1) rfl 1 rfl ?_
      refine wp_aload_n (m := m_law xs) d_L_law_273 (i := 0) rfl 0 rfl ?_
      refine wp_iload (m := m_law xs) d_L_law_274 4 rfl ?_
      refine wp_iconst (m := m_law xs) d_L_law_276 (by decide) ?_
      obtain ⟨ho, h⟩ := h
      refine wp_iadd (m := m_law xs) d_L_law_277 ho ?_
      obtain ⟨hi36, h⟩ := h
      refine wp_sld (m := m_law xs) (xs := xs) rfl hi36 d_L_law_278 ?_
      refine wp_aload_n (m := m_law xs) d_L_law_279 (i := 0) rfl 0 rfl ?_
      refine wp_iload (m := m_law xs) d_L_law_280 4 rfl ?_
      refine wp_iconst (m := m_law xs) d_L_law_282 (by decide) ?_
      obtain ⟨ho, h⟩ := h
      refine wp_iadd (m := m_law xs) d_L_law_283 ho ?_
      obtain ⟨hi37, h⟩ := h
      refine wp_sld (m := m_law xs) (xs := xs) rfl hi37 d_L_law_284 ?_
      refine wp_callV (m := m_law xs) (A := [vi (xs.getD (x4 + 1).toNat 0), vi (xs.getD (x4 + 2).toNat 0)]) (S := []) d_L_law_285 (cvl_58 xs) (ly_o hly (by decide)) rfl (Nat.le_of_ble_eq_true rfl) hk0 (MetS.mono h (fun r w38 hh => ?_))
      obtain ⟨z39, er, h⟩ := hh
      subst er
      refine wp_ly (m := m_law xs) (fun hly => ?_)
      show WpG true true (m_law xs) _ _ [vi z39] (k1, k2) _ _
      refine wp_aload_n (m := m_law xs) d_L_law_288 (i := 2) rfl 2 rfl ?_
      refine wp_aload_n (m := m_law xs) d_L_law_289 (i := 0) rfl 0 rfl ?_
      refine wp_iload (m := m_law xs) d_L_law_290 4 rfl ?_
      refine wp_iconst (m := m_law xs) d_L_law_292 (by decide) ?_
      obtain ⟨ho, h⟩ := h
      refine wp_iadd (m := m_law xs) d_L_law_293 ho ?_
      obtain ⟨hi40, h⟩ := h
      refine wp_sld (m := m_law xs) (xs := xs) rfl hi40 d_L_law_294 ?_
      refine wp_aload_n (m := m_law xs) d_L_law_295 (i := 0) rfl 0 rfl ?_
      refine wp_iload (m := m_law xs) d_L_law_296 4 rfl ?_
      refine wp_iconst (m := m_law xs) d_L_law_298 (by decide) ?_
      obtain ⟨ho, h⟩ := h
      refine wp_iadd (m := m_law xs) d_L_law_299 ho ?_
      obtain ⟨hi41, h⟩ := h
      refine wp_sld (m := m_law xs) (xs := xs) rfl hi41 d_L_law_300 ?_
      refine wp_callV (m := m_law xs) (A := [vi (xs.getD (x4 + 1).toNat 0), vi (xs.getD (x4 + 2).toNat 0)]) (S := [vi z39]) d_L_law_301 (cvl_62 xs) (ly_o hly (by decide)) rfl (Nat.le_of_ble_eq_true rfl) hk0 (MetS.mono h (fun r w42 hh => ?_))
      obtain ⟨z43, er, h⟩ := hh
      subst er
      refine wp_ly (m := m_law xs) (fun hly => ?_)
      show WpG true true (m_law xs) _ _ [vi z43, vi z39] (k1, k2) _ _
      refine wp_icmp_eq (m := m_law xs) (tgt := 457) d_L_law_304 (by decide) (fun hc => ?_) (fun hc => ?_)
      · replace h := h.1 hc
        obtain ⟨ho, h⟩ := h
        refine wp_iinc (m := m_law xs) (L' := [(4, vi (x4 + 4)), (0, vr 4000), (1, vr 1), (2, vr 78), (3, vr 117)]) d_L_law_457 4 rfl rfl (Nat.le_of_ble_eq_true rfl) ho ?_
        refine wp_goto (m := m_law xs) (tgt := 23) d_L_law_460 (by decide) ?_
        exact wp_pick (m := m_law xs) [1, 2, 3, 4, 0] rfl h
      · replace h := h.2 hc
        refine wp_iconst (m := m_law xs) d_L_law_307 (by decide) ?_
        exact wp_zret (m := m_law xs) d_L_law_308 rfl hk0 (by decide) h
    replace h := h.2
    by_cases hc6 : (b_iand (xs.getD x4.toNat 0) 7) = 6
    · replace h := h.1 hc6
      refine wp_tsw (m := m_law xs) (x := b_iand (xs.getD x4.toNat 0) 7) d_L_law_39 (by decide) 309 (by rw [hc6]; decide) ?_
      refine wp_aload_n (m := m_law xs) d_L_law_309 (i := 1) rfl 1 rfl ?_
      refine wp_aload_n (m := m_law xs) d_L_law_310 (i := 0) rfl 0 rfl ?_
      refine wp_iload (m := m_law xs) d_L_law_311 4 rfl ?_
      refine wp_iconst (m := m_law xs) d_L_law_313 (by decide) ?_
      obtain ⟨ho, h⟩ := h
      refine wp_iadd (m := m_law xs) d_L_law_314 ho ?_
      obtain ⟨hi44, h⟩ := h
      refine wp_sld (m := m_law xs) (xs := xs) rfl hi44 d_L_law_315 ?_
      refine wp_aload_n (m := m_law xs) d_L_law_316 (i := 0) rfl 0 rfl ?_
      refine wp_iload (m := m_law xs) d_L_law_317 4 rfl ?_
      refine wp_iconst (m := m_law xs) d_L_law_319 (by decide) ?_
      obtain ⟨ho, h⟩ := h
      refine wp_iadd (m := m_law xs) d_L_law_320 ho ?_
      obtain ⟨hi45, h⟩ := h
      refine wp_sld (m := m_law xs) (xs := xs) rfl hi45 d_L_law_321 ?_
      refine wp_aload_n (m := m_law xs) d_L_law_322 (i := 3) rfl 3 rfl ?_
      refine wp_callSH (m := m_law xs) (A := [vr 1, vi (xs.getD (x4 + 1).toNat 0), vi (xs.getD (x4 + 2).toNat 0), vr 117]) (S := []) d_L_law_323 (slh_63 xs) rfl (Nat.le_of_ble_eq_true rfl) hk1 (MetH.mono h (fun r w46 hh => ?_))
      obtain ⟨z47, er, h⟩ := hh
      subst er
      refine wp_ly (m := m_law xs) (fun hly => ?_)
      show WpG true true (m_law xs) _ _ [vi z47] (k1 + 1, k2 + 6) _ _
      refine wp_istore (m := m_law xs) (L' := [(5, vi z47), (0, vr 4000), (1, vr 1), (2, vr 78), (3, vr 117), (4, vi x4)]) d_L_law_326 rfl (Nat.le_of_ble_eq_true rfl) ?_
      refine wp_aload_n (m := m_law xs) d_L_law_328 (i := 2) rfl 3 rfl ?_
      refine wp_aload_n (m := m_law xs) d_L_law_329 (i := 0) rfl 1 rfl ?_
      refine wp_iload (m := m_law xs) d_L_law_330 5 rfl ?_
      refine wp_iconst (m := m_law xs) d_L_law_332 (by decide) ?_
      obtain ⟨ho, h⟩ := h
      refine wp_iadd (m := m_law xs) d_L_law_333 ho ?_
      obtain ⟨hi48, h⟩ := h
      refine wp_sld (m := m_law xs) (xs := xs) rfl hi48 d_L_law_334 ?_
      refine wp_aload_n (m := m_law xs) d_L_law_335 (i := 0) rfl 1 rfl ?_
      refine wp_iload (m := m_law xs) d_L_law_336 5 rfl ?_
      refine wp_iconst (m := m_law xs) d_L_law_338 (by decide) ?_
      obtain ⟨ho, h⟩ := h
      refine wp_iadd (m := m_law xs) d_L_law_339 ho ?_
      obtain ⟨hi49, h⟩ := h
      refine wp_sld (m := m_law xs) (xs := xs) rfl hi49 d_L_law_340 ?_
      refine wp_callV (m := m_law xs) (A := [vi (xs.getD (x4 + 1).toNat 0), vi (xs.getD (x4 + 2).toNat 0)]) (S := []) d_L_law_341 (cvl_66 xs) (ly_o hly (by decide)) rfl (Nat.le_of_ble_eq_true rfl) hk1 (MetS.mono h (fun r w50 hh => ?_))
      obtain ⟨z51, er, h⟩ := hh
      subst er
      refine wp_ly (m := m_law xs) (fun hly => ?_)
      show WpG true true (m_law xs) _ _ [vi z51] (k1 + 1, k2 + 6) _ _
      refine wp_istore (m := m_law xs) (L' := [(6, vi z51), (5, vi z47), (0, vr 4000), (1, vr 1), (2, vr 78), (3, vr 117), (4, vi x4)]) d_L_law_344 rfl (Nat.le_of_ble_eq_true rfl) ?_
      refine wp_aload_n (m := m_law xs) d_L_law_346 (i := 2) rfl 4 rfl ?_
      refine wp_callV (m := m_law xs) (A := []) (S := []) d_L_law_347 (cvl_42 xs) (ly_o hly (by decide)) rfl (Nat.le_of_ble_eq_true rfl) hk1 (MetS.mono h (fun r w52 hh => ?_))
      obtain ⟨z53, er, h⟩ := hh
      subst er
      refine wp_ly (m := m_law xs) (fun hly => ?_)
      show WpG true true (m_law xs) _ _ [vi z53] (k1 + 1, k2 + 6) _ _
      refine wp_iload (m := m_law xs) d_L_law_350 1 rfl ?_
      refine wp_icmp_eq (m := m_law xs) (tgt := 357) d_L_law_352 (by decide) (fun hc => ?_) (fun hc => ?_)
      · replace h := h.1 hc
        refine wp_iload (m := m_law xs) d_L_law_357 1 rfl ?_
        refine wp_if_ne (m := m_law xs) (tgt := 374) d_L_law_359 (by decide) (fun hc => ?_) (fun hc => ?_)
        · replace h := h.1 hc
          refine wp_goto (m := m_law xs) (tgt := 457) d_L_law_374 (by decide) ?_
          obtain ⟨ho, h⟩ := h
          refine wp_iinc (m := m_law xs) (L' := [(4, vi (x4 + 4)), (6, vi z51), (5, vi z47), (0, vr 4000), (1, vr 1), (2, vr 78), (3, vr 117)]) d_L_law_457 6 rfl rfl (Nat.le_of_ble_eq_true rfl) ho ?_
          refine wp_goto (m := m_law xs) (tgt := 23) d_L_law_460 (by decide) ?_
          exact wp_pick (m := m_law xs) [3, 4, 5, 6, 0] rfl h
        · replace h := h.2 hc
          refine wp_aload_n (m := m_law xs) d_L_law_362 (i := 3) rfl 5 rfl ?_
          refine wp_iconst (m := m_law xs) d_L_law_363 (by decide) ?_
          refine wp_laload (m := m_law xs) d_L_law_364 (ly_a (n := 1) (N := 1) hly (by decide) (by decide)) ?_
          refine wp_iload (m := m_law xs) d_L_law_365 0 rfl ?_
          refine wp_i2l (m := m_law xs) d_L_law_367 ?_
          refine wp_lcmp (m := m_law xs) d_L_law_368 ?_
          refine wp_if_eq (m := m_law xs) (tgt := 374) d_L_law_369 (by decide) (fun hc => ?_) (fun hc => ?_)
          · replace h := h.1 hc
            refine wp_goto (m := m_law xs) (tgt := 457) d_L_law_374 (by decide) ?_
            obtain ⟨ho, h⟩ := h
            refine wp_iinc (m := m_law xs) (L' := [(4, vi (x4 + 4)), (6, vi z51), (5, vi z47), (0, vr 4000), (1, vr 1), (2, vr 78), (3, vr 117)]) d_L_law_457 6 rfl rfl (Nat.le_of_ble_eq_true rfl) ho ?_
            refine wp_goto (m := m_law xs) (tgt := 23) d_L_law_460 (by decide) ?_
            exact wp_pick (m := m_law xs) [3, 4, 5, 6, 0] rfl h
          · replace h := h.2 hc
            refine wp_iconst (m := m_law xs) d_L_law_372 (by decide) ?_
            exact wp_zret (m := m_law xs) d_L_law_373 rfl hk1 (by decide) h
      · replace h := h.2 hc
        refine wp_iconst (m := m_law xs) d_L_law_355 (by decide) ?_
        exact wp_zret (m := m_law xs) d_L_law_356 rfl hk1 (by decide) h
    replace h := h.2
    by_cases hc7 : (b_iand (xs.getD x4.toNat 0) 7) = 7
    · replace h := h.1 hc7
      refine wp_tsw (m := m_law xs) (x := b_iand (xs.getD x4.toNat 0) 7) d_L_law_39 (by decide) 377 (by rw [hc7]; decide) ?_
      refine wp_aload_n (m := m_law xs) d_L_law_377 (i := 1) rfl 1 rfl ?_
      refine wp_aload_n (m := m_law xs) d_L_law_378 (i := 0) rfl 0 rfl ?_
      refine wp_iload (m := m_law xs) d_L_law_379 4 rfl ?_
      refine wp_iconst (m := m_law xs) d_L_law_381 (by decide) ?_
      obtain ⟨ho, h⟩ := h
      refine wp_iadd (m := m_law xs) d_L_law_382 ho ?_
      obtain ⟨hi54, h⟩ := h
      refine wp_sld (m := m_law xs) (xs := xs) rfl hi54 d_L_law_383 ?_
      refine wp_aload_n (m := m_law xs) d_L_law_384 (i := 0) rfl 0 rfl ?_
      refine wp_iload (m := m_law xs) d_L_law_385 4 rfl ?_
      refine wp_iconst (m := m_law xs) d_L_law_387 (by decide) ?_
      obtain ⟨ho, h⟩ := h
      refine wp_iadd (m := m_law xs) d_L_law_388 ho ?_
      obtain ⟨hi55, h⟩ := h
      refine wp_sld (m := m_law xs) (xs := xs) rfl hi55 d_L_law_389 ?_
      refine wp_aload_n (m := m_law xs) d_L_law_390 (i := 0) rfl 0 rfl ?_
      refine wp_iload (m := m_law xs) d_L_law_391 4 rfl ?_
      refine wp_iconst (m := m_law xs) d_L_law_393 (by decide) ?_
      obtain ⟨ho, h⟩ := h
      refine wp_iadd (m := m_law xs) d_L_law_394 ho ?_
      obtain ⟨hi56, h⟩ := h
      refine wp_sld (m := m_law xs) (xs := xs) rfl hi56 d_L_law_395 ?_
      refine wp_aload_n (m := m_law xs) d_L_law_396 (i := 3) rfl 3 rfl ?_
      refine wp_callSH (m := m_law xs) (A := [vr 1, vi (xs.getD (x4 + 1).toNat 0), vi (xs.getD (x4 + 2).toNat 0), vi (xs.getD (x4 + 3).toNat 0), vr 117]) (S := []) d_L_law_397 (slh_67 xs) rfl (Nat.le_of_ble_eq_true rfl) hk1 (MetH.mono h (fun r w57 hh => ?_))
      obtain ⟨z58, er, h⟩ := hh
      subst er
      refine wp_ly (m := m_law xs) (fun hly => ?_)
      show WpG true true (m_law xs) _ _ [vi z58] (k1 + 1, k2 + 6) _ _
      refine wp_istore (m := m_law xs) (L' := [(5, vi z58), (0, vr 4000), (1, vr 1), (2, vr 78), (3, vr 117), (4, vi x4)]) d_L_law_400 rfl (Nat.le_of_ble_eq_true rfl) ?_
      refine wp_aload_n (m := m_law xs) d_L_law_402 (i := 2) rfl 3 rfl ?_
      refine wp_aload_n (m := m_law xs) d_L_law_403 (i := 0) rfl 1 rfl ?_
      refine wp_iload (m := m_law xs) d_L_law_404 5 rfl ?_
      refine wp_iconst (m := m_law xs) d_L_law_406 (by decide) ?_
      obtain ⟨ho, h⟩ := h
      refine wp_iadd (m := m_law xs) d_L_law_407 ho ?_
      obtain ⟨hi59, h⟩ := h
      refine wp_sld (m := m_law xs) (xs := xs) rfl hi59 d_L_law_408 ?_
      refine wp_aload_n (m := m_law xs) d_L_law_409 (i := 0) rfl 1 rfl ?_
      refine wp_iload (m := m_law xs) d_L_law_410 5 rfl ?_
      refine wp_iconst (m := m_law xs) d_L_law_412 (by decide) ?_
      obtain ⟨ho, h⟩ := h
      refine wp_iadd (m := m_law xs) d_L_law_413 ho ?_
      obtain ⟨hi60, h⟩ := h
      refine wp_sld (m := m_law xs) (xs := xs) rfl hi60 d_L_law_414 ?_
      refine wp_aload_n (m := m_law xs) d_L_law_415 (i := 0) rfl 1 rfl ?_
      refine wp_iload (m := m_law xs) d_L_law_416 5 rfl ?_
      refine wp_iconst (m := m_law xs) d_L_law_418 (by decide) ?_
      obtain ⟨ho, h⟩ := h
      refine wp_iadd (m := m_law xs) d_L_law_419 ho ?_
      obtain ⟨hi61, h⟩ := h
      refine wp_sld (m := m_law xs) (xs := xs) rfl hi61 d_L_law_420 ?_
      refine wp_callV (m := m_law xs) (A := [vi (xs.getD (x4 + 1).toNat 0), vi (xs.getD (x4 + 2).toNat 0), vi (xs.getD (x4 + 3).toNat 0)]) (S := []) d_L_law_421 (cvl_70 xs) (ly_o hly (by decide)) rfl (Nat.le_of_ble_eq_true rfl) hk1 (MetS.mono h (fun r w62 hh => ?_))
      obtain ⟨z63, er, h⟩ := hh
      subst er
      refine wp_ly (m := m_law xs) (fun hly => ?_)
      show WpG true true (m_law xs) _ _ [vi z63] (k1 + 1, k2 + 6) _ _
      refine wp_istore (m := m_law xs) (L' := [(6, vi z63), (5, vi z58), (0, vr 4000), (1, vr 1), (2, vr 78), (3, vr 117), (4, vi x4)]) d_L_law_424 rfl (Nat.le_of_ble_eq_true rfl) ?_
      refine wp_aload_n (m := m_law xs) d_L_law_426 (i := 2) rfl 4 rfl ?_
      refine wp_callV (m := m_law xs) (A := []) (S := []) d_L_law_427 (cvl_42 xs) (ly_o hly (by decide)) rfl (Nat.le_of_ble_eq_true rfl) hk1 (MetS.mono h (fun r w64 hh => ?_))
      obtain ⟨z65, er, h⟩ := hh
      subst er
      refine wp_ly (m := m_law xs) (fun hly => ?_)
      show WpG true true (m_law xs) _ _ [vi z65] (k1 + 1, k2 + 6) _ _
      refine wp_iload (m := m_law xs) d_L_law_430 1 rfl ?_
      refine wp_icmp_eq (m := m_law xs) (tgt := 437) d_L_law_432 (by decide) (fun hc => ?_) (fun hc => ?_)
      · replace h := h.1 hc
        refine wp_iload (m := m_law xs) d_L_law_437 1 rfl ?_
        refine wp_if_ne (m := m_law xs) (tgt := 454) d_L_law_439 (by decide) (fun hc => ?_) (fun hc => ?_)
        · replace h := h.1 hc
          refine wp_goto (m := m_law xs) (tgt := 457) d_L_law_454 (by decide) ?_
          obtain ⟨ho, h⟩ := h
          refine wp_iinc (m := m_law xs) (L' := [(4, vi (x4 + 4)), (6, vi z63), (5, vi z58), (0, vr 4000), (1, vr 1), (2, vr 78), (3, vr 117)]) d_L_law_457 6 rfl rfl (Nat.le_of_ble_eq_true rfl) ho ?_
          refine wp_goto (m := m_law xs) (tgt := 23) d_L_law_460 (by decide) ?_
          exact wp_pick (m := m_law xs) [3, 4, 5, 6, 0] rfl h
        · replace h := h.2 hc
          refine wp_aload_n (m := m_law xs) d_L_law_442 (i := 3) rfl 5 rfl ?_
          refine wp_iconst (m := m_law xs) d_L_law_443 (by decide) ?_
          refine wp_laload (m := m_law xs) d_L_law_444 (ly_a (n := 1) (N := 1) hly (by decide) (by decide)) ?_
          refine wp_iload (m := m_law xs) d_L_law_445 0 rfl ?_
          refine wp_i2l (m := m_law xs) d_L_law_447 ?_
          refine wp_lcmp (m := m_law xs) d_L_law_448 ?_
          refine wp_if_eq (m := m_law xs) (tgt := 454) d_L_law_449 (by decide) (fun hc => ?_) (fun hc => ?_)
          · replace h := h.1 hc
            refine wp_goto (m := m_law xs) (tgt := 457) d_L_law_454 (by decide) ?_
            obtain ⟨ho, h⟩ := h
            refine wp_iinc (m := m_law xs) (L' := [(4, vi (x4 + 4)), (6, vi z63), (5, vi z58), (0, vr 4000), (1, vr 1), (2, vr 78), (3, vr 117)]) d_L_law_457 6 rfl rfl (Nat.le_of_ble_eq_true rfl) ho ?_
            refine wp_goto (m := m_law xs) (tgt := 23) d_L_law_460 (by decide) ?_
            exact wp_pick (m := m_law xs) [3, 4, 5, 6, 0] rfl h
          · replace h := h.2 hc
            refine wp_iconst (m := m_law xs) d_L_law_452 (by decide) ?_
            exact wp_zret (m := m_law xs) d_L_law_453 rfl hk1 (by decide) h
      · replace h := h.2 hc
        refine wp_iconst (m := m_law xs) d_L_law_435 (by decide) ?_
        exact wp_zret (m := m_law xs) d_L_law_436 rfl hk1 (by decide) h
    replace h := h.2
    replace h := h hc0 hc1 hc2 hc3 hc4 hc5 hc6 hc7
    have hsw := sw_L_law_39 hc0 hc1 hc2 hc3 hc4 hc5 hc6 hc7
    refine wp_tsw (m := m_law xs) (x := b_iand (xs.getD x4.toNat 0) 7) d_L_law_39 (by decide) 457 (by rcases hsw with hsw | hsw <;> first | (rw [swT_lo hsw]; decide) | (rw [swT_hi hsw]; decide) | (rw [hsw]; decide)) ?_
    obtain ⟨ho, h⟩ := h
    refine wp_iinc (m := m_law xs) (L' := [(4, vi (x4 + 4)), (0, vr 4000), (1, vr 1), (2, vr 78), (3, vr 117)]) d_L_law_457 4 rfl rfl (Nat.le_of_ble_eq_true rfl) ho ?_
    refine wp_goto (m := m_law xs) (tgt := 23) d_L_law_460 (by decide) ?_
    exact wp_pick (m := m_law xs) [1, 2, 3, 4, 0] rfl h

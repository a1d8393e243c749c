/-! what the tables say of pool entries (by program) -/
theorem fl_Bk_12 : FLP "PlanDesk$Book" 12 0 0 true := ⟨RC0, TC0, rfl, by decide, (aw2 (i := 59) rfl rfl), rfl, rfl⟩
theorem fl_Bk_18 : FLP "PlanDesk$Book" 18 0 2 true := ⟨RC0, TC0, rfl, by decide, (aw2 (i := 64) rfl rfl), rfl, rfl⟩
theorem fl_Bk_22 : FLP "PlanDesk$Book" 22 0 3 true := ⟨RC0, TC0, rfl, by decide, (aw2 (i := 66) rfl rfl), rfl, rfl⟩
theorem fl_Bk_26 : FLP "PlanDesk$Book" 26 0 4 true := ⟨RC0, TC0, rfl, by decide, (aw2 (i := 68) rfl rfl), rfl, rfl⟩
theorem fl_Bk_29 : FLP "PlanDesk$Book" 29 0 5 true := ⟨RC0, TC0, rfl, by decide, (aw2 (i := 70) rfl rfl), rfl, rfl⟩
theorem fl_Bk_32 : FLP "PlanDesk$Book" 32 0 6 true := ⟨RC0, TC0, rfl, by decide, (aw2 (i := 72) rfl rfl), rfl, rfl⟩
theorem fl_Bk_35 : FLP "PlanDesk$Book" 35 0 7 true := ⟨RC0, TC0, rfl, by decide, (aw2 (i := 74) rfl rfl), rfl, rfl⟩
theorem fl_Bk_38 : FLP "PlanDesk$Book" 38 0 1 false := ⟨RC0, TC0, rfl, by decide, (aw2 (i := 62) rfl rfl), rfl, rfl⟩
theorem fl_Bk_42 : FLP "PlanDesk$Book" 42 5 0 false := ⟨RC5, TC5, rfl, by decide, (aw2 (i := 4) rfl rfl), rfl, rfl⟩
theorem fl_Bk_43 : FLP "PlanDesk$Book" 43 1 0 true := ⟨RC1, TC1, rfl, by decide, (aw1 (i := 129) rfl rfl), rfl, rfl⟩
theorem fl_Bk_49 : FLP "PlanDesk$Book" 49 3 2 false := ⟨RC3, TC3, rfl, by decide, (aw1 (i := 100) rfl rfl), rfl, rfl⟩
theorem fl_Bk_58 : FLP "PlanDesk$Book" 58 1 2 false := ⟨RC1, TC1, rfl, by decide, (aw1 (i := 137) rfl rfl), rfl, rfl⟩
theorem fl_Bk_61 : FLP "PlanDesk$Book" 61 1 1 true := ⟨RC1, TC1, rfl, by decide, (aw1 (i := 132) rfl rfl), rfl, rfl⟩
theorem fl_Bk_73 : FLP "PlanDesk$Book" 73 5 7 true := ⟨RC5, TC5, rfl, by decide, (aw2 (i := 24) rfl rfl), rfl, rfl⟩
theorem fl_Bk_75 : FLP "PlanDesk$Book" 75 5 1 true := ⟨RC5, TC5, rfl, by decide, (aw2 (i := 9) rfl rfl), rfl, rfl⟩
theorem fl_Bk_78 : FLP "PlanDesk$Book" 78 5 2 true := ⟨RC5, TC5, rfl, by decide, (aw2 (i := 12) rfl rfl), rfl, rfl⟩
theorem fl_Bk_79 : FLP "PlanDesk$Book" 79 5 6 true := ⟨RC5, TC5, rfl, by decide, (aw2 (i := 22) rfl rfl), rfl, rfl⟩
theorem fl_Bk_88 : FLP "PlanDesk$Book" 88 5 4 true := ⟨RC5, TC5, rfl, by decide, (aw2 (i := 17) rfl rfl), rfl, rfl⟩
theorem fl_Bk_91 : FLP "PlanDesk$Book" 91 5 5 true := ⟨RC5, TC5, rfl, by decide, (aw2 (i := 19) rfl rfl), rfl, rfl⟩
theorem fl_Bk_94 : FLP "PlanDesk$Book" 94 5 8 true := ⟨RC5, TC5, rfl, by decide, (aw2 (i := 27) rfl rfl), rfl, rfl⟩
theorem fl_Cl_12 : FLP "PlanDesk$Clause" 12 1 0 true := ⟨RC1, TC1, rfl, by decide, (aw1 (i := 126) rfl rfl), rfl, rfl⟩
theorem fl_Cl_18 : FLP "PlanDesk$Clause" 18 1 1 true := ⟨RC1, TC1, rfl, by decide, (aw1 (i := 130) rfl rfl), rfl, rfl⟩
theorem fl_Cl_22 : FLP "PlanDesk$Clause" 22 1 7 true := ⟨RC1, TC1, rfl, by decide, (aw1 (i := 148) rfl rfl), rfl, rfl⟩
theorem fl_Cl_26 : FLP "PlanDesk$Clause" 26 1 8 true := ⟨RC1, TC1, rfl, by decide, (aw1 (i := 149) rfl rfl), rfl, rfl⟩
theorem fl_Cl_30 : FLP "PlanDesk$Clause" 30 1 9 true := ⟨RC1, TC1, rfl, by decide, (aw1 (i := 150) rfl rfl), rfl, rfl⟩
theorem fl_Cl_33 : FLP "PlanDesk$Clause" 33 1 10 true := ⟨RC1, TC1, rfl, by decide, (aw1 (i := 152) rfl rfl), rfl, rfl⟩
theorem fl_Cl_36 : FLP "PlanDesk$Clause" 36 1 11 true := ⟨RC1, TC1, rfl, by decide, (aw1 (i := 154) rfl rfl), rfl, rfl⟩
theorem fl_Cl_43 : FLP "PlanDesk$Clause" 43 1 2 false := ⟨RC1, TC1, rfl, by decide, (aw1 (i := 134) rfl rfl), rfl, rfl⟩
theorem fl_Cl_47 : FLP "PlanDesk$Clause" 47 1 3 false := ⟨RC1, TC1, rfl, by decide, (aw1 (i := 138) rfl rfl), rfl, rfl⟩
theorem fl_Cl_50 : FLP "PlanDesk$Clause" 50 1 4 false := ⟨RC1, TC1, rfl, by decide, (aw1 (i := 140) rfl rfl), rfl, rfl⟩
theorem fl_Cl_53 : FLP "PlanDesk$Clause" 53 1 5 false := ⟨RC1, TC1, rfl, by decide, (aw1 (i := 143) rfl rfl), rfl, rfl⟩
theorem fl_Cl_56 : FLP "PlanDesk$Clause" 56 1 6 false := ⟨RC1, TC1, rfl, by decide, (aw1 (i := 146) rfl rfl), rfl, rfl⟩
theorem fl_Cl_87 : FLP "PlanDesk$Clause" 87 3 0 false := ⟨RC3, TC3, rfl, by decide, (aw1 (i := 92) rfl rfl), rfl, rfl⟩
theorem fl_D_10 : FLP "PlanDesk" 10 8 0 true := ⟨RC8, TC8, rfl, by decide, (aw2 (i := 92) rfl rfl), rfl, rfl⟩
theorem fl_D_105 : FLP "PlanDesk" 105 5 1 true := ⟨RC5, TC5, rfl, by decide, (aw2 (i := 8) rfl rfl), rfl, rfl⟩
theorem fl_D_108 : FLP "PlanDesk" 108 5 2 true := ⟨RC5, TC5, rfl, by decide, (aw2 (i := 11) rfl rfl), rfl, rfl⟩
theorem fl_D_109 : FLP "PlanDesk" 109 5 3 true := ⟨RC5, TC5, rfl, by decide, (aw2 (i := 14) rfl rfl), rfl, rfl⟩
theorem fl_D_112 : FLP "PlanDesk" 112 5 4 true := ⟨RC5, TC5, rfl, by decide, (aw2 (i := 16) rfl rfl), rfl, rfl⟩
theorem fl_D_123 : FLP "PlanDesk" 123 5 9 true := ⟨RC5, TC5, rfl, by decide, (aw2 (i := 29) rfl rfl), rfl, rfl⟩
theorem fl_D_126 : FLP "PlanDesk" 126 5 6 true := ⟨RC5, TC5, rfl, by decide, (aw2 (i := 21) rfl rfl), rfl, rfl⟩
theorem fl_D_129 : FLP "PlanDesk" 129 5 7 true := ⟨RC5, TC5, rfl, by decide, (aw2 (i := 25) rfl rfl), rfl, rfl⟩
theorem fl_D_132 : FLP "PlanDesk" 132 5 10 true := ⟨RC5, TC5, rfl, by decide, (aw2 (i := 31) rfl rfl), rfl, rfl⟩
theorem fl_D_135 : FLP "PlanDesk" 135 5 11 true := ⟨RC5, TC5, rfl, by decide, (aw2 (i := 33) rfl rfl), rfl, rfl⟩
theorem fl_D_19 : FLP "PlanDesk" 19 8 1 true := ⟨RC8, TC8, rfl, by decide, (aw2 (i := 93) rfl rfl), rfl, rfl⟩
theorem fl_D_26 : FLP "PlanDesk" 26 8 2 false := ⟨RC8, TC8, rfl, by decide, (aw2 (i := 94) rfl rfl), rfl, rfl⟩
theorem fl_D_30 : FLP "PlanDesk" 30 8 3 false := ⟨RC8, TC8, rfl, by decide, (aw2 (i := 95) rfl rfl), rfl, rfl⟩
theorem fl_D_33 : FLP "PlanDesk" 33 6 1 false := ⟨RC6, TC6, rfl, by decide, (aw1 (i := 40) rfl rfl), rfl, rfl⟩
theorem fl_D_56 : FLP "PlanDesk" 56 0 0 true := ⟨RC0, TC0, rfl, by decide, (aw2 (i := 60) rfl rfl), rfl, rfl⟩
theorem fl_D_60 : FLP "PlanDesk" 60 5 0 false := ⟨RC5, TC5, rfl, by decide, (aw2 (i := 5) rfl rfl), rfl, rfl⟩
theorem fl_D_65 : FLP "PlanDesk" 65 4 4 false := ⟨RC4, TC4, rfl, by decide, (aw1 (i := 203) rfl rfl), rfl, rfl⟩
theorem fl_D_68 : FLP "PlanDesk" 68 4 5 false := ⟨RC4, TC4, rfl, by decide, (aw1 (i := 205) rfl rfl), rfl, rfl⟩
theorem fl_D_71 : FLP "PlanDesk" 71 0 1 false := ⟨RC0, TC0, rfl, by decide, (aw2 (i := 63) rfl rfl), rfl, rfl⟩
theorem fl_D_72 : FLP "PlanDesk" 72 0 3 true := ⟨RC0, TC0, rfl, by decide, (aw2 (i := 67) rfl rfl), rfl, rfl⟩
theorem fl_D_76 : FLP "PlanDesk" 76 0 6 true := ⟨RC0, TC0, rfl, by decide, (aw2 (i := 73) rfl rfl), rfl, rfl⟩
theorem fl_D_79 : FLP "PlanDesk" 79 0 4 true := ⟨RC0, TC0, rfl, by decide, (aw2 (i := 69) rfl rfl), rfl, rfl⟩
theorem fl_D_82 : FLP "PlanDesk" 82 0 5 true := ⟨RC0, TC0, rfl, by decide, (aw2 (i := 71) rfl rfl), rfl, rfl⟩
theorem fl_D_85 : FLP "PlanDesk" 85 0 2 true := ⟨RC0, TC0, rfl, by decide, (aw2 (i := 65) rfl rfl), rfl, rfl⟩
theorem fl_Fc_15 : FLP "PlanDesk$Facts" 15 2 1 true := ⟨RC2, TC2, rfl, by decide, (aw1 (i := 188) rfl rfl), rfl, rfl⟩
theorem fl_Fc_19 : FLP "PlanDesk$Facts" 19 2 2 false := ⟨RC2, TC2, rfl, by decide, (aw1 (i := 189) rfl rfl), rfl, rfl⟩
theorem fl_Fc_23 : FLP "PlanDesk$Facts" 23 3 2 false := ⟨RC3, TC3, rfl, by decide, (aw1 (i := 98) rfl rfl), rfl, rfl⟩
theorem fl_Fc_32 : FLP "PlanDesk$Facts" 32 3 5 true := ⟨RC3, TC3, rfl, by decide, (aw1 (i := 108) rfl rfl), rfl, rfl⟩
theorem fl_Fc_33 : FLP "PlanDesk$Facts" 33 3 4 false := ⟨RC3, TC3, rfl, by decide, (aw1 (i := 105) rfl rfl), rfl, rfl⟩
theorem fl_Fc_9 : FLP "PlanDesk$Facts" 9 2 0 true := ⟨RC2, TC2, rfl, by decide, (aw1 (i := 187) rfl rfl), rfl, rfl⟩
theorem fl_Lt_15 : FLP "PlanDesk$Literal" 15 3 6 true := ⟨RC3, TC3, rfl, by decide, (aw1 (i := 109) rfl rfl), rfl, rfl⟩
theorem fl_Lt_19 : FLP "PlanDesk$Literal" 19 3 0 false := ⟨RC3, TC3, rfl, by decide, (aw1 (i := 90) rfl rfl), rfl, rfl⟩
theorem fl_Lt_23 : FLP "PlanDesk$Literal" 23 3 1 false := ⟨RC3, TC3, rfl, by decide, (aw1 (i := 94) rfl rfl), rfl, rfl⟩
theorem fl_Lt_26 : FLP "PlanDesk$Literal" 26 3 2 false := ⟨RC3, TC3, rfl, by decide, (aw1 (i := 97) rfl rfl), rfl, rfl⟩
theorem fl_Lt_29 : FLP "PlanDesk$Literal" 29 3 3 false := ⟨RC3, TC3, rfl, by decide, (aw1 (i := 102) rfl rfl), rfl, rfl⟩
theorem fl_Lt_33 : FLP "PlanDesk$Literal" 33 3 4 false := ⟨RC3, TC3, rfl, by decide, (aw1 (i := 104) rfl rfl), rfl, rfl⟩
theorem fl_Lt_9 : FLP "PlanDesk$Literal" 9 3 5 true := ⟨RC3, TC3, rfl, by decide, (aw1 (i := 107) rfl rfl), rfl, rfl⟩
theorem fl_M_102 : FLP "PlanDeskModel" 102 9 48 true := ⟨RC9, TC9, rfl, by decide, (aw4 (i := 138) rfl rfl), rfl, rfl⟩
theorem fl_M_105 : FLP "PlanDeskModel" 105 9 49 true := ⟨RC9, TC9, rfl, by decide, (aw4 (i := 139) rfl rfl), rfl, rfl⟩
theorem fl_M_108 : FLP "PlanDeskModel" 108 9 50 true := ⟨RC9, TC9, rfl, by decide, (aw4 (i := 140) rfl rfl), rfl, rfl⟩
theorem fl_M_111 : FLP "PlanDeskModel" 111 9 51 true := ⟨RC9, TC9, rfl, by decide, (aw4 (i := 141) rfl rfl), rfl, rfl⟩
theorem fl_M_114 : FLP "PlanDeskModel" 114 9 52 true := ⟨RC9, TC9, rfl, by decide, (aw4 (i := 142) rfl rfl), rfl, rfl⟩
theorem fl_M_117 : FLP "PlanDeskModel" 117 9 53 true := ⟨RC9, TC9, rfl, by decide, (aw4 (i := 143) rfl rfl), rfl, rfl⟩
theorem fl_M_120 : FLP "PlanDeskModel" 120 9 54 true := ⟨RC9, TC9, rfl, by decide, (aw4 (i := 144) rfl rfl), rfl, rfl⟩
theorem fl_M_123 : FLP "PlanDeskModel" 123 9 55 true := ⟨RC9, TC9, rfl, by decide, (aw4 (i := 145) rfl rfl), rfl, rfl⟩
theorem fl_M_126 : FLP "PlanDeskModel" 126 9 0 false := ⟨RC9, TC9, rfl, by decide, (aw4 (i := 90) rfl rfl), rfl, rfl⟩
theorem fl_M_13 : FLP "PlanDeskModel" 13 9 6 true := ⟨RC9, TC9, rfl, by decide, (aw4 (i := 96) rfl rfl), rfl, rfl⟩
theorem fl_M_130 : FLP "PlanDeskModel" 130 9 2 false := ⟨RC9, TC9, rfl, by decide, (aw4 (i := 92) rfl rfl), rfl, rfl⟩
theorem fl_M_145 : FLP "PlanDeskModel" 145 9 5 false := ⟨RC9, TC9, rfl, by decide, (aw4 (i := 95) rfl rfl), rfl, rfl⟩
theorem fl_M_16 : FLP "PlanDeskModel" 16 9 7 true := ⟨RC9, TC9, rfl, by decide, (aw4 (i := 97) rfl rfl), rfl, rfl⟩
theorem fl_M_174 : FLP "PlanDeskModel" 174 9 3 false := ⟨RC9, TC9, rfl, by decide, (aw4 (i := 93) rfl rfl), rfl, rfl⟩
theorem fl_M_177 : FLP "PlanDeskModel" 177 9 4 false := ⟨RC9, TC9, rfl, by decide, (aw4 (i := 94) rfl rfl), rfl, rfl⟩
theorem fl_M_180 : FLP "PlanDeskModel" 180 9 10 false := ⟨RC9, TC9, rfl, by decide, (aw4 (i := 100) rfl rfl), rfl, rfl⟩
theorem fl_M_19 : FLP "PlanDeskModel" 19 9 8 true := ⟨RC9, TC9, rfl, by decide, (aw4 (i := 98) rfl rfl), rfl, rfl⟩
theorem fl_M_196 : FLP "PlanDeskModel" 196 9 31 false := ⟨RC9, TC9, rfl, by decide, (aw4 (i := 121) rfl rfl), rfl, rfl⟩
theorem fl_M_199 : FLP "PlanDeskModel" 199 9 35 false := ⟨RC9, TC9, rfl, by decide, (aw4 (i := 125) rfl rfl), rfl, rfl⟩
theorem fl_M_202 : FLP "PlanDeskModel" 202 9 36 false := ⟨RC9, TC9, rfl, by decide, (aw4 (i := 126) rfl rfl), rfl, rfl⟩
theorem fl_M_211 : FLP "PlanDeskModel" 211 9 37 false := ⟨RC9, TC9, rfl, by decide, (aw4 (i := 127) rfl rfl), rfl, rfl⟩
theorem fl_M_22 : FLP "PlanDeskModel" 22 9 9 true := ⟨RC9, TC9, rfl, by decide, (aw4 (i := 99) rfl rfl), rfl, rfl⟩
theorem fl_M_222 : FLP "PlanDeskModel" 222 9 38 false := ⟨RC9, TC9, rfl, by decide, (aw4 (i := 128) rfl rfl), rfl, rfl⟩
theorem fl_M_228 : FLP "PlanDeskModel" 228 9 42 false := ⟨RC9, TC9, rfl, by decide, (aw4 (i := 132) rfl rfl), rfl, rfl⟩
theorem fl_M_231 : FLP "PlanDeskModel" 231 9 43 false := ⟨RC9, TC9, rfl, by decide, (aw4 (i := 133) rfl rfl), rfl, rfl⟩
theorem fl_M_234 : FLP "PlanDeskModel" 234 9 44 false := ⟨RC9, TC9, rfl, by decide, (aw4 (i := 134) rfl rfl), rfl, rfl⟩
theorem fl_M_237 : FLP "PlanDeskModel" 237 9 41 false := ⟨RC9, TC9, rfl, by decide, (aw4 (i := 131) rfl rfl), rfl, rfl⟩
theorem fl_M_247 : FLP "PlanDeskModel" 247 9 45 false := ⟨RC9, TC9, rfl, by decide, (aw4 (i := 135) rfl rfl), rfl, rfl⟩
theorem fl_M_250 : FLP "PlanDeskModel" 250 9 46 false := ⟨RC9, TC9, rfl, by decide, (aw4 (i := 136) rfl rfl), rfl, rfl⟩
theorem fl_M_26 : FLP "PlanDeskModel" 26 9 12 true := ⟨RC9, TC9, rfl, by decide, (aw4 (i := 102) rfl rfl), rfl, rfl⟩
theorem fl_M_29 : FLP "PlanDeskModel" 29 9 13 true := ⟨RC9, TC9, rfl, by decide, (aw4 (i := 103) rfl rfl), rfl, rfl⟩
theorem fl_M_308 : FLP "PlanDeskModel" 308 9 11 false := ⟨RC9, TC9, rfl, by decide, (aw4 (i := 101) rfl rfl), rfl, rfl⟩
theorem fl_M_32 : FLP "PlanDeskModel" 32 9 14 true := ⟨RC9, TC9, rfl, by decide, (aw4 (i := 104) rfl rfl), rfl, rfl⟩
theorem fl_M_35 : FLP "PlanDeskModel" 35 9 15 true := ⟨RC9, TC9, rfl, by decide, (aw4 (i := 105) rfl rfl), rfl, rfl⟩
theorem fl_M_38 : FLP "PlanDeskModel" 38 9 16 true := ⟨RC9, TC9, rfl, by decide, (aw4 (i := 106) rfl rfl), rfl, rfl⟩
theorem fl_M_41 : FLP "PlanDeskModel" 41 9 17 true := ⟨RC9, TC9, rfl, by decide, (aw4 (i := 107) rfl rfl), rfl, rfl⟩
theorem fl_M_44 : FLP "PlanDeskModel" 44 9 18 true := ⟨RC9, TC9, rfl, by decide, (aw4 (i := 108) rfl rfl), rfl, rfl⟩
theorem fl_M_47 : FLP "PlanDeskModel" 47 9 19 true := ⟨RC9, TC9, rfl, by decide, (aw4 (i := 109) rfl rfl), rfl, rfl⟩
theorem fl_M_50 : FLP "PlanDeskModel" 50 9 20 true := ⟨RC9, TC9, rfl, by decide, (aw4 (i := 110) rfl rfl), rfl, rfl⟩
theorem fl_M_53 : FLP "PlanDeskModel" 53 9 21 true := ⟨RC9, TC9, rfl, by decide, (aw4 (i := 111) rfl rfl), rfl, rfl⟩
theorem fl_M_56 : FLP "PlanDeskModel" 56 9 22 true := ⟨RC9, TC9, rfl, by decide, (aw4 (i := 112) rfl rfl), rfl, rfl⟩
theorem fl_M_59 : FLP "PlanDeskModel" 59 9 23 true := ⟨RC9, TC9, rfl, by decide, (aw4 (i := 113) rfl rfl), rfl, rfl⟩
theorem fl_M_62 : FLP "PlanDeskModel" 62 9 24 true := ⟨RC9, TC9, rfl, by decide, (aw4 (i := 114) rfl rfl), rfl, rfl⟩
theorem fl_M_65 : FLP "PlanDeskModel" 65 9 25 true := ⟨RC9, TC9, rfl, by decide, (aw4 (i := 115) rfl rfl), rfl, rfl⟩
theorem fl_M_68 : FLP "PlanDeskModel" 68 9 26 true := ⟨RC9, TC9, rfl, by decide, (aw4 (i := 116) rfl rfl), rfl, rfl⟩
theorem fl_M_7 : FLP "PlanDeskModel" 7 9 1 true := ⟨RC9, TC9, rfl, by decide, (aw4 (i := 91) rfl rfl), rfl, rfl⟩
theorem fl_M_71 : FLP "PlanDeskModel" 71 9 27 true := ⟨RC9, TC9, rfl, by decide, (aw4 (i := 117) rfl rfl), rfl, rfl⟩
theorem fl_M_74 : FLP "PlanDeskModel" 74 9 28 true := ⟨RC9, TC9, rfl, by decide, (aw4 (i := 118) rfl rfl), rfl, rfl⟩
theorem fl_M_77 : FLP "PlanDeskModel" 77 9 29 true := ⟨RC9, TC9, rfl, by decide, (aw4 (i := 119) rfl rfl), rfl, rfl⟩
theorem fl_M_80 : FLP "PlanDeskModel" 80 9 30 true := ⟨RC9, TC9, rfl, by decide, (aw4 (i := 120) rfl rfl), rfl, rfl⟩
theorem fl_M_83 : FLP "PlanDeskModel" 83 9 32 true := ⟨RC9, TC9, rfl, by decide, (aw4 (i := 122) rfl rfl), rfl, rfl⟩
theorem fl_M_86 : FLP "PlanDeskModel" 86 9 33 true := ⟨RC9, TC9, rfl, by decide, (aw4 (i := 123) rfl rfl), rfl, rfl⟩
theorem fl_M_89 : FLP "PlanDeskModel" 89 9 34 true := ⟨RC9, TC9, rfl, by decide, (aw4 (i := 124) rfl rfl), rfl, rfl⟩
theorem fl_M_93 : FLP "PlanDeskModel" 93 9 39 true := ⟨RC9, TC9, rfl, by decide, (aw4 (i := 129) rfl rfl), rfl, rfl⟩
theorem fl_M_96 : FLP "PlanDeskModel" 96 9 40 true := ⟨RC9, TC9, rfl, by decide, (aw4 (i := 130) rfl rfl), rfl, rfl⟩
theorem fl_M_99 : FLP "PlanDeskModel" 99 9 47 true := ⟨RC9, TC9, rfl, by decide, (aw4 (i := 137) rfl rfl), rfl, rfl⟩
theorem fl_Rd_107 : FLP "PlanDesk$Reader" 107 4 6 false := ⟨RC4, TC4, rfl, by decide, (aw1 (i := 206) rfl rfl), rfl, rfl⟩
theorem fl_Rd_110 : FLP "PlanDesk$Reader" 110 7 0 true := ⟨RC7, TC7, rfl, by decide, (aw1 (i := 60) rfl rfl), rfl, rfl⟩
theorem fl_Rd_114 : FLP "PlanDesk$Reader" 114 7 1 true := ⟨RC7, TC7, rfl, by decide, (aw1 (i := 62) rfl rfl), rfl, rfl⟩
theorem fl_Rd_117 : FLP "PlanDesk$Reader" 117 7 2 true := ⟨RC7, TC7, rfl, by decide, (aw1 (i := 64) rfl rfl), rfl, rfl⟩
theorem fl_Rd_12 : FLP "PlanDesk$Reader" 12 4 0 true := ⟨RC4, TC4, rfl, by decide, (aw1 (i := 198) rfl rfl), rfl, rfl⟩
theorem fl_Rd_121 : FLP "PlanDesk$Reader" 121 4 9 false := ⟨RC4, TC4, rfl, by decide, (aw1 (i := 209) rfl rfl), rfl, rfl⟩
theorem fl_Rd_129 : FLP "PlanDesk$Reader" 129 0 0 true := ⟨RC0, TC0, rfl, by decide, (aw2 (i := 61) rfl rfl), rfl, rfl⟩
theorem fl_Rd_133 : FLP "PlanDesk$Reader" 133 5 0 false := ⟨RC5, TC5, rfl, by decide, (aw2 (i := 6) rfl rfl), rfl, rfl⟩
theorem fl_Rd_136 : FLP "PlanDesk$Reader" 136 3 1 false := ⟨RC3, TC3, rfl, by decide, (aw1 (i := 96) rfl rfl), rfl, rfl⟩
theorem fl_Rd_142 : FLP "PlanDesk$Reader" 142 1 1 true := ⟨RC1, TC1, rfl, by decide, (aw1 (i := 133) rfl rfl), rfl, rfl⟩
theorem fl_Rd_162 : FLP "PlanDesk$Reader" 162 3 2 false := ⟨RC3, TC3, rfl, by decide, (aw1 (i := 101) rfl rfl), rfl, rfl⟩
theorem fl_Rd_173 : FLP "PlanDesk$Reader" 173 1 3 false := ⟨RC1, TC1, rfl, by decide, (aw1 (i := 139) rfl rfl), rfl, rfl⟩
theorem fl_Rd_182 : FLP "PlanDesk$Reader" 182 3 0 false := ⟨RC3, TC3, rfl, by decide, (aw1 (i := 93) rfl rfl), rfl, rfl⟩
theorem fl_Rd_186 : FLP "PlanDesk$Reader" 186 3 3 false := ⟨RC3, TC3, rfl, by decide, (aw1 (i := 103) rfl rfl), rfl, rfl⟩
theorem fl_Rd_200 : FLP "PlanDesk$Reader" 200 3 4 false := ⟨RC3, TC3, rfl, by decide, (aw1 (i := 106) rfl rfl), rfl, rfl⟩
theorem fl_Rd_205 : FLP "PlanDesk$Reader" 205 1 4 false := ⟨RC1, TC1, rfl, by decide, (aw1 (i := 142) rfl rfl), rfl, rfl⟩
theorem fl_Rd_208 : FLP "PlanDesk$Reader" 208 1 5 false := ⟨RC1, TC1, rfl, by decide, (aw1 (i := 145) rfl rfl), rfl, rfl⟩
theorem fl_Rd_21 : FLP "PlanDesk$Reader" 21 4 1 true := ⟨RC4, TC4, rfl, by decide, (aw1 (i := 199) rfl rfl), rfl, rfl⟩
theorem fl_Rd_28 : FLP "PlanDesk$Reader" 28 4 2 true := ⟨RC4, TC4, rfl, by decide, (aw1 (i := 200) rfl rfl), rfl, rfl⟩
theorem fl_Rd_36 : FLP "PlanDesk$Reader" 36 4 3 false := ⟨RC4, TC4, rfl, by decide, (aw1 (i := 201) rfl rfl), rfl, rfl⟩
theorem fl_Rd_45 : FLP "PlanDesk$Reader" 45 2 2 false := ⟨RC2, TC2, rfl, by decide, (aw1 (i := 190) rfl rfl), rfl, rfl⟩
theorem fl_Rd_49 : FLP "PlanDesk$Reader" 49 4 4 false := ⟨RC4, TC4, rfl, by decide, (aw1 (i := 202) rfl rfl), rfl, rfl⟩
theorem fl_Rd_52 : FLP "PlanDesk$Reader" 52 4 5 false := ⟨RC4, TC4, rfl, by decide, (aw1 (i := 204) rfl rfl), rfl, rfl⟩
theorem fl_Rd_59 : FLP "PlanDesk$Reader" 59 7 3 false := ⟨RC7, TC7, rfl, by decide, (aw1 (i := 66) rfl rfl), rfl, rfl⟩
theorem fl_Rd_60 : FLP "PlanDesk$Reader" 60 4 7 false := ⟨RC4, TC4, rfl, by decide, (aw1 (i := 207) rfl rfl), rfl, rfl⟩
theorem fl_Rd_63 : FLP "PlanDesk$Reader" 63 4 8 false := ⟨RC4, TC4, rfl, by decide, (aw1 (i := 208) rfl rfl), rfl, rfl⟩
theorem fl_Rd_69 : FLP "PlanDesk$Reader" 69 1 0 true := ⟨RC1, TC1, rfl, by decide, (aw1 (i := 128) rfl rfl), rfl, rfl⟩
theorem fl_Rd_81 : FLP "PlanDesk$Reader" 81 1 2 false := ⟨RC1, TC1, rfl, by decide, (aw1 (i := 136) rfl rfl), rfl, rfl⟩
theorem fl_Rl_15 : FLP "PlanDesk$Rules" 15 5 2 true := ⟨RC5, TC5, rfl, by decide, (aw2 (i := 10) rfl rfl), rfl, rfl⟩
theorem fl_Rl_18 : FLP "PlanDesk$Rules" 18 5 3 true := ⟨RC5, TC5, rfl, by decide, (aw2 (i := 13) rfl rfl), rfl, rfl⟩
theorem fl_Rl_21 : FLP "PlanDesk$Rules" 21 5 4 true := ⟨RC5, TC5, rfl, by decide, (aw2 (i := 15) rfl rfl), rfl, rfl⟩
theorem fl_Rl_24 : FLP "PlanDesk$Rules" 24 5 5 true := ⟨RC5, TC5, rfl, by decide, (aw2 (i := 18) rfl rfl), rfl, rfl⟩
theorem fl_Rl_27 : FLP "PlanDesk$Rules" 27 5 6 true := ⟨RC5, TC5, rfl, by decide, (aw2 (i := 20) rfl rfl), rfl, rfl⟩
theorem fl_Rl_30 : FLP "PlanDesk$Rules" 30 5 7 true := ⟨RC5, TC5, rfl, by decide, (aw2 (i := 23) rfl rfl), rfl, rfl⟩
theorem fl_Rl_33 : FLP "PlanDesk$Rules" 33 5 8 true := ⟨RC5, TC5, rfl, by decide, (aw2 (i := 26) rfl rfl), rfl, rfl⟩
theorem fl_Rl_36 : FLP "PlanDesk$Rules" 36 5 9 true := ⟨RC5, TC5, rfl, by decide, (aw2 (i := 28) rfl rfl), rfl, rfl⟩
theorem fl_Rl_39 : FLP "PlanDesk$Rules" 39 5 10 true := ⟨RC5, TC5, rfl, by decide, (aw2 (i := 30) rfl rfl), rfl, rfl⟩
theorem fl_Rl_42 : FLP "PlanDesk$Rules" 42 5 11 true := ⟨RC5, TC5, rfl, by decide, (aw2 (i := 32) rfl rfl), rfl, rfl⟩
theorem fl_Rl_45 : FLP "PlanDesk$Rules" 45 5 0 false := ⟨RC5, TC5, rfl, by decide, (aw2 (i := 3) rfl rfl), rfl, rfl⟩
theorem fl_Rl_49 : FLP "PlanDesk$Rules" 49 1 0 true := ⟨RC1, TC1, rfl, by decide, (aw1 (i := 127) rfl rfl), rfl, rfl⟩
theorem fl_Rl_55 : FLP "PlanDesk$Rules" 55 3 2 false := ⟨RC3, TC3, rfl, by decide, (aw1 (i := 99) rfl rfl), rfl, rfl⟩
theorem fl_Rl_59 : FLP "PlanDesk$Rules" 59 1 2 false := ⟨RC1, TC1, rfl, by decide, (aw1 (i := 135) rfl rfl), rfl, rfl⟩
theorem fl_Rl_62 : FLP "PlanDesk$Rules" 62 1 6 false := ⟨RC1, TC1, rfl, by decide, (aw1 (i := 147) rfl rfl), rfl, rfl⟩
theorem fl_Rl_64 : FLP "PlanDesk$Rules" 64 1 4 false := ⟨RC1, TC1, rfl, by decide, (aw1 (i := 141) rfl rfl), rfl, rfl⟩
theorem fl_Rl_67 : FLP "PlanDesk$Rules" 67 1 5 false := ⟨RC1, TC1, rfl, by decide, (aw1 (i := 144) rfl rfl), rfl, rfl⟩
theorem fl_Rl_70 : FLP "PlanDesk$Rules" 70 1 1 true := ⟨RC1, TC1, rfl, by decide, (aw1 (i := 131) rfl rfl), rfl, rfl⟩
theorem fl_Rl_74 : FLP "PlanDesk$Rules" 74 3 0 false := ⟨RC3, TC3, rfl, by decide, (aw1 (i := 91) rfl rfl), rfl, rfl⟩
theorem fl_Rl_77 : FLP "PlanDesk$Rules" 77 3 1 false := ⟨RC3, TC3, rfl, by decide, (aw1 (i := 95) rfl rfl), rfl, rfl⟩
theorem fl_Rl_80 : FLP "PlanDesk$Rules" 80 1 9 true := ⟨RC1, TC1, rfl, by decide, (aw1 (i := 151) rfl rfl), rfl, rfl⟩
theorem fl_Rl_81 : FLP "PlanDesk$Rules" 81 1 10 true := ⟨RC1, TC1, rfl, by decide, (aw1 (i := 153) rfl rfl), rfl, rfl⟩
theorem fl_Rl_82 : FLP "PlanDesk$Rules" 82 1 11 true := ⟨RC1, TC1, rfl, by decide, (aw1 (i := 155) rfl rfl), rfl, rfl⟩
theorem fl_Rl_9 : FLP "PlanDesk$Rules" 9 5 1 true := ⟨RC5, TC5, rfl, by decide, (aw2 (i := 7) rfl rfl), rfl, rfl⟩
theorem fl_Tk_15 : FLP "PlanDesk$Tokens" 15 7 1 true := ⟨RC7, TC7, rfl, by decide, (aw1 (i := 61) rfl rfl), rfl, rfl⟩
theorem fl_Tk_18 : FLP "PlanDesk$Tokens" 18 7 2 true := ⟨RC7, TC7, rfl, by decide, (aw1 (i := 63) rfl rfl), rfl, rfl⟩
theorem fl_Tk_22 : FLP "PlanDesk$Tokens" 22 7 3 false := ⟨RC7, TC7, rfl, by decide, (aw1 (i := 65) rfl rfl), rfl, rfl⟩
theorem fl_Tk_26 : FLP "PlanDesk$Tokens" 26 6 1 false := ⟨RC6, TC6, rfl, by decide, (aw1 (i := 39) rfl rfl), rfl, rfl⟩
theorem fl_Tk_9 : FLP "PlanDesk$Tokens" 9 7 0 true := ⟨RC7, TC7, rfl, by decide, (aw1 (i := 59) rfl rfl), rfl, rfl⟩
theorem fl_Tp_15 : FLP "PlanDesk$Tape" 15 6 1 false := ⟨RC6, TC6, rfl, by decide, (aw1 (i := 38) rfl rfl), rfl, rfl⟩
theorem fl_Tp_9 : FLP "PlanDesk$Tape" 9 6 0 true := ⟨RC6, TC6, rfl, by decide, (aw1 (i := 37) rfl rfl), rfl, rfl⟩
theorem lc_JI_265 : Jvm.Cond.constant "java/lang/Integer" 265 (Int32.ofInt 1431655765) ∈ AW := (aw3 (i := 141) rfl rfl)
theorem lc_JI_266 : Jvm.Cond.constant "java/lang/Integer" 266 (Int32.ofInt 858993459) ∈ AW := (aw3 (i := 142) rfl rfl)
theorem lc_JI_267 : Jvm.Cond.constant "java/lang/Integer" 267 (Int32.ofInt 252645135) ∈ AW := (aw3 (i := 143) rfl rfl)
theorem lc_Lt_36 : Jvm.Cond.constantLong "PlanDesk$Literal" 36 (Int64.ofInt 281474976710656) ∈ AW := (aw3 (i := 72) rfl rfl)
theorem lc_Lt_38 : Jvm.Cond.constantLong "PlanDesk$Literal" 38 (Int64.ofInt 4503599627370496) ∈ AW := (aw3 (i := 73) rfl rfl)
theorem lc_M_133 : Jvm.Cond.constantLong "PlanDeskModel" 133 (Int64.ofInt 255) ∈ AW := (aw5 (i := 28) rfl rfl)
theorem lc_M_163 : Jvm.Cond.constantLong "PlanDeskModel" 163 (Int64.ofInt 10) ∈ AW := (aw5 (i := 48) rfl rfl)
theorem lc_M_165 : Jvm.Cond.constantLong "PlanDeskModel" 165 (Int64.ofInt 48) ∈ AW := (aw5 (i := 49) rfl rfl)
theorem lc_M_209 : Jvm.Cond.constantLong "PlanDeskModel" 209 (Int64.ofInt 72057594037927936) ∈ AW := (aw5 (i := 113) rfl rfl)
theorem lc_Rd_211 : Jvm.Cond.constantLong "PlanDesk$Reader" 211 (Int64.ofInt 4503599627370496) ∈ AW := (aw3 (i := 84) rfl rfl)
theorem lc_Rd_216 : Jvm.Cond.constantLong "PlanDesk$Reader" 216 (Int64.ofInt 17592186044416) ∈ AW := (aw3 (i := 74) rfl rfl)
theorem lc_Rd_222 : Jvm.Cond.constantLong "PlanDesk$Reader" 222 (Int64.ofInt 281474976710656) ∈ AW := (aw3 (i := 79) rfl rfl)
theorem lc_Tp_35 : Jvm.Cond.constantLong "PlanDesk$Tape" 35 (Int64.ofInt 10) ∈ AW := (aw3 (i := 16) rfl rfl)
theorem lc_Tp_37 : Jvm.Cond.constantLong "PlanDesk$Tape" 37 (Int64.ofInt 48) ∈ AW := (aw3 (i := 17) rfl rfl)
theorem cs_Cl_nextAsked_79 : SLP m_Cl_nextAsked m_JI_bitCount 79 1 := ⟨⟨(aw3 (i := 140) rfl rfl), (aw1 (i := 15) rfl rfl), ⟨by decide, by decide⟩, by decide +kernel, by decide, by decide⟩, (aw3 (i := 138) rfl rfl), (aw3 (i := 139) rfl rfl)⟩
theorem cs_Cl_plan_79 : SLP m_Cl_plan m_JI_bitCount 79 1 := ⟨⟨(aw3 (i := 140) rfl rfl), (aw1 (i := 15) rfl rfl), ⟨by decide, by decide⟩, by decide +kernel, by decide, by decide⟩, (aw3 (i := 138) rfl rfl), (aw3 (i := 139) rfl rfl)⟩
theorem cs_D_letter_89 : SLP m_D_letter m_D_letters 89 1 := ⟨⟨(aw2 (i := 130) rfl rfl), (aw1 (i := 1) rfl rfl), ⟨by decide, by decide⟩, by decide +kernel, by decide, by decide⟩, (aw2 (i := 128) rfl rfl), (aw2 (i := 129) rfl rfl)⟩
theorem cs_D_predicate_89 : SLP m_D_predicate m_D_letters 89 1 := ⟨⟨(aw2 (i := 130) rfl rfl), (aw1 (i := 1) rfl rfl), ⟨by decide, by decide⟩, by decide +kernel, by decide, by decide⟩, (aw2 (i := 128) rfl rfl), (aw2 (i := 129) rfl rfl)⟩
theorem cs_D_predicate_93 : SLP m_D_predicate m_D_letter 93 2 := ⟨⟨(aw2 (i := 133) rfl rfl), (aw1 (i := 1) rfl rfl), ⟨by decide, by decide⟩, by decide +kernel, by decide, by decide⟩, (aw2 (i := 131) rfl rfl), (aw2 (i := 132) rfl rfl)⟩
theorem cs_D_type_37 : SLP m_D_type m_D_byteOf 37 2 := ⟨⟨(aw2 (i := 111) rfl rfl), (aw1 (i := 1) rfl rfl), ⟨by decide, by decide⟩, by decide +kernel, by decide, by decide⟩, (aw2 (i := 109) rfl rfl), (aw2 (i := 110) rfl rfl)⟩
theorem cs_M_isPart_135 : SLP m_M_isPart m_M_isSmall 135 1 := ⟨⟨(aw5 (i := 56) rfl rfl), (aw1 (i := 10) rfl rfl), ⟨by decide, by decide⟩, by decide +kernel, by decide, by decide⟩, (aw5 (i := 54) rfl rfl), (aw5 (i := 55) rfl rfl)⟩
theorem cs_M_isPart_139 : SLP m_M_isPart m_M_isGreat 139 1 := ⟨⟨(aw5 (i := 65) rfl rfl), (aw1 (i := 10) rfl rfl), ⟨by decide, by decide⟩, by decide +kernel, by decide, by decide⟩, (aw5 (i := 63) rfl rfl), (aw5 (i := 64) rfl rfl)⟩
theorem cs_M_isPart_142 : SLP m_M_isPart m_M_isDigit 142 1 := ⟨⟨(aw5 (i := 43) rfl rfl), (aw1 (i := 10) rfl rfl), ⟨by decide, by decide⟩, by decide +kernel, by decide, by decide⟩, (aw5 (i := 41) rfl rfl), (aw5 (i := 42) rfl rfl)⟩
theorem cs_M_nextLiteral_332 : SLP m_M_nextLiteral m_M_many 332 1 := ⟨⟨(aw5 (i := 239) rfl rfl), (aw1 (i := 10) rfl rfl), ⟨by decide, by decide⟩, by decide +kernel, by decide, by decide⟩, (aw5 (i := 237) rfl rfl), (aw5 (i := 238) rfl rfl)⟩
theorem cs_M_oneToken_135 : SLP m_M_oneToken m_M_isSmall 135 1 := ⟨⟨(aw5 (i := 56) rfl rfl), (aw1 (i := 10) rfl rfl), ⟨by decide, by decide⟩, by decide +kernel, by decide, by decide⟩, (aw5 (i := 54) rfl rfl), (aw5 (i := 55) rfl rfl)⟩
theorem cs_M_oneToken_139 : SLP m_M_oneToken m_M_isGreat 139 1 := ⟨⟨(aw5 (i := 65) rfl rfl), (aw1 (i := 10) rfl rfl), ⟨by decide, by decide⟩, by decide +kernel, by decide, by decide⟩, (aw5 (i := 63) rfl rfl), (aw5 (i := 64) rfl rfl)⟩
theorem cs_M_oneToken_142 : SLP m_M_oneToken m_M_isDigit 142 1 := ⟨⟨(aw5 (i := 43) rfl rfl), (aw1 (i := 10) rfl rfl), ⟨by decide, by decide⟩, by decide +kernel, by decide, by decide⟩, (aw5 (i := 41) rfl rfl), (aw5 (i := 42) rfl rfl)⟩
theorem cs_M_oneToken_167 : SLP m_M_oneToken m_M_wordOf 167 1 := ⟨⟨(aw5 (i := 59) rfl rfl), (aw1 (i := 10) rfl rfl), ⟨by decide, by decide⟩, by decide +kernel, by decide, by decide⟩, (aw5 (i := 57) rfl rfl), (aw5 (i := 58) rfl rfl)⟩
theorem cs_M_oneToken_171 : SLP m_M_oneToken m_M_isPart 171 1 := ⟨⟨(aw5 (i := 68) rfl rfl), (aw1 (i := 10) rfl rfl), ⟨by decide, by decide⟩, by decide +kernel, by decide, by decide⟩, (aw5 (i := 66) rfl rfl), (aw5 (i := 67) rfl rfl)⟩
theorem cs_M_predicate_338 : SLP m_M_predicate m_M_letters 338 1 := ⟨⟨(aw5 (i := 204) rfl rfl), (aw1 (i := 10) rfl rfl), ⟨by decide, by decide⟩, by decide +kernel, by decide, by decide⟩, (aw5 (i := 202) rfl rfl), (aw5 (i := 203) rfl rfl)⟩
theorem cs_M_wordOf_148 : SLP m_M_wordOf m_M_packed 148 5 := ⟨⟨(aw5 (i := 62) rfl rfl), (aw1 (i := 10) rfl rfl), ⟨by decide, by decide⟩, by decide +kernel, by decide, by decide⟩, (aw5 (i := 60) rfl rfl), (aw5 (i := 61) rfl rfl)⟩
theorem cs_Tk_cutName_59 : SLP m_Tk_cutName m_Tk_totalAt 59 3 := ⟨⟨(aw2 (i := 178) rfl rfl), (aw1 (i := 4) rfl rfl), ⟨by decide, by decide⟩, by decide +kernel, by decide, by decide⟩, (aw2 (i := 176) rfl rfl), (aw2 (i := 177) rfl rfl)⟩
theorem cs_Tk_cutSign_83 : SLP m_Tk_cutSign m_Tk_pairKind 83 2 := ⟨⟨(aw3 (i := 24) rfl rfl), (aw1 (i := 4) rfl rfl), ⟨by decide, by decide⟩, by decide +kernel, by decide, by decide⟩, (aw3 (i := 22) rfl rfl), (aw3 (i := 23) rfl rfl)⟩
theorem cs_Tk_cutSign_86 : SLP m_Tk_cutSign m_Tk_signKind 86 1 := ⟨⟨(aw3 (i := 27) rfl rfl), (aw1 (i := 4) rfl rfl), ⟨by decide, by decide⟩, by decide +kernel, by decide, by decide⟩, (aw3 (i := 25) rfl rfl), (aw3 (i := 26) rfl rfl)⟩
theorem ct_Tp_spells_26 : TLP m_Tp_spells m_JS_length 26 0 := ⟨⟨(aw2 (i := 187) rfl rfl), (aw1 (i := 11) rfl rfl), ⟨by decide, by decide⟩, by decide +kernel, by decide, by decide⟩, (aw2 (i := 184) rfl rfl), (aw2 (i := 185) rfl rfl), (aw2 (i := 186) rfl rfl), rfl⟩
theorem ct_Tp_spells_31 : TLP m_Tp_spells m_JS_charAt 31 1 := ⟨⟨(aw2 (i := 197) rfl rfl), (aw1 (i := 11) rfl rfl), ⟨by decide, by decide⟩, by decide +kernel, by decide, by decide⟩, (aw2 (i := 194) rfl rfl), (aw2 (i := 195) rfl rfl), (aw2 (i := 196) rfl rfl), rfl⟩
theorem cv_Bk_addRule_54 : VLP m_Bk_addRule m_Rl_add 54 1 5 := ⟨⟨(aw3 (i := 160) rfl rfl), (aw1 (i := 9) rfl rfl), ⟨by decide, by decide⟩, by decide +kernel, by decide, by decide⟩, (aw3 (i := 157) rfl rfl), (aw3 (i := 158) rfl rfl), (aw3 (i := 159) rfl rfl), TC5, rfl⟩
theorem cv_Bk_addRule_65 : VLP m_Bk_addRule m_Lt_isAtom 65 0 3 := ⟨⟨(aw3 (i := 147) rfl rfl), (aw1 (i := 6) rfl rfl), ⟨by decide, by decide⟩, by decide +kernel, by decide, by decide⟩, (aw3 (i := 161) rfl rfl), (aw3 (i := 145) rfl rfl), (aw3 (i := 146) rfl rfl), TC3, rfl⟩
theorem cv_Bk_circles_82 : VLP m_Bk_circles m_Bk_leadsBack 82 2 0 := ⟨⟨(aw3 (i := 208) rfl rfl), (aw1 (i := 8) rfl rfl), ⟨by decide, by decide⟩, by decide +kernel, by decide, by decide⟩, (aw3 (i := 205) rfl rfl), (aw3 (i := 207) rfl rfl), (awp2 (i := 8) rfl), TC0, rfl⟩
theorem cv_Bk_knotPlace_82 : VLP m_Bk_knotPlace m_Bk_leadsBack 82 2 0 := ⟨⟨(aw3 (i := 208) rfl rfl), (aw1 (i := 8) rfl rfl), ⟨by decide, by decide⟩, by decide +kernel, by decide, by decide⟩, (aw3 (i := 205) rfl rfl), (aw3 (i := 207) rfl rfl), (awp2 (i := 8) rfl), TC0, rfl⟩
theorem cv_Bk_knotPlace_85 : VLP m_Bk_knotPlace m_Rl_waits 85 2 5 := ⟨⟨(aw3 (i := 204) rfl rfl), (aw1 (i := 9) rfl rfl), ⟨by decide, by decide⟩, by decide +kernel, by decide, by decide⟩, (aw3 (i := 201) rfl rfl), (aw3 (i := 202) rfl rfl), (aw3 (i := 203) rfl rfl), TC5, rfl⟩
theorem cv_Bk_layStrata_97 : VLP m_Bk_layStrata m_Bk_liftHead 97 1 0 := ⟨⟨(aw3 (i := 216) rfl rfl), (aw1 (i := 8) rfl rfl), ⟨by decide, by decide⟩, by decide +kernel, by decide, by decide⟩, (aw3 (i := 213) rfl rfl), (aw3 (i := 215) rfl rfl), (awp2 (i := 9) rfl), TC0, rfl⟩
theorem cv_Bk_leadsBack_69 : VLP m_Bk_leadsBack m_Bk_reaches 69 2 0 := ⟨⟨(aw2 (i := 141) rfl rfl), (aw1 (i := 8) rfl rfl), ⟨by decide, by decide⟩, by decide +kernel, by decide, by decide⟩, (aw3 (i := 196) rfl rfl), (aw2 (i := 139) rfl rfl), (aw2 (i := 140) rfl rfl), TC0, rfl⟩
theorem cv_Bk_liftHead_85 : VLP m_Bk_liftHead m_Rl_waits 85 2 5 := ⟨⟨(aw3 (i := 204) rfl rfl), (aw1 (i := 9) rfl rfl), ⟨by decide, by decide⟩, by decide +kernel, by decide, by decide⟩, (aw3 (i := 201) rfl rfl), (aw3 (i := 202) rfl rfl), (aw3 (i := 203) rfl rfl), TC5, rfl⟩
theorem cv_Bk_spreadHanging_69 : VLP m_Bk_spreadHanging m_Bk_reaches 69 2 0 := ⟨⟨(aw2 (i := 141) rfl rfl), (aw1 (i := 8) rfl rfl), ⟨by decide, by decide⟩, by decide +kernel, by decide, by decide⟩, (aw3 (i := 196) rfl rfl), (aw2 (i := 139) rfl rfl), (aw2 (i := 140) rfl rfl), TC0, rfl⟩
theorem cv_Cl_begin_39 : VLP m_Cl_begin m_Lt_begin 39 2 3 := ⟨⟨(aw3 (i := 43) rfl rfl), (aw1 (i := 6) rfl rfl), ⟨by decide, by decide⟩, by decide +kernel, by decide, by decide⟩, (aw3 (i := 40) rfl rfl), (aw3 (i := 41) rfl rfl), (aw3 (i := 42) rfl rfl), TC3, rfl⟩
theorem cv_Cl_nextAsked_72 : VLP m_Cl_nextAsked m_Lt_knownArguments 72 1 3 := ⟨⟨(aw3 (i := 137) rfl rfl), (aw1 (i := 6) rfl rfl), ⟨by decide, by decide⟩, by decide +kernel, by decide, by decide⟩, (aw3 (i := 134) rfl rfl), (aw3 (i := 135) rfl rfl), (aw3 (i := 136) rfl rfl), TC3, rfl⟩
theorem cv_Cl_nextAsked_90 : VLP m_Cl_nextAsked m_Lt_canBeAsked 90 1 3 := ⟨⟨(aw3 (i := 129) rfl rfl), (aw1 (i := 6) rfl rfl), ⟨by decide, by decide⟩, by decide +kernel, by decide, by decide⟩, (aw3 (i := 126) rfl rfl), (aw3 (i := 127) rfl rfl), (aw3 (i := 128) rfl rfl), TC3, rfl⟩
theorem cv_Cl_plan_65 : VLP m_Cl_plan m_Cl_nextAsked 65 2 1 := ⟨⟨(aw3 (i := 125) rfl rfl), (aw1 (i := 5) rfl rfl), ⟨by decide, by decide⟩, by decide +kernel, by decide, by decide⟩, (aw3 (i := 122) rfl rfl), (aw3 (i := 124) rfl rfl), (awp2 (i := 3) rfl), TC1, rfl⟩
theorem cv_Cl_plan_68 : VLP m_Cl_plan m_Lt_isAtom 68 0 3 := ⟨⟨(aw3 (i := 147) rfl rfl), (aw1 (i := 6) rfl rfl), ⟨by decide, by decide⟩, by decide +kernel, by decide, by decide⟩, (aw3 (i := 144) rfl rfl), (aw3 (i := 145) rfl rfl), (aw3 (i := 146) rfl rfl), TC3, rfl⟩
theorem cv_Cl_plan_72 : VLP m_Cl_plan m_Lt_knownArguments 72 1 3 := ⟨⟨(aw3 (i := 137) rfl rfl), (aw1 (i := 6) rfl rfl), ⟨by decide, by decide⟩, by decide +kernel, by decide, by decide⟩, (aw3 (i := 134) rfl rfl), (aw3 (i := 135) rfl rfl), (aw3 (i := 136) rfl rfl), TC3, rfl⟩
theorem cv_Cl_plan_76 : VLP m_Cl_plan m_Lt_variablesFrom 76 1 3 := ⟨⟨(aw3 (i := 133) rfl rfl), (aw1 (i := 6) rfl rfl), ⟨by decide, by decide⟩, by decide +kernel, by decide, by decide⟩, (aw3 (i := 148) rfl rfl), (aw3 (i := 131) rfl rfl), (aw3 (i := 132) rfl rfl), TC3, rfl⟩
theorem cv_Cl_plan_84 : VLP m_Cl_plan m_Cl_firstWithout 84 1 1 := ⟨⟨(aw3 (i := 152) rfl rfl), (aw1 (i := 5) rfl rfl), ⟨by decide, by decide⟩, by decide +kernel, by decide, by decide⟩, (aw3 (i := 149) rfl rfl), (aw3 (i := 151) rfl rfl), (awp2 (i := 4) rfl), TC1, rfl⟩
theorem cv_D_hangs_96 : VLP m_D_hangs m_Bk_reaches 96 2 0 := ⟨⟨(aw2 (i := 141) rfl rfl), (aw1 (i := 8) rfl rfl), ⟨by decide, by decide⟩, by decide +kernel, by decide, by decide⟩, (aw2 (i := 138) rfl rfl), (aw2 (i := 139) rfl rfl), (aw2 (i := 140) rfl rfl), TC0, rfl⟩
theorem cv_D_program_45 : VLP m_D_program m_Rd_read 45 2 4 := ⟨⟨(aw2 (i := 153) rfl rfl), (aw1 (i := 3) rfl rfl), ⟨by decide, by decide⟩, by decide +kernel, by decide, by decide⟩, (aw2 (i := 150) rfl rfl), (aw2 (i := 151) rfl rfl), (aw2 (i := 152) rfl rfl), TC4, rfl⟩
theorem cv_D_rule_115 : VLP m_D_rule m_Bk_circles 115 1 0 := ⟨⟨(aw4 (i := 73) rfl rfl), (aw1 (i := 8) rfl rfl), ⟨by decide, by decide⟩, by decide +kernel, by decide, by decide⟩, (aw4 (i := 70) rfl rfl), (aw4 (i := 71) rfl rfl), (aw4 (i := 72) rfl rfl), TC0, rfl⟩
theorem cv_D_type_41 : VLP m_D_type m_Tp_add 41 1 6 := ⟨⟨(aw2 (i := 115) rfl rfl), (aw1 (i := 2) rfl rfl), ⟨by decide, by decide⟩, by decide +kernel, by decide, by decide⟩, (aw2 (i := 112) rfl rfl), (aw2 (i := 113) rfl rfl), (aw2 (i := 114) rfl rfl), TC6, rfl⟩
theorem cv_Fc_add_28 : VLP m_Fc_add m_Fc_isSame 28 2 2 := ⟨⟨(aw3 (i := 180) rfl rfl), (aw1 (i := 7) rfl rfl), ⟨by decide, by decide⟩, by decide +kernel, by decide, by decide⟩, (aw3 (i := 177) rfl rfl), (aw3 (i := 179) rfl rfl), (awp2 (i := 6) rfl), TC2, rfl⟩
theorem cv_Lt_canBeAsked_40 : VLP m_Lt_canBeAsked m_Lt_variablesFrom 40 1 3 := ⟨⟨(aw3 (i := 133) rfl rfl), (aw1 (i := 6) rfl rfl), ⟨by decide, by decide⟩, by decide +kernel, by decide, by decide⟩, (aw3 (i := 130) rfl rfl), (aw3 (i := 131) rfl rfl), (aw3 (i := 132) rfl rfl), TC3, rfl⟩
theorem cv_M_canAsk_323 : VLP m_M_canAsk m_M_isKnownTerm 323 2 9 := ⟨⟨(aw5 (i := 232) rfl rfl), (aw1 (i := 10) rfl rfl), ⟨by decide, by decide⟩, by decide +kernel, by decide, by decide⟩, (aw5 (i := 229) rfl rfl), (aw5 (i := 231) rfl rfl), (awp5 (i := 0) rfl), TC9, rfl⟩
theorem cv_M_knownIn_323 : VLP m_M_knownIn m_M_isKnownTerm 323 2 9 := ⟨⟨(aw5 (i := 232) rfl rfl), (aw1 (i := 10) rfl rfl), ⟨by decide, by decide⟩, by decide +kernel, by decide, by decide⟩, (aw5 (i := 229) rfl rfl), (aw5 (i := 231) rfl rfl), (awp5 (i := 0) rfl), TC9, rfl⟩
theorem cv_M_literal_296 : VLP m_M_literal m_M_isAtom 296 1 9 := ⟨⟨(aw5 (i := 177) rfl rfl), (aw1 (i := 10) rfl rfl), ⟨by decide, by decide⟩, by decide +kernel, by decide, by decide⟩, (aw5 (i := 174) rfl rfl), (aw5 (i := 176) rfl rfl), (awp4 (i := 9) rfl), TC9, rfl⟩
theorem cv_M_literal_317 : VLP m_M_literal m_M_raise 317 1 9 := ⟨⟨(aw5 (i := 185) rfl rfl), (aw1 (i := 10) rfl rfl), ⟨by decide, by decide⟩, by decide +kernel, by decide, by decide⟩, (aw5 (i := 182) rfl rfl), (aw5 (i := 184) rfl rfl), (awp4 (i := 11) rfl), TC9, rfl⟩
theorem cv_M_literal_341 : VLP m_M_literal m_M_plan 341 1 9 := ⟨⟨(aw5 (i := 220) rfl rfl), (aw1 (i := 10) rfl rfl), ⟨by decide, by decide⟩, by decide +kernel, by decide, by decide⟩, (aw5 (i := 217) rfl rfl), (aw5 (i := 219) rfl rfl), (awp4 (i := 13) rfl), TC9, rfl⟩
theorem cv_M_lookAbsence_214 : VLP m_M_lookAbsence m_M_note 214 2 9 := ⟨⟨(aw5 (i := 121) rfl rfl), (aw1 (i := 10) rfl rfl), ⟨by decide, by decide⟩, by decide +kernel, by decide, by decide⟩, (aw5 (i := 118) rfl rfl), (aw5 (i := 120) rfl rfl), (awp3 (i := 11) rfl), TC9, rfl⟩
theorem cv_M_lookAbsence_296 : VLP m_M_lookAbsence m_M_isAtom 296 1 9 := ⟨⟨(aw5 (i := 177) rfl rfl), (aw1 (i := 10) rfl rfl), ⟨by decide, by decide⟩, by decide +kernel, by decide, by decide⟩, (aw5 (i := 174) rfl rfl), (aw5 (i := 176) rfl rfl), (awp4 (i := 9) rfl), TC9, rfl⟩
theorem cv_M_lookAbsence_299 : VLP m_M_lookAbsence m_M_lookHangs 299 0 9 := ⟨⟨(aw5 (i := 173) rfl rfl), (aw1 (i := 10) rfl rfl), ⟨by decide, by decide⟩, by decide +kernel, by decide, by decide⟩, (aw5 (i := 170) rfl rfl), (aw5 (i := 172) rfl rfl), (awp4 (i := 8) rfl), TC9, rfl⟩
theorem cv_M_lookAbsence_302 : VLP m_M_lookAbsence m_M_isBack 302 2 9 := ⟨⟨(aw5 (i := 181) rfl rfl), (aw1 (i := 10) rfl rfl), ⟨by decide, by decide⟩, by decide +kernel, by decide, by decide⟩, (aw5 (i := 178) rfl rfl), (aw5 (i := 180) rfl rfl), (awp4 (i := 10) rfl), TC9, rfl⟩
theorem cv_M_lookBound_214 : VLP m_M_lookBound m_M_note 214 2 9 := ⟨⟨(aw5 (i := 121) rfl rfl), (aw1 (i := 10) rfl rfl), ⟨by decide, by decide⟩, by decide +kernel, by decide, by decide⟩, (aw5 (i := 118) rfl rfl), (aw5 (i := 120) rfl rfl), (awp3 (i := 11) rfl), TC9, rfl⟩
theorem cv_M_lookBound_267 : VLP m_M_lookBound m_M_predicateSizeOf 267 1 9 := ⟨⟨(aw5 (i := 157) rfl rfl), (aw1 (i := 10) rfl rfl), ⟨by decide, by decide⟩, by decide +kernel, by decide, by decide⟩, (aw5 (i := 154) rfl rfl), (aw5 (i := 156) rfl rfl), (awp4 (i := 4) rfl), TC9, rfl⟩
theorem cv_M_lookBound_270 : VLP m_M_lookBound m_M_bind 270 2 9 := ⟨⟨(aw5 (i := 161) rfl rfl), (aw1 (i := 10) rfl rfl), ⟨by decide, by decide⟩, by decide +kernel, by decide, by decide⟩, (aw5 (i := 158) rfl rfl), (aw5 (i := 160) rfl rfl), (awp4 (i := 5) rfl), TC9, rfl⟩
theorem cv_M_lookBound_273 : VLP m_M_lookBound m_M_isBound 273 2 9 := ⟨⟨(aw5 (i := 165) rfl rfl), (aw1 (i := 10) rfl rfl), ⟨by decide, by decide⟩, by decide +kernel, by decide, by decide⟩, (aw5 (i := 162) rfl rfl), (aw5 (i := 164) rfl rfl), (awp4 (i := 6) rfl), TC9, rfl⟩
theorem cv_M_lookHangs_296 : VLP m_M_lookHangs m_M_isAtom 296 1 9 := ⟨⟨(aw5 (i := 177) rfl rfl), (aw1 (i := 10) rfl rfl), ⟨by decide, by decide⟩, by decide +kernel, by decide, by decide⟩, (aw5 (i := 174) rfl rfl), (aw5 (i := 176) rfl rfl), (awp4 (i := 9) rfl), TC9, rfl⟩
theorem cv_M_lookStrata_296 : VLP m_M_lookStrata m_M_isAtom 296 1 9 := ⟨⟨(aw5 (i := 177) rfl rfl), (aw1 (i := 10) rfl rfl), ⟨by decide, by decide⟩, by decide +kernel, by decide, by decide⟩, (aw5 (i := 174) rfl rfl), (aw5 (i := 176) rfl rfl), (awp4 (i := 9) rfl), TC9, rfl⟩
theorem cv_M_nextLiteral_326 : VLP m_M_nextLiteral m_M_canAsk 326 1 9 := ⟨⟨(aw5 (i := 228) rfl rfl), (aw1 (i := 10) rfl rfl), ⟨by decide, by decide⟩, by decide +kernel, by decide, by decide⟩, (aw5 (i := 225) rfl rfl), (aw5 (i := 227) rfl rfl), (awp4 (i := 15) rfl), TC9, rfl⟩
theorem cv_M_nextLiteral_329 : VLP m_M_nextLiteral m_M_knownIn 329 1 9 := ⟨⟨(aw5 (i := 236) rfl rfl), (aw1 (i := 10) rfl rfl), ⟨by decide, by decide⟩, by decide +kernel, by decide, by decide⟩, (aw5 (i := 233) rfl rfl), (aw5 (i := 235) rfl rfl), (awp5 (i := 1) rfl), TC9, rfl⟩
theorem cv_M_oneToken_156 : VLP m_M_oneToken m_M_token 156 4 9 := ⟨⟨(aw5 (i := 53) rfl rfl), (aw1 (i := 10) rfl rfl), ⟨by decide, by decide⟩, by decide +kernel, by decide, by decide⟩, (aw5 (i := 50) rfl rfl), (aw5 (i := 52) rfl rfl), (awp2 (i := 14) rfl), TC9, rfl⟩
theorem cv_M_oneToken_160 : VLP m_M_oneToken m_M_see 160 1 9 := ⟨⟨(aw5 (i := 47) rfl rfl), (aw1 (i := 10) rfl rfl), ⟨by decide, by decide⟩, by decide +kernel, by decide, by decide⟩, (aw5 (i := 44) rfl rfl), (aw5 (i := 46) rfl rfl), (awp2 (i := 13) rfl), TC9, rfl⟩
theorem cv_M_plan_296 : VLP m_M_plan m_M_isAtom 296 1 9 := ⟨⟨(aw5 (i := 177) rfl rfl), (aw1 (i := 10) rfl rfl), ⟨by decide, by decide⟩, by decide +kernel, by decide, by decide⟩, (aw5 (i := 174) rfl rfl), (aw5 (i := 176) rfl rfl), (awp4 (i := 9) rfl), TC9, rfl⟩
theorem cv_M_plan_329 : VLP m_M_plan m_M_knownIn 329 1 9 := ⟨⟨(aw5 (i := 236) rfl rfl), (aw1 (i := 10) rfl rfl), ⟨by decide, by decide⟩, by decide +kernel, by decide, by decide⟩, (aw5 (i := 233) rfl rfl), (aw5 (i := 235) rfl rfl), (awp5 (i := 1) rfl), TC9, rfl⟩
theorem cv_M_plan_335 : VLP m_M_plan m_M_nextLiteral 335 1 9 := ⟨⟨(aw5 (i := 224) rfl rfl), (aw1 (i := 10) rfl rfl), ⟨by decide, by decide⟩, by decide +kernel, by decide, by decide⟩, (aw5 (i := 221) rfl rfl), (aw5 (i := 223) rfl rfl), (awp4 (i := 14) rfl), TC9, rfl⟩
theorem cv_M_predicateOf_214 : VLP m_M_predicateOf m_M_note 214 2 9 := ⟨⟨(aw5 (i := 121) rfl rfl), (aw1 (i := 10) rfl rfl), ⟨by decide, by decide⟩, by decide +kernel, by decide, by decide⟩, (aw5 (i := 118) rfl rfl), (aw5 (i := 120) rfl rfl), (awp3 (i := 11) rfl), TC9, rfl⟩
theorem cv_M_program_299 : VLP m_M_program m_M_lookHangs 299 0 9 := ⟨⟨(aw5 (i := 173) rfl rfl), (aw1 (i := 10) rfl rfl), ⟨by decide, by decide⟩, by decide +kernel, by decide, by decide⟩, (aw5 (i := 170) rfl rfl), (aw5 (i := 172) rfl rfl), (awp4 (i := 8) rfl), TC9, rfl⟩
theorem cv_M_program_305 : VLP m_M_program m_M_tokenize 305 0 9 := ⟨⟨(aw5 (i := 36) rfl rfl), (aw1 (i := 10) rfl rfl), ⟨by decide, by decide⟩, by decide +kernel, by decide, by decide⟩, (aw5 (i := 33) rfl rfl), (aw5 (i := 35) rfl rfl), (awp2 (i := 11) rfl), TC9, rfl⟩
theorem cv_M_program_311 : VLP m_M_program m_M_readClause 311 0 9 := ⟨⟨(aw5 (i := 72) rfl rfl), (aw1 (i := 10) rfl rfl), ⟨by decide, by decide⟩, by decide +kernel, by decide, by decide⟩, (aw5 (i := 69) rfl rfl), (aw5 (i := 71) rfl rfl), (awp2 (i := 15) rfl), TC9, rfl⟩
theorem cv_M_program_314 : VLP m_M_program m_M_lookAbsence 314 0 9 := ⟨⟨(aw5 (i := 169) rfl rfl), (aw1 (i := 10) rfl rfl), ⟨by decide, by decide⟩, by decide +kernel, by decide, by decide⟩, (aw5 (i := 166) rfl rfl), (aw5 (i := 168) rfl rfl), (awp4 (i := 7) rfl), TC9, rfl⟩
theorem cv_M_program_317 : VLP m_M_program m_M_raise 317 1 9 := ⟨⟨(aw5 (i := 185) rfl rfl), (aw1 (i := 10) rfl rfl), ⟨by decide, by decide⟩, by decide +kernel, by decide, by decide⟩, (aw5 (i := 182) rfl rfl), (aw5 (i := 184) rfl rfl), (awp4 (i := 11) rfl), TC9, rfl⟩
theorem cv_M_program_320 : VLP m_M_program m_M_lookStrata 320 0 9 := ⟨⟨(aw5 (i := 189) rfl rfl), (aw1 (i := 10) rfl rfl), ⟨by decide, by decide⟩, by decide +kernel, by decide, by decide⟩, (aw5 (i := 186) rfl rfl), (aw5 (i := 188) rfl rfl), (awp4 (i := 12) rfl), TC9, rfl⟩
theorem cv_M_readArguments_186 : VLP m_M_readArguments m_M_isSign 186 1 9 := ⟨⟨(aw5 (i := 104) rfl rfl), (aw1 (i := 10) rfl rfl), ⟨by decide, by decide⟩, by decide +kernel, by decide, by decide⟩, (aw5 (i := 101) rfl rfl), (aw5 (i := 103) rfl rfl), (awp3 (i := 7) rfl), TC9, rfl⟩
theorem cv_M_readArguments_189 : VLP m_M_readArguments m_M_takes 189 1 9 := ⟨⟨(aw5 (i := 100) rfl rfl), (aw1 (i := 10) rfl rfl), ⟨by decide, by decide⟩, by decide +kernel, by decide, by decide⟩, (aw5 (i := 97) rfl rfl), (aw5 (i := 99) rfl rfl), (awp3 (i := 6) rfl), TC9, rfl⟩
theorem cv_M_readArguments_192 : VLP m_M_readArguments m_M_refuse 192 0 9 := ⟨⟨(aw5 (i := 88) rfl rfl), (aw1 (i := 10) rfl rfl), ⟨by decide, by decide⟩, by decide +kernel, by decide, by decide⟩, (aw5 (i := 85) rfl rfl), (aw5 (i := 87) rfl rfl), (awp3 (i := 3) rfl), TC9, rfl⟩
theorem cv_M_readArguments_206 : VLP m_M_readArguments m_M_readVariable 206 0 9 := ⟨⟨(aw5 (i := 108) rfl rfl), (aw1 (i := 10) rfl rfl), ⟨by decide, by decide⟩, by decide +kernel, by decide, by decide⟩, (aw5 (i := 105) rfl rfl), (aw5 (i := 107) rfl rfl), (awp3 (i := 8) rfl), TC9, rfl⟩
theorem cv_M_readArguments_218 : VLP m_M_readArguments m_M_isKnown 218 1 9 := ⟨⟨(aw5 (i := 84) rfl rfl), (aw1 (i := 10) rfl rfl), ⟨by decide, by decide⟩, by decide +kernel, by decide, by decide⟩, (aw5 (i := 81) rfl rfl), (aw5 (i := 83) rfl rfl), (awp3 (i := 2) rfl), TC9, rfl⟩
theorem cv_M_readArguments_225 : VLP m_M_readArguments m_M_want 225 1 9 := ⟨⟨(aw5 (i := 96) rfl rfl), (aw1 (i := 10) rfl rfl), ⟨by decide, by decide⟩, by decide +kernel, by decide, by decide⟩, (aw5 (i := 93) rfl rfl), (aw5 (i := 95) rfl rfl), (awp3 (i := 5) rfl), TC9, rfl⟩
theorem cv_M_readArguments_240 : VLP m_M_readArguments m_M_readTerm 240 0 9 := ⟨⟨(aw5 (i := 112) rfl rfl), (aw1 (i := 10) rfl rfl), ⟨by decide, by decide⟩, by decide +kernel, by decide, by decide⟩, (aw5 (i := 109) rfl rfl), (aw5 (i := 111) rfl rfl), (awp3 (i := 9) rfl), TC9, rfl⟩
theorem cv_M_readArguments_243 : VLP m_M_readArguments m_M_predicateOf 243 3 9 := ⟨⟨(aw5 (i := 117) rfl rfl), (aw1 (i := 10) rfl rfl), ⟨by decide, by decide⟩, by decide +kernel, by decide, by decide⟩, (aw5 (i := 114) rfl rfl), (aw5 (i := 116) rfl rfl), (awp3 (i := 10) rfl), TC9, rfl⟩
theorem cv_M_readBody_189 : VLP m_M_readBody m_M_takes 189 1 9 := ⟨⟨(aw5 (i := 100) rfl rfl), (aw1 (i := 10) rfl rfl), ⟨by decide, by decide⟩, by decide +kernel, by decide, by decide⟩, (aw5 (i := 97) rfl rfl), (aw5 (i := 99) rfl rfl), (awp3 (i := 6) rfl), TC9, rfl⟩
theorem cv_M_readBody_264 : VLP m_M_readBody m_M_readLiteral 264 0 9 := ⟨⟨(aw5 (i := 141) rfl rfl), (aw1 (i := 10) rfl rfl), ⟨by decide, by decide⟩, by decide +kernel, by decide, by decide⟩, (aw5 (i := 138) rfl rfl), (aw5 (i := 140) rfl rfl), (awp4 (i := 0) rfl), TC9, rfl⟩
theorem cv_M_readClause_183 : VLP m_M_readClause m_M_wrong 183 1 9 := ⟨⟨(aw5 (i := 92) rfl rfl), (aw1 (i := 10) rfl rfl), ⟨by decide, by decide⟩, by decide +kernel, by decide, by decide⟩, (aw5 (i := 89) rfl rfl), (aw5 (i := 91) rfl rfl), (awp3 (i := 4) rfl), TC9, rfl⟩
theorem cv_M_readClause_186 : VLP m_M_readClause m_M_isSign 186 1 9 := ⟨⟨(aw5 (i := 104) rfl rfl), (aw1 (i := 10) rfl rfl), ⟨by decide, by decide⟩, by decide +kernel, by decide, by decide⟩, (aw5 (i := 101) rfl rfl), (aw5 (i := 103) rfl rfl), (awp3 (i := 7) rfl), TC9, rfl⟩
theorem cv_M_readClause_189 : VLP m_M_readClause m_M_takes 189 1 9 := ⟨⟨(aw5 (i := 100) rfl rfl), (aw1 (i := 10) rfl rfl), ⟨by decide, by decide⟩, by decide +kernel, by decide, by decide⟩, (aw5 (i := 97) rfl rfl), (aw5 (i := 99) rfl rfl), (awp3 (i := 6) rfl), TC9, rfl⟩
theorem cv_M_readClause_192 : VLP m_M_readClause m_M_refuse 192 0 9 := ⟨⟨(aw5 (i := 88) rfl rfl), (aw1 (i := 10) rfl rfl), ⟨by decide, by decide⟩, by decide +kernel, by decide, by decide⟩, (aw5 (i := 85) rfl rfl), (aw5 (i := 87) rfl rfl), (awp3 (i := 3) rfl), TC9, rfl⟩
theorem cv_M_readClause_225 : VLP m_M_readClause m_M_want 225 1 9 := ⟨⟨(aw5 (i := 96) rfl rfl), (aw1 (i := 10) rfl rfl), ⟨by decide, by decide⟩, by decide +kernel, by decide, by decide⟩, (aw5 (i := 93) rfl rfl), (aw5 (i := 95) rfl rfl), (awp3 (i := 5) rfl), TC9, rfl⟩
theorem cv_M_readClause_253 : VLP m_M_readClause m_M_readArguments 253 2 9 := ⟨⟨(aw5 (i := 80) rfl rfl), (aw1 (i := 10) rfl rfl), ⟨by decide, by decide⟩, by decide +kernel, by decide, by decide⟩, (aw5 (i := 77) rfl rfl), (aw5 (i := 79) rfl rfl), (awp3 (i := 1) rfl), TC9, rfl⟩
theorem cv_M_readClause_277 : VLP m_M_readClause m_M_beginClause 277 1 9 := ⟨⟨(aw5 (i := 76) rfl rfl), (aw1 (i := 10) rfl rfl), ⟨by decide, by decide⟩, by decide +kernel, by decide, by decide⟩, (aw5 (i := 73) rfl rfl), (aw5 (i := 75) rfl rfl), (awp3 (i := 0) rfl), TC9, rfl⟩
theorem cv_M_readClause_281 : VLP m_M_readClause m_M_layHead 281 0 9 := ⟨⟨(aw5 (i := 125) rfl rfl), (aw1 (i := 10) rfl rfl), ⟨by decide, by decide⟩, by decide +kernel, by decide, by decide⟩, (aw5 (i := 122) rfl rfl), (aw5 (i := 124) rfl rfl), (awp3 (i := 12) rfl), TC9, rfl⟩
theorem cv_M_readClause_284 : VLP m_M_readClause m_M_findFact 284 0 9 := ⟨⟨(aw5 (i := 129) rfl rfl), (aw1 (i := 10) rfl rfl), ⟨by decide, by decide⟩, by decide +kernel, by decide, by decide⟩, (aw5 (i := 126) rfl rfl), (aw5 (i := 128) rfl rfl), (awp3 (i := 13) rfl), TC9, rfl⟩
theorem cv_M_readClause_287 : VLP m_M_readClause m_M_addFact 287 0 9 := ⟨⟨(aw5 (i := 133) rfl rfl), (aw1 (i := 10) rfl rfl), ⟨by decide, by decide⟩, by decide +kernel, by decide, by decide⟩, (aw5 (i := 130) rfl rfl), (aw5 (i := 132) rfl rfl), (awp3 (i := 14) rfl), TC9, rfl⟩
theorem cv_M_readClause_290 : VLP m_M_readClause m_M_readBody 290 0 9 := ⟨⟨(aw5 (i := 137) rfl rfl), (aw1 (i := 10) rfl rfl), ⟨by decide, by decide⟩, by decide +kernel, by decide, by decide⟩, (aw5 (i := 134) rfl rfl), (aw5 (i := 136) rfl rfl), (awp3 (i := 15) rfl), TC9, rfl⟩
theorem cv_M_readClause_293 : VLP m_M_readClause m_M_lookBound 293 0 9 := ⟨⟨(aw5 (i := 153) rfl rfl), (aw1 (i := 10) rfl rfl), ⟨by decide, by decide⟩, by decide +kernel, by decide, by decide⟩, (aw5 (i := 150) rfl rfl), (aw5 (i := 152) rfl rfl), (awp4 (i := 3) rfl), TC9, rfl⟩
theorem cv_M_readLiteral_186 : VLP m_M_readLiteral m_M_isSign 186 1 9 := ⟨⟨(aw5 (i := 104) rfl rfl), (aw1 (i := 10) rfl rfl), ⟨by decide, by decide⟩, by decide +kernel, by decide, by decide⟩, (aw5 (i := 101) rfl rfl), (aw5 (i := 103) rfl rfl), (awp3 (i := 7) rfl), TC9, rfl⟩
theorem cv_M_readLiteral_192 : VLP m_M_readLiteral m_M_refuse 192 0 9 := ⟨⟨(aw5 (i := 88) rfl rfl), (aw1 (i := 10) rfl rfl), ⟨by decide, by decide⟩, by decide +kernel, by decide, by decide⟩, (aw5 (i := 85) rfl rfl), (aw5 (i := 87) rfl rfl), (awp3 (i := 3) rfl), TC9, rfl⟩
theorem cv_M_readLiteral_240 : VLP m_M_readLiteral m_M_readTerm 240 0 9 := ⟨⟨(aw5 (i := 112) rfl rfl), (aw1 (i := 10) rfl rfl), ⟨by decide, by decide⟩, by decide +kernel, by decide, by decide⟩, (aw5 (i := 109) rfl rfl), (aw5 (i := 111) rfl rfl), (awp3 (i := 9) rfl), TC9, rfl⟩
theorem cv_M_readLiteral_253 : VLP m_M_readLiteral m_M_readArguments 253 2 9 := ⟨⟨(aw5 (i := 80) rfl rfl), (aw1 (i := 10) rfl rfl), ⟨by decide, by decide⟩, by decide +kernel, by decide, by decide⟩, (aw5 (i := 77) rfl rfl), (aw5 (i := 79) rfl rfl), (awp3 (i := 1) rfl), TC9, rfl⟩
theorem cv_M_readLiteral_257 : VLP m_M_readLiteral m_M_lay 257 2 9 := ⟨⟨(aw5 (i := 145) rfl rfl), (aw1 (i := 10) rfl rfl), ⟨by decide, by decide⟩, by decide +kernel, by decide, by decide⟩, (aw5 (i := 142) rfl rfl), (aw5 (i := 144) rfl rfl), (awp4 (i := 1) rfl), TC9, rfl⟩
theorem cv_M_readLiteral_260 : VLP m_M_readLiteral m_M_relation 260 0 9 := ⟨⟨(aw5 (i := 149) rfl rfl), (aw1 (i := 10) rfl rfl), ⟨by decide, by decide⟩, by decide +kernel, by decide, by decide⟩, (aw5 (i := 146) rfl rfl), (aw5 (i := 148) rfl rfl), (awp4 (i := 2) rfl), TC9, rfl⟩
theorem cv_M_readTerm_189 : VLP m_M_readTerm m_M_takes 189 1 9 := ⟨⟨(aw5 (i := 100) rfl rfl), (aw1 (i := 10) rfl rfl), ⟨by decide, by decide⟩, by decide +kernel, by decide, by decide⟩, (aw5 (i := 97) rfl rfl), (aw5 (i := 99) rfl rfl), (awp3 (i := 6) rfl), TC9, rfl⟩
theorem cv_M_readTerm_192 : VLP m_M_readTerm m_M_refuse 192 0 9 := ⟨⟨(aw5 (i := 88) rfl rfl), (aw1 (i := 10) rfl rfl), ⟨by decide, by decide⟩, by decide +kernel, by decide, by decide⟩, (aw5 (i := 85) rfl rfl), (aw5 (i := 87) rfl rfl), (awp3 (i := 3) rfl), TC9, rfl⟩
theorem cv_M_readTerm_206 : VLP m_M_readTerm m_M_readVariable 206 0 9 := ⟨⟨(aw5 (i := 108) rfl rfl), (aw1 (i := 10) rfl rfl), ⟨by decide, by decide⟩, by decide +kernel, by decide, by decide⟩, (aw5 (i := 105) rfl rfl), (aw5 (i := 107) rfl rfl), (awp3 (i := 8) rfl), TC9, rfl⟩
theorem cv_M_readVariable_192 : VLP m_M_readVariable m_M_refuse 192 0 9 := ⟨⟨(aw5 (i := 88) rfl rfl), (aw1 (i := 10) rfl rfl), ⟨by decide, by decide⟩, by decide +kernel, by decide, by decide⟩, (aw5 (i := 85) rfl rfl), (aw5 (i := 87) rfl rfl), (awp3 (i := 3) rfl), TC9, rfl⟩
theorem cv_M_refuse_183 : VLP m_M_refuse m_M_wrong 183 1 9 := ⟨⟨(aw5 (i := 92) rfl rfl), (aw1 (i := 10) rfl rfl), ⟨by decide, by decide⟩, by decide +kernel, by decide, by decide⟩, (aw5 (i := 89) rfl rfl), (aw5 (i := 91) rfl rfl), (awp3 (i := 4) rfl), TC9, rfl⟩
theorem cv_M_rule_302 : VLP m_M_rule m_M_isBack 302 2 9 := ⟨⟨(aw5 (i := 181) rfl rfl), (aw1 (i := 10) rfl rfl), ⟨by decide, by decide⟩, by decide +kernel, by decide, by decide⟩, (aw5 (i := 178) rfl rfl), (aw5 (i := 180) rfl rfl), (awp4 (i := 10) rfl), TC9, rfl⟩
theorem cv_M_rule_317 : VLP m_M_rule m_M_raise 317 1 9 := ⟨⟨(aw5 (i := 185) rfl rfl), (aw1 (i := 10) rfl rfl), ⟨by decide, by decide⟩, by decide +kernel, by decide, by decide⟩, (aw5 (i := 182) rfl rfl), (aw5 (i := 184) rfl rfl), (awp4 (i := 11) rfl), TC9, rfl⟩
theorem cv_M_takes_186 : VLP m_M_takes m_M_isSign 186 1 9 := ⟨⟨(aw5 (i := 104) rfl rfl), (aw1 (i := 10) rfl rfl), ⟨by decide, by decide⟩, by decide +kernel, by decide, by decide⟩, (aw5 (i := 101) rfl rfl), (aw5 (i := 103) rfl rfl), (awp3 (i := 7) rfl), TC9, rfl⟩
theorem cv_M_tokenize_152 : VLP m_M_tokenize m_M_oneToken 152 1 9 := ⟨⟨(aw5 (i := 40) rfl rfl), (aw1 (i := 10) rfl rfl), ⟨by decide, by decide⟩, by decide +kernel, by decide, by decide⟩, (aw5 (i := 37) rfl rfl), (aw5 (i := 39) rfl rfl), (awp2 (i := 12) rfl), TC9, rfl⟩
theorem cv_M_tokenize_156 : VLP m_M_tokenize m_M_token 156 4 9 := ⟨⟨(aw5 (i := 53) rfl rfl), (aw1 (i := 10) rfl rfl), ⟨by decide, by decide⟩, by decide +kernel, by decide, by decide⟩, (aw5 (i := 50) rfl rfl), (aw5 (i := 52) rfl rfl), (awp2 (i := 14) rfl), TC9, rfl⟩
theorem cv_M_want_189 : VLP m_M_want m_M_takes 189 1 9 := ⟨⟨(aw5 (i := 100) rfl rfl), (aw1 (i := 10) rfl rfl), ⟨by decide, by decide⟩, by decide +kernel, by decide, by decide⟩, (aw5 (i := 97) rfl rfl), (aw5 (i := 99) rfl rfl), (awp3 (i := 6) rfl), TC9, rfl⟩
theorem cv_M_want_192 : VLP m_M_want m_M_refuse 192 0 9 := ⟨⟨(aw5 (i := 88) rfl rfl), (aw1 (i := 10) rfl rfl), ⟨by decide, by decide⟩, by decide +kernel, by decide, by decide⟩, (aw5 (i := 85) rfl rfl), (aw5 (i := 87) rfl rfl), (awp3 (i := 3) rfl), TC9, rfl⟩
theorem cv_Rd_endFact_125 : VLP m_Rd_endFact m_Rd_refuse 125 1 4 := ⟨⟨(aw3 (i := 51) rfl rfl), (aw1 (i := 3) rfl rfl), ⟨by decide, by decide⟩, by decide +kernel, by decide, by decide⟩, (aw3 (i := 48) rfl rfl), (aw3 (i := 50) rfl rfl), (awp1 (i := 7) rfl), TC4, rfl⟩
theorem cv_Rd_endFact_139 : VLP m_Rd_endFact m_Rd_take 139 1 4 := ⟨⟨(aw3 (i := 59) rfl rfl), (aw1 (i := 3) rfl rfl), ⟨by decide, by decide⟩, by decide +kernel, by decide, by decide⟩, (aw3 (i := 56) rfl rfl), (aw3 (i := 58) rfl rfl), (awp1 (i := 8) rfl), TC4, rfl⟩
theorem cv_Rd_endFact_156 : VLP m_Rd_endFact m_Cl_openPlace 156 0 1 := ⟨⟨(aw3 (i := 169) rfl rfl), (aw1 (i := 5) rfl rfl), ⟨by decide, by decide⟩, by decide +kernel, by decide, by decide⟩, (aw3 (i := 166) rfl rfl), (aw3 (i := 167) rfl rfl), (aw3 (i := 168) rfl rfl), TC1, rfl⟩
theorem cv_Rd_endFact_159 : VLP m_Rd_endFact m_Fc_add 159 1 2 := ⟨⟨(aw3 (i := 176) rfl rfl), (aw1 (i := 7) rfl rfl), ⟨by decide, by decide⟩, by decide +kernel, by decide, by decide⟩, (aw3 (i := 173) rfl rfl), (aw3 (i := 174) rfl rfl), (aw3 (i := 175) rfl rfl), TC2, rfl⟩
theorem cv_Rd_endFact_165 : VLP m_Rd_endFact m_Bk_addFact 165 1 0 := ⟨⟨(aw3 (i := 187) rfl rfl), (aw1 (i := 8) rfl rfl), ⟨by decide, by decide⟩, by decide +kernel, by decide, by decide⟩, (aw3 (i := 184) rfl rfl), (aw3 (i := 185) rfl rfl), (aw3 (i := 186) rfl rfl), TC0, rfl⟩
theorem cv_Rd_endRule_100 : VLP m_Rd_endRule m_Rd_note 100 2 4 := ⟨⟨(aw3 (i := 92) rfl rfl), (aw1 (i := 3) rfl rfl), ⟨by decide, by decide⟩, by decide +kernel, by decide, by decide⟩, (aw3 (i := 89) rfl rfl), (aw3 (i := 91) rfl rfl), (awp1 (i := 12) rfl), TC4, rfl⟩
theorem cv_Rd_endRule_139 : VLP m_Rd_endRule m_Rd_take 139 1 4 := ⟨⟨(aw3 (i := 59) rfl rfl), (aw1 (i := 3) rfl rfl), ⟨by decide, by decide⟩, by decide +kernel, by decide, by decide⟩, (aw3 (i := 56) rfl rfl), (aw3 (i := 58) rfl rfl), (awp1 (i := 8) rfl), TC4, rfl⟩
theorem cv_Rd_endRule_149 : VLP m_Rd_endRule m_Cl_plan 149 0 1 := ⟨⟨(aw3 (i := 121) rfl rfl), (aw1 (i := 5) rfl rfl), ⟨by decide, by decide⟩, by decide +kernel, by decide, by decide⟩, (aw3 (i := 118) rfl rfl), (aw3 (i := 119) rfl rfl), (aw3 (i := 120) rfl rfl), TC1, rfl⟩
theorem cv_Rd_endRule_152 : VLP m_Rd_endRule m_Bk_addRule 152 1 0 := ⟨⟨(aw3 (i := 156) rfl rfl), (aw1 (i := 8) rfl rfl), ⟨by decide, by decide⟩, by decide +kernel, by decide, by decide⟩, (aw3 (i := 153) rfl rfl), (aw3 (i := 154) rfl rfl), (aw3 (i := 155) rfl rfl), TC0, rfl⟩
theorem cv_Rd_finish_100 : VLP m_Rd_finish m_Rd_note 100 2 4 := ⟨⟨(aw3 (i := 92) rfl rfl), (aw1 (i := 3) rfl rfl), ⟨by decide, by decide⟩, by decide +kernel, by decide, by decide⟩, (aw3 (i := 89) rfl rfl), (aw3 (i := 91) rfl rfl), (awp1 (i := 12) rfl), TC4, rfl⟩
theorem cv_Rd_finish_104 : VLP m_Rd_finish m_Bk_layStrata 104 0 0 := ⟨⟨(aw3 (i := 212) rfl rfl), (aw1 (i := 8) rfl rfl), ⟨by decide, by decide⟩, by decide +kernel, by decide, by decide⟩, (aw3 (i := 209) rfl rfl), (aw3 (i := 210) rfl rfl), (aw3 (i := 211) rfl rfl), TC0, rfl⟩
theorem cv_Rd_finish_93 : VLP m_Rd_finish m_Bk_spreadHanging 93 0 0 := ⟨⟨(aw3 (i := 195) rfl rfl), (aw1 (i := 8) rfl rfl), ⟨by decide, by decide⟩, by decide +kernel, by decide, by decide⟩, (aw3 (i := 192) rfl rfl), (aw3 (i := 193) rfl rfl), (aw3 (i := 194) rfl rfl), TC0, rfl⟩
theorem cv_Rd_finish_96 : VLP m_Rd_finish m_Bk_knotPlace 96 0 0 := ⟨⟨(aw3 (i := 200) rfl rfl), (aw1 (i := 8) rfl rfl), ⟨by decide, by decide⟩, by decide +kernel, by decide, by decide⟩, (aw3 (i := 197) rfl rfl), (aw3 (i := 198) rfl rfl), (aw3 (i := 199) rfl rfl), TC0, rfl⟩
theorem cv_Rd_readAnything_125 : VLP m_Rd_readAnything m_Rd_refuse 125 1 4 := ⟨⟨(aw3 (i := 51) rfl rfl), (aw1 (i := 3) rfl rfl), ⟨by decide, by decide⟩, by decide +kernel, by decide, by decide⟩, (aw3 (i := 48) rfl rfl), (aw3 (i := 50) rfl rfl), (awp1 (i := 7) rfl), TC4, rfl⟩
theorem cv_Rd_readAnything_213 : VLP m_Rd_readAnything m_Lt_add 213 1 3 := ⟨⟨(aw3 (i := 71) rfl rfl), (aw1 (i := 6) rfl rfl), ⟨by decide, by decide⟩, by decide +kernel, by decide, by decide⟩, (aw3 (i := 68) rfl rfl), (aw3 (i := 69) rfl rfl), (aw3 (i := 70) rfl rfl), TC3, rfl⟩
theorem cv_Rd_readAnything_55 : VLP m_Rd_readAnything m_Rd_moveTo 55 1 4 := ⟨⟨(aw3 (i := 35) rfl rfl), (aw1 (i := 3) rfl rfl), ⟨by decide, by decide⟩, by decide +kernel, by decide, by decide⟩, (aw3 (i := 32) rfl rfl), (aw3 (i := 34) rfl rfl), (awp1 (i := 5) rfl), TC4, rfl⟩
theorem cv_Rd_readAtom_100 : VLP m_Rd_readAtom m_Rd_note 100 2 4 := ⟨⟨(aw3 (i := 92) rfl rfl), (aw1 (i := 3) rfl rfl), ⟨by decide, by decide⟩, by decide +kernel, by decide, by decide⟩, (aw3 (i := 89) rfl rfl), (aw3 (i := 91) rfl rfl), (awp1 (i := 12) rfl), TC4, rfl⟩
theorem cv_Rd_readAtom_125 : VLP m_Rd_readAtom m_Rd_refuse 125 1 4 := ⟨⟨(aw3 (i := 51) rfl rfl), (aw1 (i := 3) rfl rfl), ⟨by decide, by decide⟩, by decide +kernel, by decide, by decide⟩, (aw3 (i := 48) rfl rfl), (aw3 (i := 50) rfl rfl), (awp1 (i := 7) rfl), TC4, rfl⟩
theorem cv_Rd_readAtom_139 : VLP m_Rd_readAtom m_Rd_take 139 1 4 := ⟨⟨(aw3 (i := 59) rfl rfl), (aw1 (i := 3) rfl rfl), ⟨by decide, by decide⟩, by decide +kernel, by decide, by decide⟩, (aw3 (i := 56) rfl rfl), (aw3 (i := 58) rfl rfl), (awp1 (i := 8) rfl), TC4, rfl⟩
theorem cv_Rd_readAtom_179 : VLP m_Rd_readAtom m_Rd_readTerm 179 1 4 := ⟨⟨(aw3 (i := 67) rfl rfl), (aw1 (i := 3) rfl rfl), ⟨by decide, by decide⟩, by decide +kernel, by decide, by decide⟩, (aw3 (i := 64) rfl rfl), (aw3 (i := 66) rfl rfl), (awp1 (i := 10) rfl), TC4, rfl⟩
theorem cv_Rd_readAtom_190 : VLP m_Rd_readAtom m_Bk_numberOf 190 1 0 := ⟨⟨(aw3 (i := 55) rfl rfl), (aw1 (i := 8) rfl rfl), ⟨by decide, by decide⟩, by decide +kernel, by decide, by decide⟩, (aw3 (i := 52) rfl rfl), (aw3 (i := 53) rfl rfl), (aw3 (i := 54) rfl rfl), TC0, rfl⟩
theorem cv_Rd_readAtom_194 : VLP m_Rd_readAtom m_Rd_readTotal 194 1 4 := ⟨⟨(aw3 (i := 63) rfl rfl), (aw1 (i := 3) rfl rfl), ⟨by decide, by decide⟩, by decide +kernel, by decide, by decide⟩, (aw3 (i := 60) rfl rfl), (aw3 (i := 62) rfl rfl), (awp1 (i := 9) rfl), TC4, rfl⟩
theorem cv_Rd_readAtom_197 : VLP m_Rd_readAtom m_Rd_readAnything 197 1 4 := ⟨⟨(aw3 (i := 83) rfl rfl), (aw1 (i := 3) rfl rfl), ⟨by decide, by decide⟩, by decide +kernel, by decide, by decide⟩, (aw3 (i := 80) rfl rfl), (aw3 (i := 82) rfl rfl), (awp1 (i := 11) rfl), TC4, rfl⟩
theorem cv_Rd_readAtom_201 : VLP m_Rd_readAtom m_Bk_agrees 201 2 0 := ⟨⟨(aw3 (i := 88) rfl rfl), (aw1 (i := 8) rfl rfl), ⟨by decide, by decide⟩, by decide +kernel, by decide, by decide⟩, (aw3 (i := 85) rfl rfl), (aw3 (i := 86) rfl rfl), (aw3 (i := 87) rfl rfl), TC0, rfl⟩
theorem cv_Rd_readAtom_55 : VLP m_Rd_readAtom m_Rd_moveTo 55 1 4 := ⟨⟨(aw3 (i := 35) rfl rfl), (aw1 (i := 3) rfl rfl), ⟨by decide, by decide⟩, by decide +kernel, by decide, by decide⟩, (aw3 (i := 32) rfl rfl), (aw3 (i := 34) rfl rfl), (awp1 (i := 5) rfl), TC4, rfl⟩
theorem cv_Rd_readBody_125 : VLP m_Rd_readBody m_Rd_refuse 125 1 4 := ⟨⟨(aw3 (i := 51) rfl rfl), (aw1 (i := 3) rfl rfl), ⟨by decide, by decide⟩, by decide +kernel, by decide, by decide⟩, (aw3 (i := 48) rfl rfl), (aw3 (i := 50) rfl rfl), (awp1 (i := 7) rfl), TC4, rfl⟩
theorem cv_Rd_readBody_139 : VLP m_Rd_readBody m_Rd_take 139 1 4 := ⟨⟨(aw3 (i := 59) rfl rfl), (aw1 (i := 3) rfl rfl), ⟨by decide, by decide⟩, by decide +kernel, by decide, by decide⟩, (aw3 (i := 56) rfl rfl), (aw3 (i := 58) rfl rfl), (awp1 (i := 8) rfl), TC4, rfl⟩
theorem cv_Rd_readBody_146 : VLP m_Rd_readBody m_Rd_readLiteral 146 1 4 := ⟨⟨(aw3 (i := 100) rfl rfl), (aw1 (i := 3) rfl rfl), ⟨by decide, by decide⟩, by decide +kernel, by decide, by decide⟩, (aw3 (i := 97) rfl rfl), (aw3 (i := 99) rfl rfl), (awp1 (i := 14) rfl), TC4, rfl⟩
theorem cv_Rd_readLiteral_125 : VLP m_Rd_readLiteral m_Rd_refuse 125 1 4 := ⟨⟨(aw3 (i := 51) rfl rfl), (aw1 (i := 3) rfl rfl), ⟨by decide, by decide⟩, by decide +kernel, by decide, by decide⟩, (aw3 (i := 48) rfl rfl), (aw3 (i := 50) rfl rfl), (awp1 (i := 7) rfl), TC4, rfl⟩
theorem cv_Rd_readLiteral_168 : VLP m_Rd_readLiteral m_Lt_begin 168 2 3 := ⟨⟨(aw3 (i := 43) rfl rfl), (aw1 (i := 6) rfl rfl), ⟨by decide, by decide⟩, by decide +kernel, by decide, by decide⟩, (aw3 (i := 101) rfl rfl), (aw3 (i := 41) rfl rfl), (aw3 (i := 42) rfl rfl), TC3, rfl⟩
theorem cv_Rd_readLiteral_170 : VLP m_Rd_readLiteral m_Rd_isOpenNext 170 0 4 := ⟨⟨(aw3 (i := 105) rfl rfl), (aw1 (i := 3) rfl rfl), ⟨by decide, by decide⟩, by decide +kernel, by decide, by decide⟩, (aw3 (i := 102) rfl rfl), (aw3 (i := 104) rfl rfl), (awp1 (i := 15) rfl), TC4, rfl⟩
theorem cv_Rd_readLiteral_176 : VLP m_Rd_readLiteral m_Rd_readTest 176 1 4 := ⟨⟨(aw3 (i := 109) rfl rfl), (aw1 (i := 3) rfl rfl), ⟨by decide, by decide⟩, by decide +kernel, by decide, by decide⟩, (aw3 (i := 106) rfl rfl), (aw3 (i := 108) rfl rfl), (awp2 (i := 0) rfl), TC4, rfl⟩
theorem cv_Rd_readLiteral_55 : VLP m_Rd_readLiteral m_Rd_moveTo 55 1 4 := ⟨⟨(aw3 (i := 35) rfl rfl), (aw1 (i := 3) rfl rfl), ⟨by decide, by decide⟩, by decide +kernel, by decide, by decide⟩, (aw3 (i := 32) rfl rfl), (aw3 (i := 34) rfl rfl), (awp1 (i := 5) rfl), TC4, rfl⟩
theorem cv_Rd_readLiteral_73 : VLP m_Rd_readLiteral m_Rd_readAtom 73 1 4 := ⟨⟨(aw3 (i := 47) rfl rfl), (aw1 (i := 3) rfl rfl), ⟨by decide, by decide⟩, by decide +kernel, by decide, by decide⟩, (aw3 (i := 44) rfl rfl), (aw3 (i := 46) rfl rfl), (awp1 (i := 6) rfl), TC4, rfl⟩
theorem cv_Rd_readOperation_139 : VLP m_Rd_readOperation m_Rd_take 139 1 4 := ⟨⟨(aw3 (i := 59) rfl rfl), (aw1 (i := 3) rfl rfl), ⟨by decide, by decide⟩, by decide +kernel, by decide, by decide⟩, (aw3 (i := 56) rfl rfl), (aw3 (i := 58) rfl rfl), (awp1 (i := 8) rfl), TC4, rfl⟩
theorem cv_Rd_readTerm_125 : VLP m_Rd_readTerm m_Rd_refuse 125 1 4 := ⟨⟨(aw3 (i := 51) rfl rfl), (aw1 (i := 3) rfl rfl), ⟨by decide, by decide⟩, by decide +kernel, by decide, by decide⟩, (aw3 (i := 48) rfl rfl), (aw3 (i := 50) rfl rfl), (awp1 (i := 7) rfl), TC4, rfl⟩
theorem cv_Rd_readTerm_213 : VLP m_Rd_readTerm m_Lt_add 213 1 3 := ⟨⟨(aw3 (i := 71) rfl rfl), (aw1 (i := 6) rfl rfl), ⟨by decide, by decide⟩, by decide +kernel, by decide, by decide⟩, (aw3 (i := 68) rfl rfl), (aw3 (i := 69) rfl rfl), (aw3 (i := 70) rfl rfl), TC3, rfl⟩
theorem cv_Rd_readTerm_218 : VLP m_Rd_readTerm m_Cl_variableOf 218 2 1 := ⟨⟨(aw3 (i := 78) rfl rfl), (aw1 (i := 5) rfl rfl), ⟨by decide, by decide⟩, by decide +kernel, by decide, by decide⟩, (aw3 (i := 75) rfl rfl), (aw3 (i := 76) rfl rfl), (aw3 (i := 77) rfl rfl), TC1, rfl⟩
theorem cv_Rd_readTerm_55 : VLP m_Rd_readTerm m_Rd_moveTo 55 1 4 := ⟨⟨(aw3 (i := 35) rfl rfl), (aw1 (i := 3) rfl rfl), ⟨by decide, by decide⟩, by decide +kernel, by decide, by decide⟩, (aw3 (i := 32) rfl rfl), (aw3 (i := 34) rfl rfl), (awp1 (i := 5) rfl), TC4, rfl⟩
theorem cv_Rd_readTest_125 : VLP m_Rd_readTest m_Rd_refuse 125 1 4 := ⟨⟨(aw3 (i := 51) rfl rfl), (aw1 (i := 3) rfl rfl), ⟨by decide, by decide⟩, by decide +kernel, by decide, by decide⟩, (aw3 (i := 48) rfl rfl), (aw3 (i := 50) rfl rfl), (awp1 (i := 7) rfl), TC4, rfl⟩
theorem cv_Rd_readTest_168 : VLP m_Rd_readTest m_Lt_begin 168 2 3 := ⟨⟨(aw3 (i := 43) rfl rfl), (aw1 (i := 6) rfl rfl), ⟨by decide, by decide⟩, by decide +kernel, by decide, by decide⟩, (aw3 (i := 101) rfl rfl), (aw3 (i := 41) rfl rfl), (aw3 (i := 42) rfl rfl), TC3, rfl⟩
theorem cv_Rd_readTest_179 : VLP m_Rd_readTest m_Rd_readTerm 179 1 4 := ⟨⟨(aw3 (i := 67) rfl rfl), (aw1 (i := 3) rfl rfl), ⟨by decide, by decide⟩, by decide +kernel, by decide, by decide⟩, (aw3 (i := 64) rfl rfl), (aw3 (i := 66) rfl rfl), (awp1 (i := 10) rfl), TC4, rfl⟩
theorem cv_Rd_readTest_183 : VLP m_Rd_readTest m_Rd_readOperation 183 0 4 := ⟨⟨(aw3 (i := 113) rfl rfl), (aw1 (i := 3) rfl rfl), ⟨by decide, by decide⟩, by decide +kernel, by decide, by decide⟩, (aw3 (i := 110) rfl rfl), (aw3 (i := 112) rfl rfl), (awp2 (i := 1) rfl), TC4, rfl⟩
theorem cv_Rd_readTest_55 : VLP m_Rd_readTest m_Rd_moveTo 55 1 4 := ⟨⟨(aw3 (i := 35) rfl rfl), (aw1 (i := 3) rfl rfl), ⟨by decide, by decide⟩, by decide +kernel, by decide, by decide⟩, (aw3 (i := 32) rfl rfl), (aw3 (i := 34) rfl rfl), (awp1 (i := 5) rfl), TC4, rfl⟩
theorem cv_Rd_readTotal_125 : VLP m_Rd_readTotal m_Rd_refuse 125 1 4 := ⟨⟨(aw3 (i := 51) rfl rfl), (aw1 (i := 3) rfl rfl), ⟨by decide, by decide⟩, by decide +kernel, by decide, by decide⟩, (aw3 (i := 48) rfl rfl), (aw3 (i := 50) rfl rfl), (awp1 (i := 7) rfl), TC4, rfl⟩
theorem cv_Rd_readTotal_139 : VLP m_Rd_readTotal m_Rd_take 139 1 4 := ⟨⟨(aw3 (i := 59) rfl rfl), (aw1 (i := 3) rfl rfl), ⟨by decide, by decide⟩, by decide +kernel, by decide, by decide⟩, (aw3 (i := 56) rfl rfl), (aw3 (i := 58) rfl rfl), (awp1 (i := 8) rfl), TC4, rfl⟩
theorem cv_Rd_readTotal_179 : VLP m_Rd_readTotal m_Rd_readTerm 179 1 4 := ⟨⟨(aw3 (i := 67) rfl rfl), (aw1 (i := 3) rfl rfl), ⟨by decide, by decide⟩, by decide +kernel, by decide, by decide⟩, (aw3 (i := 64) rfl rfl), (aw3 (i := 66) rfl rfl), (awp1 (i := 10) rfl), TC4, rfl⟩
theorem cv_Rd_readTotal_55 : VLP m_Rd_readTotal m_Rd_moveTo 55 1 4 := ⟨⟨(aw3 (i := 35) rfl rfl), (aw1 (i := 3) rfl rfl), ⟨by decide, by decide⟩, by decide +kernel, by decide, by decide⟩, (aw3 (i := 32) rfl rfl), (aw3 (i := 34) rfl rfl), (awp1 (i := 5) rfl), TC4, rfl⟩
theorem cv_Rd_read_32 : VLP m_Rd_read m_Tk_cut 32 1 7 := ⟨⟨(aw2 (i := 157) rfl rfl), (aw1 (i := 4) rfl rfl), ⟨by decide, by decide⟩, by decide +kernel, by decide, by decide⟩, (aw2 (i := 154) rfl rfl), (aw2 (i := 155) rfl rfl), (aw2 (i := 156) rfl rfl), TC7, rfl⟩
theorem cv_Rd_read_40 : VLP m_Rd_read m_Bk_clear 40 0 0 := ⟨⟨(aw3 (i := 31) rfl rfl), (aw1 (i := 8) rfl rfl), ⟨by decide, by decide⟩, by decide +kernel, by decide, by decide⟩, (aw3 (i := 28) rfl rfl), (aw3 (i := 29) rfl rfl), (aw3 (i := 30) rfl rfl), TC0, rfl⟩
theorem cv_Rd_read_55 : VLP m_Rd_read m_Rd_moveTo 55 1 4 := ⟨⟨(aw3 (i := 35) rfl rfl), (aw1 (i := 3) rfl rfl), ⟨by decide, by decide⟩, by decide +kernel, by decide, by decide⟩, (aw3 (i := 32) rfl rfl), (aw3 (i := 34) rfl rfl), (awp1 (i := 5) rfl), TC4, rfl⟩
theorem cv_Rd_read_66 : VLP m_Rd_read m_Cl_begin 66 1 1 := ⟨⟨(aw3 (i := 39) rfl rfl), (aw1 (i := 5) rfl rfl), ⟨by decide, by decide⟩, by decide +kernel, by decide, by decide⟩, (aw3 (i := 36) rfl rfl), (aw3 (i := 37) rfl rfl), (aw3 (i := 38) rfl rfl), TC1, rfl⟩
theorem cv_Rd_read_73 : VLP m_Rd_read m_Rd_readAtom 73 1 4 := ⟨⟨(aw3 (i := 47) rfl rfl), (aw1 (i := 3) rfl rfl), ⟨by decide, by decide⟩, by decide +kernel, by decide, by decide⟩, (aw3 (i := 44) rfl rfl), (aw3 (i := 46) rfl rfl), (awp1 (i := 6) rfl), TC4, rfl⟩
theorem cv_Rd_read_77 : VLP m_Rd_read m_Rd_readBody 77 0 4 := ⟨⟨(aw3 (i := 96) rfl rfl), (aw1 (i := 3) rfl rfl), ⟨by decide, by decide⟩, by decide +kernel, by decide, by decide⟩, (aw3 (i := 93) rfl rfl), (aw3 (i := 95) rfl rfl), (awp1 (i := 13) rfl), TC4, rfl⟩
theorem cv_Rd_read_84 : VLP m_Rd_read m_Rd_endRule 84 0 4 := ⟨⟨(aw3 (i := 117) rfl rfl), (aw1 (i := 3) rfl rfl), ⟨by decide, by decide⟩, by decide +kernel, by decide, by decide⟩, (aw3 (i := 114) rfl rfl), (aw3 (i := 116) rfl rfl), (awp2 (i := 2) rfl), TC4, rfl⟩
theorem cv_Rd_read_87 : VLP m_Rd_read m_Rd_endFact 87 0 4 := ⟨⟨(aw3 (i := 165) rfl rfl), (aw1 (i := 3) rfl rfl), ⟨by decide, by decide⟩, by decide +kernel, by decide, by decide⟩, (aw3 (i := 162) rfl rfl), (aw3 (i := 164) rfl rfl), (awp2 (i := 5) rfl), TC4, rfl⟩
theorem cv_Rd_read_90 : VLP m_Rd_read m_Rd_finish 90 0 4 := ⟨⟨(aw3 (i := 191) rfl rfl), (aw1 (i := 3) rfl rfl), ⟨by decide, by decide⟩, by decide +kernel, by decide, by decide⟩, (aw3 (i := 188) rfl rfl), (aw3 (i := 190) rfl rfl), (awp2 (i := 7) rfl), TC4, rfl⟩
theorem cv_Rd_take_125 : VLP m_Rd_take m_Rd_refuse 125 1 4 := ⟨⟨(aw3 (i := 51) rfl rfl), (aw1 (i := 3) rfl rfl), ⟨by decide, by decide⟩, by decide +kernel, by decide, by decide⟩, (aw3 (i := 48) rfl rfl), (aw3 (i := 50) rfl rfl), (awp1 (i := 7) rfl), TC4, rfl⟩
theorem cv_Rd_take_55 : VLP m_Rd_take m_Rd_moveTo 55 1 4 := ⟨⟨(aw3 (i := 35) rfl rfl), (aw1 (i := 3) rfl rfl), ⟨by decide, by decide⟩, by decide +kernel, by decide, by decide⟩, (aw3 (i := 32) rfl rfl), (aw3 (i := 34) rfl rfl), (awp1 (i := 5) rfl), TC4, rfl⟩
theorem cv_Tk_cutName_51 : VLP m_Tk_cutName m_Tk_add 51 3 7 := ⟨⟨(aw2 (i := 238) rfl rfl), (aw1 (i := 4) rfl rfl), ⟨by decide, by decide⟩, by decide +kernel, by decide, by decide⟩, (aw2 (i := 235) rfl rfl), (aw2 (i := 237) rfl rfl), (awp1 (i := 1) rfl), TC7, rfl⟩
theorem cv_Tk_cutName_55 : VLP m_Tk_cutName m_Tp_endOfRun 55 2 6 := ⟨⟨(aw2 (i := 174) rfl rfl), (aw1 (i := 2) rfl rfl), ⟨by decide, by decide⟩, by decide +kernel, by decide, by decide⟩, (aw2 (i := 171) rfl rfl), (aw2 (i := 172) rfl rfl), (aw2 (i := 173) rfl rfl), TC6, rfl⟩
theorem cv_Tk_cutName_65 : VLP m_Tk_cutName m_Tp_spells 65 3 6 := ⟨⟨(aw2 (i := 183) rfl rfl), (aw1 (i := 2) rfl rfl), ⟨by decide, by decide⟩, by decide +kernel, by decide, by decide⟩, (aw2 (i := 180) rfl rfl), (aw2 (i := 181) rfl rfl), (aw2 (i := 182) rfl rfl), TC6, rfl⟩
theorem cv_Tk_cutName_69 : VLP m_Tk_cutName m_Tp_packed 69 2 6 := ⟨⟨(aw3 (i := 3) rfl rfl), (aw1 (i := 2) rfl rfl), ⟨by decide, by decide⟩, by decide +kernel, by decide, by decide⟩, (aw3 (i := 0) rfl rfl), (aw3 (i := 1) rfl rfl), (aw3 (i := 2) rfl rfl), TC6, rfl⟩
theorem cv_Tk_cutNumber_51 : VLP m_Tk_cutNumber m_Tk_add 51 3 7 := ⟨⟨(aw2 (i := 238) rfl rfl), (aw1 (i := 4) rfl rfl), ⟨by decide, by decide⟩, by decide +kernel, by decide, by decide⟩, (aw2 (i := 235) rfl rfl), (aw2 (i := 237) rfl rfl), (awp1 (i := 1) rfl), TC7, rfl⟩
theorem cv_Tk_cutNumber_55 : VLP m_Tk_cutNumber m_Tp_endOfRun 55 2 6 := ⟨⟨(aw2 (i := 174) rfl rfl), (aw1 (i := 2) rfl rfl), ⟨by decide, by decide⟩, by decide +kernel, by decide, by decide⟩, (aw2 (i := 171) rfl rfl), (aw2 (i := 172) rfl rfl), (aw2 (i := 173) rfl rfl), TC6, rfl⟩
theorem cv_Tk_cutNumber_80 : VLP m_Tk_cutNumber m_Tp_number 80 2 6 := ⟨⟨(aw3 (i := 15) rfl rfl), (aw1 (i := 2) rfl rfl), ⟨by decide, by decide⟩, by decide +kernel, by decide, by decide⟩, (aw3 (i := 12) rfl rfl), (aw3 (i := 13) rfl rfl), (aw3 (i := 14) rfl rfl), TC6, rfl⟩
theorem cv_Tk_cutSign_31 : VLP m_Tk_cutSign m_Tp_at 31 1 6 := ⟨⟨(aw2 (i := 161) rfl rfl), (aw1 (i := 2) rfl rfl), ⟨by decide, by decide⟩, by decide +kernel, by decide, by decide⟩, (aw2 (i := 158) rfl rfl), (aw2 (i := 159) rfl rfl), (aw2 (i := 160) rfl rfl), TC6, rfl⟩
theorem cv_Tk_cutSign_51 : VLP m_Tk_cutSign m_Tk_add 51 3 7 := ⟨⟨(aw2 (i := 238) rfl rfl), (aw1 (i := 4) rfl rfl), ⟨by decide, by decide⟩, by decide +kernel, by decide, by decide⟩, (aw2 (i := 235) rfl rfl), (aw2 (i := 237) rfl rfl), (awp1 (i := 1) rfl), TC7, rfl⟩
theorem cv_Tk_cutVariable_51 : VLP m_Tk_cutVariable m_Tk_add 51 3 7 := ⟨⟨(aw2 (i := 238) rfl rfl), (aw1 (i := 4) rfl rfl), ⟨by decide, by decide⟩, by decide +kernel, by decide, by decide⟩, (aw2 (i := 235) rfl rfl), (aw2 (i := 237) rfl rfl), (awp1 (i := 1) rfl), TC7, rfl⟩
theorem cv_Tk_cutVariable_55 : VLP m_Tk_cutVariable m_Tp_endOfRun 55 2 6 := ⟨⟨(aw2 (i := 174) rfl rfl), (aw1 (i := 2) rfl rfl), ⟨by decide, by decide⟩, by decide +kernel, by decide, by decide⟩, (aw2 (i := 171) rfl rfl), (aw2 (i := 172) rfl rfl), (aw2 (i := 173) rfl rfl), TC6, rfl⟩
theorem cv_Tk_cutVariable_69 : VLP m_Tk_cutVariable m_Tp_packed 69 2 6 := ⟨⟨(aw3 (i := 3) rfl rfl), (aw1 (i := 2) rfl rfl), ⟨by decide, by decide⟩, by decide +kernel, by decide, by decide⟩, (aw3 (i := 0) rfl rfl), (aw3 (i := 1) rfl rfl), (aw3 (i := 2) rfl rfl), TC6, rfl⟩
theorem cv_Tk_cut_31 : VLP m_Tk_cut m_Tp_at 31 1 6 := ⟨⟨(aw2 (i := 161) rfl rfl), (aw1 (i := 2) rfl rfl), ⟨by decide, by decide⟩, by decide +kernel, by decide, by decide⟩, (aw2 (i := 158) rfl rfl), (aw2 (i := 159) rfl rfl), (aw2 (i := 160) rfl rfl), TC6, rfl⟩
theorem cv_Tk_cut_35 : VLP m_Tk_cut m_Tp_sortAt 35 1 6 := ⟨⟨(aw2 (i := 165) rfl rfl), (aw1 (i := 2) rfl rfl), ⟨by decide, by decide⟩, by decide +kernel, by decide, by decide⟩, (aw2 (i := 162) rfl rfl), (aw2 (i := 163) rfl rfl), (aw2 (i := 164) rfl rfl), TC6, rfl⟩
theorem cv_Tk_cut_38 : VLP m_Tk_cut m_Tk_cutName 38 2 7 := ⟨⟨(aw2 (i := 170) rfl rfl), (aw1 (i := 4) rfl rfl), ⟨by decide, by decide⟩, by decide +kernel, by decide, by decide⟩, (aw2 (i := 167) rfl rfl), (aw2 (i := 169) rfl rfl), (awp1 (i := 0) rfl), TC7, rfl⟩
theorem cv_Tk_cut_42 : VLP m_Tk_cut m_Tk_cutVariable 42 2 7 := ⟨⟨(aw3 (i := 7) rfl rfl), (aw1 (i := 4) rfl rfl), ⟨by decide, by decide⟩, by decide +kernel, by decide, by decide⟩, (aw3 (i := 4) rfl rfl), (aw3 (i := 6) rfl rfl), (awp1 (i := 2) rfl), TC7, rfl⟩
theorem cv_Tk_cut_45 : VLP m_Tk_cut m_Tk_cutNumber 45 2 7 := ⟨⟨(aw3 (i := 11) rfl rfl), (aw1 (i := 4) rfl rfl), ⟨by decide, by decide⟩, by decide +kernel, by decide, by decide⟩, (aw3 (i := 8) rfl rfl), (aw3 (i := 10) rfl rfl), (awp1 (i := 3) rfl), TC7, rfl⟩
theorem cv_Tk_cut_48 : VLP m_Tk_cut m_Tk_cutSign 48 2 7 := ⟨⟨(aw3 (i := 21) rfl rfl), (aw1 (i := 4) rfl rfl), ⟨by decide, by decide⟩, by decide +kernel, by decide, by decide⟩, (aw3 (i := 18) rfl rfl), (aw3 (i := 20) rfl rfl), (awp1 (i := 4) rfl), TC7, rfl⟩
theorem cv_Tk_cut_51 : VLP m_Tk_cut m_Tk_add 51 3 7 := ⟨⟨(aw2 (i := 238) rfl rfl), (aw1 (i := 4) rfl rfl), ⟨by decide, by decide⟩, by decide +kernel, by decide, by decide⟩, (aw2 (i := 235) rfl rfl), (aw2 (i := 237) rfl rfl), (awp1 (i := 1) rfl), TC7, rfl⟩
theorem cv_Tk_totalAt_65 : VLP m_Tk_totalAt m_Tp_spells 65 3 6 := ⟨⟨(aw2 (i := 183) rfl rfl), (aw1 (i := 2) rfl rfl), ⟨by decide, by decide⟩, by decide +kernel, by decide, by decide⟩, (aw2 (i := 180) rfl rfl), (aw2 (i := 181) rfl rfl), (aw2 (i := 182) rfl rfl), TC6, rfl⟩
theorem cv_Tp_endOfRun_23 : VLP m_Tp_endOfRun m_Tp_sortAt 23 1 6 := ⟨⟨(aw2 (i := 165) rfl rfl), (aw1 (i := 2) rfl rfl), ⟨by decide, by decide⟩, by decide +kernel, by decide, by decide⟩, (aw2 (i := 175) rfl rfl), (aw2 (i := 163) rfl rfl), (aw2 (i := 164) rfl rfl), TC6, rfl⟩
theorem cv_Tp_number_19 : VLP m_Tp_number m_Tp_at 19 1 6 := ⟨⟨(aw2 (i := 161) rfl rfl), (aw1 (i := 2) rfl rfl), ⟨by decide, by decide⟩, by decide +kernel, by decide, by decide⟩, (aw2 (i := 166) rfl rfl), (aw2 (i := 159) rfl rfl), (aw2 (i := 160) rfl rfl), TC6, rfl⟩
theorem cv_Tp_packed_19 : VLP m_Tp_packed m_Tp_at 19 1 6 := ⟨⟨(aw2 (i := 161) rfl rfl), (aw1 (i := 2) rfl rfl), ⟨by decide, by decide⟩, by decide +kernel, by decide, by decide⟩, (aw2 (i := 166) rfl rfl), (aw2 (i := 159) rfl rfl), (aw2 (i := 160) rfl rfl), TC6, rfl⟩
theorem cv_Tp_sortAt_19 : VLP m_Tp_sortAt m_Tp_at 19 1 6 := ⟨⟨(aw2 (i := 161) rfl rfl), (aw1 (i := 2) rfl rfl), ⟨by decide, by decide⟩, by decide +kernel, by decide, by decide⟩, (aw2 (i := 166) rfl rfl), (aw2 (i := 159) rfl rfl), (aw2 (i := 160) rfl rfl), TC6, rfl⟩
theorem cv_Tp_spells_19 : VLP m_Tp_spells m_Tp_at 19 1 6 := ⟨⟨(aw2 (i := 161) rfl rfl), (aw1 (i := 2) rfl rfl), ⟨by decide, by decide⟩, by decide +kernel, by decide, by decide⟩, (aw2 (i := 166) rfl rfl), (aw2 (i := 159) rfl rfl), (aw2 (i := 160) rfl rfl), TC6, rfl⟩

/-! decode rows (by program) -/
theorem d_Bk_init_0 : decode (cd m_Bk_init) 0 = .ok (.aload_n 0, 1) := by decide +kernel
theorem d_Bk_init_1 : decode (cd m_Bk_init) 1 = .ok (.invokespecial 3, 3) := by decide +kernel
theorem d_Bk_init_4 : decode (cd m_Bk_init) 4 = .ok (.aload_n 0, 1) := by decide +kernel
theorem d_Bk_init_5 : decode (cd m_Bk_init) 5 = .ok (.new 9, 3) := by decide +kernel
theorem d_Bk_init_8 : decode (cd m_Bk_init) 8 = .ok (.dup, 1) := by decide +kernel
theorem d_Bk_init_9 : decode (cd m_Bk_init) 9 = .ok (.invokespecial 11, 3) := by decide +kernel
theorem d_Bk_init_12 : decode (cd m_Bk_init) 12 = .ok (.putfield 12, 3) := by decide +kernel
theorem d_Bk_init_15 : decode (cd m_Bk_init) 15 = .ok (.aload_n 0, 1) := by decide +kernel
theorem d_Bk_init_16 : decode (cd m_Bk_init) 16 = .ok (.bipush 16, 2) := by decide +kernel
theorem d_Bk_init_18 : decode (cd m_Bk_init) 18 = .ok (.newarray .long, 2) := by decide +kernel
theorem d_Bk_init_20 : decode (cd m_Bk_init) 20 = .ok (.putfield 18, 3) := by decide +kernel
theorem d_Bk_init_23 : decode (cd m_Bk_init) 23 = .ok (.aload_n 0, 1) := by decide +kernel
theorem d_Bk_init_24 : decode (cd m_Bk_init) 24 = .ok (.bipush 16, 2) := by decide +kernel
theorem d_Bk_init_26 : decode (cd m_Bk_init) 26 = .ok (.newarray .int, 2) := by decide +kernel
theorem d_Bk_init_28 : decode (cd m_Bk_init) 28 = .ok (.putfield 22, 3) := by decide +kernel
theorem d_Bk_init_31 : decode (cd m_Bk_init) 31 = .ok (.aload_n 0, 1) := by decide +kernel
theorem d_Bk_init_32 : decode (cd m_Bk_init) 32 = .ok (.bipush 16, 2) := by decide +kernel
theorem d_Bk_init_34 : decode (cd m_Bk_init) 34 = .ok (.newarray .int, 2) := by decide +kernel
theorem d_Bk_init_36 : decode (cd m_Bk_init) 36 = .ok (.putfield 26, 3) := by decide +kernel
theorem d_Bk_init_39 : decode (cd m_Bk_init) 39 = .ok (.aload_n 0, 1) := by decide +kernel
theorem d_Bk_init_40 : decode (cd m_Bk_init) 40 = .ok (.bipush 16, 2) := by decide +kernel
theorem d_Bk_init_42 : decode (cd m_Bk_init) 42 = .ok (.newarray .int, 2) := by decide +kernel
theorem d_Bk_init_44 : decode (cd m_Bk_init) 44 = .ok (.putfield 29, 3) := by decide +kernel
theorem d_Bk_init_47 : decode (cd m_Bk_init) 47 = .ok (.aload_n 0, 1) := by decide +kernel
theorem d_Bk_init_48 : decode (cd m_Bk_init) 48 = .ok (.bipush 16, 2) := by decide +kernel
theorem d_Bk_init_50 : decode (cd m_Bk_init) 50 = .ok (.newarray .int, 2) := by decide +kernel
theorem d_Bk_init_52 : decode (cd m_Bk_init) 52 = .ok (.putfield 32, 3) := by decide +kernel
theorem d_Bk_init_55 : decode (cd m_Bk_init) 55 = .ok (.aload_n 0, 1) := by decide +kernel
theorem d_Bk_init_56 : decode (cd m_Bk_init) 56 = .ok (.bipush 16, 2) := by decide +kernel
theorem d_Bk_init_58 : decode (cd m_Bk_init) 58 = .ok (.newarray .int, 2) := by decide +kernel
theorem d_Bk_init_60 : decode (cd m_Bk_init) 60 = .ok (.putfield 35, 3) := by decide +kernel
theorem d_Bk_init_63 : decode (cd m_Bk_init) 63 = .ok (.return_, 1) := by decide +kernel
theorem d_Bk_clear_0 : decode (cd m_Bk_clear) 0 = .ok (.aload_n 0, 1) := by decide +kernel
theorem d_Bk_clear_1 : decode (cd m_Bk_clear) 1 = .ok (.iconst 0, 1) := by decide +kernel
theorem d_Bk_clear_2 : decode (cd m_Bk_clear) 2 = .ok (.putfield 38, 3) := by decide +kernel
theorem d_Bk_clear_5 : decode (cd m_Bk_clear) 5 = .ok (.aload_n 0, 1) := by decide +kernel
theorem d_Bk_clear_6 : decode (cd m_Bk_clear) 6 = .ok (.getfield 12, 3) := by decide +kernel
theorem d_Bk_clear_9 : decode (cd m_Bk_clear) 9 = .ok (.iconst 0, 1) := by decide +kernel
theorem d_Bk_clear_10 : decode (cd m_Bk_clear) 10 = .ok (.putfield 42, 3) := by decide +kernel
theorem d_Bk_clear_13 : decode (cd m_Bk_clear) 13 = .ok (.return_, 1) := by decide +kernel
theorem d_Bk_numberOf_0 : decode (cd m_Bk_numberOf) 0 = .ok (.iconst 0, 1) := by decide +kernel
theorem d_Bk_numberOf_1 : decode (cd m_Bk_numberOf) 1 = .ok (.istore_n 3, 1) := by decide +kernel
theorem d_Bk_numberOf_2 : decode (cd m_Bk_numberOf) 2 = .ok (.iload_n 3, 1) := by decide +kernel
theorem d_Bk_numberOf_3 : decode (cd m_Bk_numberOf) 3 = .ok (.aload_n 0, 1) := by decide +kernel
theorem d_Bk_numberOf_4 : decode (cd m_Bk_numberOf) 4 = .ok (.getfield 38, 3) := by decide +kernel
theorem d_Bk_numberOf_7 : decode (cd m_Bk_numberOf) 7 = .ok (.if_icmp .ge 22, 3) := by decide +kernel
theorem d_Bk_numberOf_10 : decode (cd m_Bk_numberOf) 10 = .ok (.aload_n 0, 1) := by decide +kernel
theorem d_Bk_numberOf_11 : decode (cd m_Bk_numberOf) 11 = .ok (.getfield 18, 3) := by decide +kernel
theorem d_Bk_numberOf_14 : decode (cd m_Bk_numberOf) 14 = .ok (.iload_n 3, 1) := by decide +kernel
theorem d_Bk_numberOf_15 : decode (cd m_Bk_numberOf) 15 = .ok (.laload, 1) := by decide +kernel
theorem d_Bk_numberOf_16 : decode (cd m_Bk_numberOf) 16 = .ok (.lload_n 1, 1) := by decide +kernel
theorem d_Bk_numberOf_17 : decode (cd m_Bk_numberOf) 17 = .ok (.lcmp, 1) := by decide +kernel
theorem d_Bk_numberOf_18 : decode (cd m_Bk_numberOf) 18 = .ok (.ifCond .ne 5, 3) := by decide +kernel
theorem d_Bk_numberOf_21 : decode (cd m_Bk_numberOf) 21 = .ok (.iload_n 3, 1) := by decide +kernel
theorem d_Bk_numberOf_22 : decode (cd m_Bk_numberOf) 22 = .ok (.ireturn, 1) := by decide +kernel
theorem d_Bk_numberOf_23 : decode (cd m_Bk_numberOf) 23 = .ok (.iinc 3 1, 3) := by decide +kernel
theorem d_Bk_numberOf_26 : decode (cd m_Bk_numberOf) 26 = .ok (.goto (-24), 3) := by decide +kernel
theorem d_Bk_numberOf_29 : decode (cd m_Bk_numberOf) 29 = .ok (.aload_n 0, 1) := by decide +kernel
theorem d_Bk_numberOf_30 : decode (cd m_Bk_numberOf) 30 = .ok (.getfield 38, 3) := by decide +kernel
theorem d_Bk_numberOf_33 : decode (cd m_Bk_numberOf) 33 = .ok (.bipush 16, 2) := by decide +kernel
theorem d_Bk_numberOf_35 : decode (cd m_Bk_numberOf) 35 = .ok (.if_icmp .lt 5, 3) := by decide +kernel
theorem d_Bk_numberOf_38 : decode (cd m_Bk_numberOf) 38 = .ok (.iconst (-1), 1) := by decide +kernel
theorem d_Bk_numberOf_39 : decode (cd m_Bk_numberOf) 39 = .ok (.ireturn, 1) := by decide +kernel
theorem d_Bk_numberOf_40 : decode (cd m_Bk_numberOf) 40 = .ok (.aload_n 0, 1) := by decide +kernel
theorem d_Bk_numberOf_41 : decode (cd m_Bk_numberOf) 41 = .ok (.getfield 18, 3) := by decide +kernel
theorem d_Bk_numberOf_44 : decode (cd m_Bk_numberOf) 44 = .ok (.aload_n 0, 1) := by decide +kernel
theorem d_Bk_numberOf_45 : decode (cd m_Bk_numberOf) 45 = .ok (.getfield 38, 3) := by decide +kernel
theorem d_Bk_numberOf_48 : decode (cd m_Bk_numberOf) 48 = .ok (.lload_n 1, 1) := by decide +kernel
theorem d_Bk_numberOf_49 : decode (cd m_Bk_numberOf) 49 = .ok (.lastore, 1) := by decide +kernel
theorem d_Bk_numberOf_50 : decode (cd m_Bk_numberOf) 50 = .ok (.aload_n 0, 1) := by decide +kernel
theorem d_Bk_numberOf_51 : decode (cd m_Bk_numberOf) 51 = .ok (.getfield 22, 3) := by decide +kernel
theorem d_Bk_numberOf_54 : decode (cd m_Bk_numberOf) 54 = .ok (.aload_n 0, 1) := by decide +kernel
theorem d_Bk_numberOf_55 : decode (cd m_Bk_numberOf) 55 = .ok (.getfield 38, 3) := by decide +kernel
theorem d_Bk_numberOf_58 : decode (cd m_Bk_numberOf) 58 = .ok (.iconst 0, 1) := by decide +kernel
theorem d_Bk_numberOf_59 : decode (cd m_Bk_numberOf) 59 = .ok (.iastore, 1) := by decide +kernel
theorem d_Bk_numberOf_60 : decode (cd m_Bk_numberOf) 60 = .ok (.aload_n 0, 1) := by decide +kernel
theorem d_Bk_numberOf_61 : decode (cd m_Bk_numberOf) 61 = .ok (.getfield 26, 3) := by decide +kernel
theorem d_Bk_numberOf_64 : decode (cd m_Bk_numberOf) 64 = .ok (.aload_n 0, 1) := by decide +kernel
theorem d_Bk_numberOf_65 : decode (cd m_Bk_numberOf) 65 = .ok (.getfield 38, 3) := by decide +kernel
theorem d_Bk_numberOf_68 : decode (cd m_Bk_numberOf) 68 = .ok (.iconst 0, 1) := by decide +kernel
theorem d_Bk_numberOf_69 : decode (cd m_Bk_numberOf) 69 = .ok (.iastore, 1) := by decide +kernel
theorem d_Bk_numberOf_70 : decode (cd m_Bk_numberOf) 70 = .ok (.aload_n 0, 1) := by decide +kernel
theorem d_Bk_numberOf_71 : decode (cd m_Bk_numberOf) 71 = .ok (.getfield 29, 3) := by decide +kernel
theorem d_Bk_numberOf_74 : decode (cd m_Bk_numberOf) 74 = .ok (.aload_n 0, 1) := by decide +kernel
theorem d_Bk_numberOf_75 : decode (cd m_Bk_numberOf) 75 = .ok (.getfield 38, 3) := by decide +kernel
theorem d_Bk_numberOf_78 : decode (cd m_Bk_numberOf) 78 = .ok (.iconst 0, 1) := by decide +kernel
theorem d_Bk_numberOf_79 : decode (cd m_Bk_numberOf) 79 = .ok (.iastore, 1) := by decide +kernel
theorem d_Bk_numberOf_80 : decode (cd m_Bk_numberOf) 80 = .ok (.aload_n 0, 1) := by decide +kernel
theorem d_Bk_numberOf_81 : decode (cd m_Bk_numberOf) 81 = .ok (.getfield 32, 3) := by decide +kernel
theorem d_Bk_numberOf_84 : decode (cd m_Bk_numberOf) 84 = .ok (.aload_n 0, 1) := by decide +kernel
theorem d_Bk_numberOf_85 : decode (cd m_Bk_numberOf) 85 = .ok (.getfield 38, 3) := by decide +kernel
theorem d_Bk_numberOf_88 : decode (cd m_Bk_numberOf) 88 = .ok (.iconst 0, 1) := by decide +kernel
theorem d_Bk_numberOf_89 : decode (cd m_Bk_numberOf) 89 = .ok (.iastore, 1) := by decide +kernel
theorem d_Bk_numberOf_90 : decode (cd m_Bk_numberOf) 90 = .ok (.aload_n 0, 1) := by decide +kernel
theorem d_Bk_numberOf_91 : decode (cd m_Bk_numberOf) 91 = .ok (.getfield 35, 3) := by decide +kernel
theorem d_Bk_numberOf_94 : decode (cd m_Bk_numberOf) 94 = .ok (.aload_n 0, 1) := by decide +kernel
theorem d_Bk_numberOf_95 : decode (cd m_Bk_numberOf) 95 = .ok (.getfield 38, 3) := by decide +kernel
theorem d_Bk_numberOf_98 : decode (cd m_Bk_numberOf) 98 = .ok (.iconst 0, 1) := by decide +kernel
theorem d_Bk_numberOf_99 : decode (cd m_Bk_numberOf) 99 = .ok (.iastore, 1) := by decide +kernel
theorem d_Bk_numberOf_100 : decode (cd m_Bk_numberOf) 100 = .ok (.aload_n 0, 1) := by decide +kernel
theorem d_Bk_numberOf_101 : decode (cd m_Bk_numberOf) 101 = .ok (.dup, 1) := by decide +kernel
theorem d_Bk_numberOf_102 : decode (cd m_Bk_numberOf) 102 = .ok (.getfield 38, 3) := by decide +kernel
theorem d_Bk_numberOf_105 : decode (cd m_Bk_numberOf) 105 = .ok (.iconst 1, 1) := by decide +kernel
theorem d_Bk_numberOf_106 : decode (cd m_Bk_numberOf) 106 = .ok (.iadd, 1) := by decide +kernel
theorem d_Bk_numberOf_107 : decode (cd m_Bk_numberOf) 107 = .ok (.putfield 38, 3) := by decide +kernel
theorem d_Bk_numberOf_110 : decode (cd m_Bk_numberOf) 110 = .ok (.aload_n 0, 1) := by decide +kernel
theorem d_Bk_numberOf_111 : decode (cd m_Bk_numberOf) 111 = .ok (.getfield 38, 3) := by decide +kernel
theorem d_Bk_numberOf_114 : decode (cd m_Bk_numberOf) 114 = .ok (.iconst 1, 1) := by decide +kernel
theorem d_Bk_numberOf_115 : decode (cd m_Bk_numberOf) 115 = .ok (.isub, 1) := by decide +kernel
theorem d_Bk_numberOf_116 : decode (cd m_Bk_numberOf) 116 = .ok (.ireturn, 1) := by decide +kernel
theorem d_Bk_agrees_0 : decode (cd m_Bk_agrees) 0 = .ok (.iload_n 1, 1) := by decide +kernel
theorem d_Bk_agrees_1 : decode (cd m_Bk_agrees) 1 = .ok (.ifCond .lt 11, 3) := by decide +kernel
theorem d_Bk_agrees_4 : decode (cd m_Bk_agrees) 4 = .ok (.iload_n 1, 1) := by decide +kernel
theorem d_Bk_agrees_5 : decode (cd m_Bk_agrees) 5 = .ok (.aload_n 0, 1) := by decide +kernel
theorem d_Bk_agrees_6 : decode (cd m_Bk_agrees) 6 = .ok (.getfield 38, 3) := by decide +kernel
theorem d_Bk_agrees_9 : decode (cd m_Bk_agrees) 9 = .ok (.if_icmp .lt 5, 3) := by decide +kernel
theorem d_Bk_agrees_12 : decode (cd m_Bk_agrees) 12 = .ok (.iconst 0, 1) := by decide +kernel
theorem d_Bk_agrees_13 : decode (cd m_Bk_agrees) 13 = .ok (.ireturn, 1) := by decide +kernel
theorem d_Bk_agrees_14 : decode (cd m_Bk_agrees) 14 = .ok (.aload_n 0, 1) := by decide +kernel
theorem d_Bk_agrees_15 : decode (cd m_Bk_agrees) 15 = .ok (.getfield 22, 3) := by decide +kernel
theorem d_Bk_agrees_18 : decode (cd m_Bk_agrees) 18 = .ok (.iload_n 1, 1) := by decide +kernel
theorem d_Bk_agrees_19 : decode (cd m_Bk_agrees) 19 = .ok (.iaload, 1) := by decide +kernel
theorem d_Bk_agrees_20 : decode (cd m_Bk_agrees) 20 = .ok (.ifCond .ne 10, 3) := by decide +kernel
theorem d_Bk_agrees_23 : decode (cd m_Bk_agrees) 23 = .ok (.aload_n 0, 1) := by decide +kernel
theorem d_Bk_agrees_24 : decode (cd m_Bk_agrees) 24 = .ok (.getfield 22, 3) := by decide +kernel
theorem d_Bk_agrees_27 : decode (cd m_Bk_agrees) 27 = .ok (.iload_n 1, 1) := by decide +kernel
theorem d_Bk_agrees_28 : decode (cd m_Bk_agrees) 28 = .ok (.iload_n 2, 1) := by decide +kernel
theorem d_Bk_agrees_29 : decode (cd m_Bk_agrees) 29 = .ok (.iastore, 1) := by decide +kernel
theorem d_Bk_agrees_30 : decode (cd m_Bk_agrees) 30 = .ok (.aload_n 0, 1) := by decide +kernel
theorem d_Bk_agrees_31 : decode (cd m_Bk_agrees) 31 = .ok (.getfield 22, 3) := by decide +kernel
theorem d_Bk_agrees_34 : decode (cd m_Bk_agrees) 34 = .ok (.iload_n 1, 1) := by decide +kernel
theorem d_Bk_agrees_35 : decode (cd m_Bk_agrees) 35 = .ok (.iaload, 1) := by decide +kernel
theorem d_Bk_agrees_36 : decode (cd m_Bk_agrees) 36 = .ok (.iload_n 2, 1) := by decide +kernel
theorem d_Bk_agrees_37 : decode (cd m_Bk_agrees) 37 = .ok (.if_icmp .ne 7, 3) := by decide +kernel
theorem d_Bk_agrees_40 : decode (cd m_Bk_agrees) 40 = .ok (.iconst 1, 1) := by decide +kernel
theorem d_Bk_agrees_41 : decode (cd m_Bk_agrees) 41 = .ok (.goto 4, 3) := by decide +kernel
theorem d_Bk_agrees_44 : decode (cd m_Bk_agrees) 44 = .ok (.iconst 0, 1) := by decide +kernel
theorem d_Bk_agrees_45 : decode (cd m_Bk_agrees) 45 = .ok (.ireturn, 1) := by decide +kernel
theorem d_Bk_addRule_0 : decode (cd m_Bk_addRule) 0 = .ok (.aload_n 1, 1) := by decide +kernel
theorem d_Bk_addRule_1 : decode (cd m_Bk_addRule) 1 = .ok (.getfield 43, 3) := by decide +kernel
theorem d_Bk_addRule_4 : decode (cd m_Bk_addRule) 4 = .ok (.getfield 49, 3) := by decide +kernel
theorem d_Bk_addRule_7 : decode (cd m_Bk_addRule) 7 = .ok (.istore_n 2, 1) := by decide +kernel
theorem d_Bk_addRule_8 : decode (cd m_Bk_addRule) 8 = .ok (.iload_n 2, 1) := by decide +kernel
theorem d_Bk_addRule_9 : decode (cd m_Bk_addRule) 9 = .ok (.ifCond .lt 11, 3) := by decide +kernel
theorem d_Bk_addRule_12 : decode (cd m_Bk_addRule) 12 = .ok (.iload_n 2, 1) := by decide +kernel
theorem d_Bk_addRule_13 : decode (cd m_Bk_addRule) 13 = .ok (.aload_n 0, 1) := by decide +kernel
theorem d_Bk_addRule_14 : decode (cd m_Bk_addRule) 14 = .ok (.getfield 38, 3) := by decide +kernel
theorem d_Bk_addRule_17 : decode (cd m_Bk_addRule) 17 = .ok (.if_icmp .lt 4, 3) := by decide +kernel
theorem d_Bk_addRule_20 : decode (cd m_Bk_addRule) 20 = .ok (.return_, 1) := by decide +kernel
theorem d_Bk_addRule_21 : decode (cd m_Bk_addRule) 21 = .ok (.aload_n 0, 1) := by decide +kernel
theorem d_Bk_addRule_22 : decode (cd m_Bk_addRule) 22 = .ok (.getfield 12, 3) := by decide +kernel
theorem d_Bk_addRule_25 : decode (cd m_Bk_addRule) 25 = .ok (.aload_n 1, 1) := by decide +kernel
theorem d_Bk_addRule_26 : decode (cd m_Bk_addRule) 26 = .ok (.invokevirtual 54, 3) := by decide +kernel
theorem d_Bk_addRule_29 : decode (cd m_Bk_addRule) 29 = .ok (.aload_n 0, 1) := by decide +kernel
theorem d_Bk_addRule_30 : decode (cd m_Bk_addRule) 30 = .ok (.getfield 26, 3) := by decide +kernel
theorem d_Bk_addRule_33 : decode (cd m_Bk_addRule) 33 = .ok (.iload_n 2, 1) := by decide +kernel
theorem d_Bk_addRule_34 : decode (cd m_Bk_addRule) 34 = .ok (.dup2, 1) := by decide +kernel
theorem d_Bk_addRule_35 : decode (cd m_Bk_addRule) 35 = .ok (.iaload, 1) := by decide +kernel
theorem d_Bk_addRule_36 : decode (cd m_Bk_addRule) 36 = .ok (.iconst 1, 1) := by decide +kernel
theorem d_Bk_addRule_37 : decode (cd m_Bk_addRule) 37 = .ok (.iadd, 1) := by decide +kernel
theorem d_Bk_addRule_38 : decode (cd m_Bk_addRule) 38 = .ok (.iastore, 1) := by decide +kernel
theorem d_Bk_addRule_39 : decode (cd m_Bk_addRule) 39 = .ok (.iconst 0, 1) := by decide +kernel
theorem d_Bk_addRule_40 : decode (cd m_Bk_addRule) 40 = .ok (.istore_n 3, 1) := by decide +kernel
theorem d_Bk_addRule_41 : decode (cd m_Bk_addRule) 41 = .ok (.iload_n 3, 1) := by decide +kernel
theorem d_Bk_addRule_42 : decode (cd m_Bk_addRule) 42 = .ok (.aload_n 1, 1) := by decide +kernel
theorem d_Bk_addRule_43 : decode (cd m_Bk_addRule) 43 = .ok (.getfield 58, 3) := by decide +kernel
theorem d_Bk_addRule_46 : decode (cd m_Bk_addRule) 46 = .ok (.if_icmp .ge 41, 3) := by decide +kernel
theorem d_Bk_addRule_49 : decode (cd m_Bk_addRule) 49 = .ok (.aload_n 1, 1) := by decide +kernel
theorem d_Bk_addRule_50 : decode (cd m_Bk_addRule) 50 = .ok (.getfield 61, 3) := by decide +kernel
theorem d_Bk_addRule_53 : decode (cd m_Bk_addRule) 53 = .ok (.iload_n 3, 1) := by decide +kernel
theorem d_Bk_addRule_54 : decode (cd m_Bk_addRule) 54 = .ok (.aaload, 1) := by decide +kernel
theorem d_Bk_addRule_55 : decode (cd m_Bk_addRule) 55 = .ok (.invokevirtual 65, 3) := by decide +kernel
theorem d_Bk_addRule_58 : decode (cd m_Bk_addRule) 58 = .ok (.ifCond .eq 23, 3) := by decide +kernel
theorem d_Bk_addRule_61 : decode (cd m_Bk_addRule) 61 = .ok (.aload_n 0, 1) := by decide +kernel
theorem d_Bk_addRule_62 : decode (cd m_Bk_addRule) 62 = .ok (.getfield 35, 3) := by decide +kernel
theorem d_Bk_addRule_65 : decode (cd m_Bk_addRule) 65 = .ok (.iload_n 2, 1) := by decide +kernel
theorem d_Bk_addRule_66 : decode (cd m_Bk_addRule) 66 = .ok (.dup2, 1) := by decide +kernel
theorem d_Bk_addRule_67 : decode (cd m_Bk_addRule) 67 = .ok (.iaload, 1) := by decide +kernel
theorem d_Bk_addRule_68 : decode (cd m_Bk_addRule) 68 = .ok (.iconst 1, 1) := by decide +kernel
theorem d_Bk_addRule_69 : decode (cd m_Bk_addRule) 69 = .ok (.aload_n 1, 1) := by decide +kernel
theorem d_Bk_addRule_70 : decode (cd m_Bk_addRule) 70 = .ok (.getfield 61, 3) := by decide +kernel
theorem d_Bk_addRule_73 : decode (cd m_Bk_addRule) 73 = .ok (.iload_n 3, 1) := by decide +kernel
theorem d_Bk_addRule_74 : decode (cd m_Bk_addRule) 74 = .ok (.aaload, 1) := by decide +kernel
theorem d_Bk_addRule_75 : decode (cd m_Bk_addRule) 75 = .ok (.getfield 49, 3) := by decide +kernel
theorem d_Bk_addRule_78 : decode (cd m_Bk_addRule) 78 = .ok (.ishl, 1) := by decide +kernel
theorem d_Bk_addRule_79 : decode (cd m_Bk_addRule) 79 = .ok (.ior, 1) := by decide +kernel
theorem d_Bk_addRule_80 : decode (cd m_Bk_addRule) 80 = .ok (.iastore, 1) := by decide +kernel
theorem d_Bk_addRule_81 : decode (cd m_Bk_addRule) 81 = .ok (.iinc 3 1, 3) := by decide +kernel
theorem d_Bk_addRule_84 : decode (cd m_Bk_addRule) 84 = .ok (.goto (-43), 3) := by decide +kernel
theorem d_Bk_addRule_87 : decode (cd m_Bk_addRule) 87 = .ok (.return_, 1) := by decide +kernel
theorem d_Bk_addFact_0 : decode (cd m_Bk_addFact) 0 = .ok (.iload_n 1, 1) := by decide +kernel
theorem d_Bk_addFact_1 : decode (cd m_Bk_addFact) 1 = .ok (.ifCond .lt 21, 3) := by decide +kernel
theorem d_Bk_addFact_4 : decode (cd m_Bk_addFact) 4 = .ok (.iload_n 1, 1) := by decide +kernel
theorem d_Bk_addFact_5 : decode (cd m_Bk_addFact) 5 = .ok (.aload_n 0, 1) := by decide +kernel
theorem d_Bk_addFact_6 : decode (cd m_Bk_addFact) 6 = .ok (.getfield 38, 3) := by decide +kernel
theorem d_Bk_addFact_9 : decode (cd m_Bk_addFact) 9 = .ok (.if_icmp .ge 13, 3) := by decide +kernel
theorem d_Bk_addFact_12 : decode (cd m_Bk_addFact) 12 = .ok (.aload_n 0, 1) := by decide +kernel
theorem d_Bk_addFact_13 : decode (cd m_Bk_addFact) 13 = .ok (.getfield 29, 3) := by decide +kernel
theorem d_Bk_addFact_16 : decode (cd m_Bk_addFact) 16 = .ok (.iload_n 1, 1) := by decide +kernel
theorem d_Bk_addFact_17 : decode (cd m_Bk_addFact) 17 = .ok (.dup2, 1) := by decide +kernel
theorem d_Bk_addFact_18 : decode (cd m_Bk_addFact) 18 = .ok (.iaload, 1) := by decide +kernel
theorem d_Bk_addFact_19 : decode (cd m_Bk_addFact) 19 = .ok (.iconst 1, 1) := by decide +kernel
theorem d_Bk_addFact_20 : decode (cd m_Bk_addFact) 20 = .ok (.iadd, 1) := by decide +kernel
theorem d_Bk_addFact_21 : decode (cd m_Bk_addFact) 21 = .ok (.iastore, 1) := by decide +kernel
theorem d_Bk_addFact_22 : decode (cd m_Bk_addFact) 22 = .ok (.return_, 1) := by decide +kernel
theorem d_Bk_reaches_0 : decode (cd m_Bk_reaches) 0 = .ok (.aload_n 0, 1) := by decide +kernel
theorem d_Bk_reaches_1 : decode (cd m_Bk_reaches) 1 = .ok (.getfield 35, 3) := by decide +kernel
theorem d_Bk_reaches_4 : decode (cd m_Bk_reaches) 4 = .ok (.iload_n 1, 1) := by decide +kernel
theorem d_Bk_reaches_5 : decode (cd m_Bk_reaches) 5 = .ok (.iaload, 1) := by decide +kernel
theorem d_Bk_reaches_6 : decode (cd m_Bk_reaches) 6 = .ok (.iload_n 2, 1) := by decide +kernel
theorem d_Bk_reaches_7 : decode (cd m_Bk_reaches) 7 = .ok (.ishr, 1) := by decide +kernel
theorem d_Bk_reaches_8 : decode (cd m_Bk_reaches) 8 = .ok (.iconst 1, 1) := by decide +kernel
theorem d_Bk_reaches_9 : decode (cd m_Bk_reaches) 9 = .ok (.iand, 1) := by decide +kernel
theorem d_Bk_reaches_10 : decode (cd m_Bk_reaches) 10 = .ok (.ifCond .eq 7, 3) := by decide +kernel
theorem d_Bk_reaches_13 : decode (cd m_Bk_reaches) 13 = .ok (.iconst 1, 1) := by decide +kernel
theorem d_Bk_reaches_14 : decode (cd m_Bk_reaches) 14 = .ok (.goto 4, 3) := by decide +kernel
theorem d_Bk_reaches_17 : decode (cd m_Bk_reaches) 17 = .ok (.iconst 0, 1) := by decide +kernel
theorem d_Bk_reaches_18 : decode (cd m_Bk_reaches) 18 = .ok (.ireturn, 1) := by decide +kernel
theorem d_Bk_spreadHanging_0 : decode (cd m_Bk_spreadHanging) 0 = .ok (.iconst 0, 1) := by decide +kernel
theorem d_Bk_spreadHanging_1 : decode (cd m_Bk_spreadHanging) 1 = .ok (.istore_n 1, 1) := by decide +kernel
theorem d_Bk_spreadHanging_2 : decode (cd m_Bk_spreadHanging) 2 = .ok (.iload_n 1, 1) := by decide +kernel
theorem d_Bk_spreadHanging_3 : decode (cd m_Bk_spreadHanging) 3 = .ok (.aload_n 0, 1) := by decide +kernel
theorem d_Bk_spreadHanging_4 : decode (cd m_Bk_spreadHanging) 4 = .ok (.getfield 38, 3) := by decide +kernel
theorem d_Bk_spreadHanging_7 : decode (cd m_Bk_spreadHanging) 7 = .ok (.if_icmp .ge 49, 3) := by decide +kernel
theorem d_Bk_spreadHanging_10 : decode (cd m_Bk_spreadHanging) 10 = .ok (.iconst 0, 1) := by decide +kernel
theorem d_Bk_spreadHanging_11 : decode (cd m_Bk_spreadHanging) 11 = .ok (.istore_n 2, 1) := by decide +kernel
theorem d_Bk_spreadHanging_12 : decode (cd m_Bk_spreadHanging) 12 = .ok (.iload_n 2, 1) := by decide +kernel
theorem d_Bk_spreadHanging_13 : decode (cd m_Bk_spreadHanging) 13 = .ok (.aload_n 0, 1) := by decide +kernel
theorem d_Bk_spreadHanging_14 : decode (cd m_Bk_spreadHanging) 14 = .ok (.getfield 38, 3) := by decide +kernel
theorem d_Bk_spreadHanging_17 : decode (cd m_Bk_spreadHanging) 17 = .ok (.if_icmp .ge 33, 3) := by decide +kernel
theorem d_Bk_spreadHanging_20 : decode (cd m_Bk_spreadHanging) 20 = .ok (.aload_n 0, 1) := by decide +kernel
theorem d_Bk_spreadHanging_21 : decode (cd m_Bk_spreadHanging) 21 = .ok (.iload_n 2, 1) := by decide +kernel
theorem d_Bk_spreadHanging_22 : decode (cd m_Bk_spreadHanging) 22 = .ok (.iload_n 1, 1) := by decide +kernel
theorem d_Bk_spreadHanging_23 : decode (cd m_Bk_spreadHanging) 23 = .ok (.invokevirtual 69, 3) := by decide +kernel
theorem d_Bk_spreadHanging_26 : decode (cd m_Bk_spreadHanging) 26 = .ok (.ifCond .eq 18, 3) := by decide +kernel
theorem d_Bk_spreadHanging_29 : decode (cd m_Bk_spreadHanging) 29 = .ok (.aload_n 0, 1) := by decide +kernel
theorem d_Bk_spreadHanging_30 : decode (cd m_Bk_spreadHanging) 30 = .ok (.getfield 35, 3) := by decide +kernel
theorem d_Bk_spreadHanging_33 : decode (cd m_Bk_spreadHanging) 33 = .ok (.iload_n 2, 1) := by decide +kernel
theorem d_Bk_spreadHanging_34 : decode (cd m_Bk_spreadHanging) 34 = .ok (.dup2, 1) := by decide +kernel
theorem d_Bk_spreadHanging_35 : decode (cd m_Bk_spreadHanging) 35 = .ok (.iaload, 1) := by decide +kernel
theorem d_Bk_spreadHanging_36 : decode (cd m_Bk_spreadHanging) 36 = .ok (.aload_n 0, 1) := by decide +kernel
theorem d_Bk_spreadHanging_37 : decode (cd m_Bk_spreadHanging) 37 = .ok (.getfield 35, 3) := by decide +kernel
theorem d_Bk_spreadHanging_40 : decode (cd m_Bk_spreadHanging) 40 = .ok (.iload_n 1, 1) := by decide +kernel
theorem d_Bk_spreadHanging_41 : decode (cd m_Bk_spreadHanging) 41 = .ok (.iaload, 1) := by decide +kernel
theorem d_Bk_spreadHanging_42 : decode (cd m_Bk_spreadHanging) 42 = .ok (.ior, 1) := by decide +kernel
theorem d_Bk_spreadHanging_43 : decode (cd m_Bk_spreadHanging) 43 = .ok (.iastore, 1) := by decide +kernel
theorem d_Bk_spreadHanging_44 : decode (cd m_Bk_spreadHanging) 44 = .ok (.iinc 2 1, 3) := by decide +kernel
theorem d_Bk_spreadHanging_47 : decode (cd m_Bk_spreadHanging) 47 = .ok (.goto (-35), 3) := by decide +kernel
theorem d_Bk_spreadHanging_50 : decode (cd m_Bk_spreadHanging) 50 = .ok (.iinc 1 1, 3) := by decide +kernel
theorem d_Bk_spreadHanging_53 : decode (cd m_Bk_spreadHanging) 53 = .ok (.goto (-51), 3) := by decide +kernel
theorem d_Bk_spreadHanging_56 : decode (cd m_Bk_spreadHanging) 56 = .ok (.return_, 1) := by decide +kernel
theorem d_Bk_leadsBack_0 : decode (cd m_Bk_leadsBack) 0 = .ok (.aload_n 0, 1) := by decide +kernel
theorem d_Bk_leadsBack_1 : decode (cd m_Bk_leadsBack) 1 = .ok (.getfield 12, 3) := by decide +kernel
theorem d_Bk_leadsBack_4 : decode (cd m_Bk_leadsBack) 4 = .ok (.getfield 73, 3) := by decide +kernel
theorem d_Bk_leadsBack_7 : decode (cd m_Bk_leadsBack) 7 = .ok (.iload_n 2, 1) := by decide +kernel
theorem d_Bk_leadsBack_8 : decode (cd m_Bk_leadsBack) 8 = .ok (.iaload, 1) := by decide +kernel
theorem d_Bk_leadsBack_9 : decode (cd m_Bk_leadsBack) 9 = .ok (.istore_n 3, 1) := by decide +kernel
theorem d_Bk_leadsBack_10 : decode (cd m_Bk_leadsBack) 10 = .ok (.aload_n 0, 1) := by decide +kernel
theorem d_Bk_leadsBack_11 : decode (cd m_Bk_leadsBack) 11 = .ok (.getfield 12, 3) := by decide +kernel
theorem d_Bk_leadsBack_14 : decode (cd m_Bk_leadsBack) 14 = .ok (.getfield 75, 3) := by decide +kernel
theorem d_Bk_leadsBack_17 : decode (cd m_Bk_leadsBack) 17 = .ok (.iload_n 1, 1) := by decide +kernel
theorem d_Bk_leadsBack_18 : decode (cd m_Bk_leadsBack) 18 = .ok (.iaload, 1) := by decide +kernel
theorem d_Bk_leadsBack_19 : decode (cd m_Bk_leadsBack) 19 = .ok (.istore 4, 2) := by decide +kernel
theorem d_Bk_leadsBack_21 : decode (cd m_Bk_leadsBack) 21 = .ok (.iload_n 3, 1) := by decide +kernel
theorem d_Bk_leadsBack_22 : decode (cd m_Bk_leadsBack) 22 = .ok (.ifCond .lt 31, 3) := by decide +kernel
theorem d_Bk_leadsBack_25 : decode (cd m_Bk_leadsBack) 25 = .ok (.iload_n 3, 1) := by decide +kernel
theorem d_Bk_leadsBack_26 : decode (cd m_Bk_leadsBack) 26 = .ok (.aload_n 0, 1) := by decide +kernel
theorem d_Bk_leadsBack_27 : decode (cd m_Bk_leadsBack) 27 = .ok (.getfield 38, 3) := by decide +kernel
theorem d_Bk_leadsBack_30 : decode (cd m_Bk_leadsBack) 30 = .ok (.if_icmp .ge 23, 3) := by decide +kernel
theorem d_Bk_leadsBack_33 : decode (cd m_Bk_leadsBack) 33 = .ok (.iload_n 3, 1) := by decide +kernel
theorem d_Bk_leadsBack_34 : decode (cd m_Bk_leadsBack) 34 = .ok (.iload 4, 2) := by decide +kernel
theorem d_Bk_leadsBack_36 : decode (cd m_Bk_leadsBack) 36 = .ok (.if_icmp .eq 13, 3) := by decide +kernel
theorem d_Bk_leadsBack_39 : decode (cd m_Bk_leadsBack) 39 = .ok (.aload_n 0, 1) := by decide +kernel
theorem d_Bk_leadsBack_40 : decode (cd m_Bk_leadsBack) 40 = .ok (.iload_n 3, 1) := by decide +kernel
theorem d_Bk_leadsBack_41 : decode (cd m_Bk_leadsBack) 41 = .ok (.iload 4, 2) := by decide +kernel
theorem d_Bk_leadsBack_43 : decode (cd m_Bk_leadsBack) 43 = .ok (.invokevirtual 69, 3) := by decide +kernel
theorem d_Bk_leadsBack_46 : decode (cd m_Bk_leadsBack) 46 = .ok (.ifCond .eq 7, 3) := by decide +kernel
theorem d_Bk_leadsBack_49 : decode (cd m_Bk_leadsBack) 49 = .ok (.iconst 1, 1) := by decide +kernel
theorem d_Bk_leadsBack_50 : decode (cd m_Bk_leadsBack) 50 = .ok (.goto 4, 3) := by decide +kernel
theorem d_Bk_leadsBack_53 : decode (cd m_Bk_leadsBack) 53 = .ok (.iconst 0, 1) := by decide +kernel
theorem d_Bk_leadsBack_54 : decode (cd m_Bk_leadsBack) 54 = .ok (.ireturn, 1) := by decide +kernel
theorem d_Bk_circles_0 : decode (cd m_Bk_circles) 0 = .ok (.iconst 0, 1) := by decide +kernel
theorem d_Bk_circles_1 : decode (cd m_Bk_circles) 1 = .ok (.istore_n 2, 1) := by decide +kernel
theorem d_Bk_circles_2 : decode (cd m_Bk_circles) 2 = .ok (.iconst 0, 1) := by decide +kernel
theorem d_Bk_circles_3 : decode (cd m_Bk_circles) 3 = .ok (.istore_n 3, 1) := by decide +kernel
theorem d_Bk_circles_4 : decode (cd m_Bk_circles) 4 = .ok (.iload_n 3, 1) := by decide +kernel
theorem d_Bk_circles_5 : decode (cd m_Bk_circles) 5 = .ok (.aload_n 0, 1) := by decide +kernel
theorem d_Bk_circles_6 : decode (cd m_Bk_circles) 6 = .ok (.getfield 12, 3) := by decide +kernel
theorem d_Bk_circles_9 : decode (cd m_Bk_circles) 9 = .ok (.getfield 78, 3) := by decide +kernel
theorem d_Bk_circles_12 : decode (cd m_Bk_circles) 12 = .ok (.iload_n 1, 1) := by decide +kernel
theorem d_Bk_circles_13 : decode (cd m_Bk_circles) 13 = .ok (.iaload, 1) := by decide +kernel
theorem d_Bk_circles_14 : decode (cd m_Bk_circles) 14 = .ok (.if_icmp .ge 43, 3) := by decide +kernel
theorem d_Bk_circles_17 : decode (cd m_Bk_circles) 17 = .ok (.iload_n 1, 1) := by decide +kernel
theorem d_Bk_circles_18 : decode (cd m_Bk_circles) 18 = .ok (.bipush 6, 2) := by decide +kernel
theorem d_Bk_circles_20 : decode (cd m_Bk_circles) 20 = .ok (.imul, 1) := by decide +kernel
theorem d_Bk_circles_21 : decode (cd m_Bk_circles) 21 = .ok (.iload_n 3, 1) := by decide +kernel
theorem d_Bk_circles_22 : decode (cd m_Bk_circles) 22 = .ok (.iadd, 1) := by decide +kernel
theorem d_Bk_circles_23 : decode (cd m_Bk_circles) 23 = .ok (.istore 4, 2) := by decide +kernel
theorem d_Bk_circles_25 : decode (cd m_Bk_circles) 25 = .ok (.aload_n 0, 1) := by decide +kernel
theorem d_Bk_circles_26 : decode (cd m_Bk_circles) 26 = .ok (.getfield 12, 3) := by decide +kernel
theorem d_Bk_circles_29 : decode (cd m_Bk_circles) 29 = .ok (.getfield 79, 3) := by decide +kernel
theorem d_Bk_circles_32 : decode (cd m_Bk_circles) 32 = .ok (.iload 4, 2) := by decide +kernel
theorem d_Bk_circles_34 : decode (cd m_Bk_circles) 34 = .ok (.iaload, 1) := by decide +kernel
theorem d_Bk_circles_35 : decode (cd m_Bk_circles) 35 = .ok (.ifCond .ne 16, 3) := by decide +kernel
theorem d_Bk_circles_38 : decode (cd m_Bk_circles) 38 = .ok (.aload_n 0, 1) := by decide +kernel
theorem d_Bk_circles_39 : decode (cd m_Bk_circles) 39 = .ok (.iload_n 1, 1) := by decide +kernel
theorem d_Bk_circles_40 : decode (cd m_Bk_circles) 40 = .ok (.iload 4, 2) := by decide +kernel
theorem d_Bk_circles_42 : decode (cd m_Bk_circles) 42 = .ok (.invokevirtual 82, 3) := by decide +kernel
theorem d_Bk_circles_45 : decode (cd m_Bk_circles) 45 = .ok (.ifCond .eq 6, 3) := by decide +kernel
theorem d_Bk_circles_48 : decode (cd m_Bk_circles) 48 = .ok (.iinc 2 1, 3) := by decide +kernel
theorem d_Bk_circles_51 : decode (cd m_Bk_circles) 51 = .ok (.iinc 3 1, 3) := by decide +kernel
theorem d_Bk_circles_54 : decode (cd m_Bk_circles) 54 = .ok (.goto (-50), 3) := by decide +kernel
theorem d_Bk_circles_57 : decode (cd m_Bk_circles) 57 = .ok (.iload_n 2, 1) := by decide +kernel
theorem d_Bk_circles_58 : decode (cd m_Bk_circles) 58 = .ok (.ireturn, 1) := by decide +kernel
theorem d_Bk_knotPlace_0 : decode (cd m_Bk_knotPlace) 0 = .ok (.iconst 0, 1) := by decide +kernel
theorem d_Bk_knotPlace_1 : decode (cd m_Bk_knotPlace) 1 = .ok (.istore_n 1, 1) := by decide +kernel
theorem d_Bk_knotPlace_2 : decode (cd m_Bk_knotPlace) 2 = .ok (.iload_n 1, 1) := by decide +kernel
theorem d_Bk_knotPlace_3 : decode (cd m_Bk_knotPlace) 3 = .ok (.aload_n 0, 1) := by decide +kernel
theorem d_Bk_knotPlace_4 : decode (cd m_Bk_knotPlace) 4 = .ok (.getfield 12, 3) := by decide +kernel
theorem d_Bk_knotPlace_7 : decode (cd m_Bk_knotPlace) 7 = .ok (.getfield 42, 3) := by decide +kernel
theorem d_Bk_knotPlace_10 : decode (cd m_Bk_knotPlace) 10 = .ok (.if_icmp .ge 92, 3) := by decide +kernel
theorem d_Bk_knotPlace_13 : decode (cd m_Bk_knotPlace) 13 = .ok (.iconst 0, 1) := by decide +kernel
theorem d_Bk_knotPlace_14 : decode (cd m_Bk_knotPlace) 14 = .ok (.istore_n 2, 1) := by decide +kernel
theorem d_Bk_knotPlace_15 : decode (cd m_Bk_knotPlace) 15 = .ok (.iload_n 2, 1) := by decide +kernel
theorem d_Bk_knotPlace_16 : decode (cd m_Bk_knotPlace) 16 = .ok (.aload_n 0, 1) := by decide +kernel
theorem d_Bk_knotPlace_17 : decode (cd m_Bk_knotPlace) 17 = .ok (.getfield 12, 3) := by decide +kernel
theorem d_Bk_knotPlace_20 : decode (cd m_Bk_knotPlace) 20 = .ok (.getfield 78, 3) := by decide +kernel
theorem d_Bk_knotPlace_23 : decode (cd m_Bk_knotPlace) 23 = .ok (.iload_n 1, 1) := by decide +kernel
theorem d_Bk_knotPlace_24 : decode (cd m_Bk_knotPlace) 24 = .ok (.iaload, 1) := by decide +kernel
theorem d_Bk_knotPlace_25 : decode (cd m_Bk_knotPlace) 25 = .ok (.if_icmp .ge 71, 3) := by decide +kernel
theorem d_Bk_knotPlace_28 : decode (cd m_Bk_knotPlace) 28 = .ok (.iload_n 1, 1) := by decide +kernel
theorem d_Bk_knotPlace_29 : decode (cd m_Bk_knotPlace) 29 = .ok (.bipush 6, 2) := by decide +kernel
theorem d_Bk_knotPlace_31 : decode (cd m_Bk_knotPlace) 31 = .ok (.imul, 1) := by decide +kernel
theorem d_Bk_knotPlace_32 : decode (cd m_Bk_knotPlace) 32 = .ok (.iload_n 2, 1) := by decide +kernel
theorem d_Bk_knotPlace_33 : decode (cd m_Bk_knotPlace) 33 = .ok (.iadd, 1) := by decide +kernel
theorem d_Bk_knotPlace_34 : decode (cd m_Bk_knotPlace) 34 = .ok (.istore_n 3, 1) := by decide +kernel
theorem d_Bk_knotPlace_35 : decode (cd m_Bk_knotPlace) 35 = .ok (.aload_n 0, 1) := by decide +kernel
theorem d_Bk_knotPlace_36 : decode (cd m_Bk_knotPlace) 36 = .ok (.getfield 12, 3) := by decide +kernel
theorem d_Bk_knotPlace_39 : decode (cd m_Bk_knotPlace) 39 = .ok (.iload_n 1, 1) := by decide +kernel
theorem d_Bk_knotPlace_40 : decode (cd m_Bk_knotPlace) 40 = .ok (.iload_n 3, 1) := by decide +kernel
theorem d_Bk_knotPlace_41 : decode (cd m_Bk_knotPlace) 41 = .ok (.invokevirtual 85, 3) := by decide +kernel
theorem d_Bk_knotPlace_44 : decode (cd m_Bk_knotPlace) 44 = .ok (.ifCond .eq 46, 3) := by decide +kernel
theorem d_Bk_knotPlace_47 : decode (cd m_Bk_knotPlace) 47 = .ok (.aload_n 0, 1) := by decide +kernel
theorem d_Bk_knotPlace_48 : decode (cd m_Bk_knotPlace) 48 = .ok (.iload_n 1, 1) := by decide +kernel
theorem d_Bk_knotPlace_49 : decode (cd m_Bk_knotPlace) 49 = .ok (.iload_n 3, 1) := by decide +kernel
theorem d_Bk_knotPlace_50 : decode (cd m_Bk_knotPlace) 50 = .ok (.invokevirtual 82, 3) := by decide +kernel
theorem d_Bk_knotPlace_53 : decode (cd m_Bk_knotPlace) 53 = .ok (.ifCond .eq 37, 3) := by decide +kernel
theorem d_Bk_knotPlace_56 : decode (cd m_Bk_knotPlace) 56 = .ok (.aload_n 0, 1) := by decide +kernel
theorem d_Bk_knotPlace_57 : decode (cd m_Bk_knotPlace) 57 = .ok (.getfield 12, 3) := by decide +kernel
theorem d_Bk_knotPlace_60 : decode (cd m_Bk_knotPlace) 60 = .ok (.getfield 88, 3) := by decide +kernel
theorem d_Bk_knotPlace_63 : decode (cd m_Bk_knotPlace) 63 = .ok (.iload_n 1, 1) := by decide +kernel
theorem d_Bk_knotPlace_64 : decode (cd m_Bk_knotPlace) 64 = .ok (.iaload, 1) := by decide +kernel
theorem d_Bk_knotPlace_65 : decode (cd m_Bk_knotPlace) 65 = .ok (.ifCond .le 15, 3) := by decide +kernel
theorem d_Bk_knotPlace_68 : decode (cd m_Bk_knotPlace) 68 = .ok (.aload_n 0, 1) := by decide +kernel
theorem d_Bk_knotPlace_69 : decode (cd m_Bk_knotPlace) 69 = .ok (.getfield 12, 3) := by decide +kernel
theorem d_Bk_knotPlace_72 : decode (cd m_Bk_knotPlace) 72 = .ok (.getfield 91, 3) := by decide +kernel
theorem d_Bk_knotPlace_75 : decode (cd m_Bk_knotPlace) 75 = .ok (.iload_n 1, 1) := by decide +kernel
theorem d_Bk_knotPlace_76 : decode (cd m_Bk_knotPlace) 76 = .ok (.iaload, 1) := by decide +kernel
theorem d_Bk_knotPlace_77 : decode (cd m_Bk_knotPlace) 77 = .ok (.goto 12, 3) := by decide +kernel
theorem d_Bk_knotPlace_80 : decode (cd m_Bk_knotPlace) 80 = .ok (.aload_n 0, 1) := by decide +kernel
theorem d_Bk_knotPlace_81 : decode (cd m_Bk_knotPlace) 81 = .ok (.getfield 12, 3) := by decide +kernel
theorem d_Bk_knotPlace_84 : decode (cd m_Bk_knotPlace) 84 = .ok (.getfield 94, 3) := by decide +kernel
theorem d_Bk_knotPlace_87 : decode (cd m_Bk_knotPlace) 87 = .ok (.iload_n 3, 1) := by decide +kernel
theorem d_Bk_knotPlace_88 : decode (cd m_Bk_knotPlace) 88 = .ok (.iaload, 1) := by decide +kernel
theorem d_Bk_knotPlace_89 : decode (cd m_Bk_knotPlace) 89 = .ok (.ireturn, 1) := by decide +kernel
theorem d_Bk_knotPlace_90 : decode (cd m_Bk_knotPlace) 90 = .ok (.iinc 2 1, 3) := by decide +kernel
theorem d_Bk_knotPlace_93 : decode (cd m_Bk_knotPlace) 93 = .ok (.goto (-78), 3) := by decide +kernel
theorem d_Bk_knotPlace_96 : decode (cd m_Bk_knotPlace) 96 = .ok (.iinc 1 1, 3) := by decide +kernel
theorem d_Bk_knotPlace_99 : decode (cd m_Bk_knotPlace) 99 = .ok (.goto (-97), 3) := by decide +kernel
theorem d_Bk_knotPlace_102 : decode (cd m_Bk_knotPlace) 102 = .ok (.iconst (-1), 1) := by decide +kernel
theorem d_Bk_knotPlace_103 : decode (cd m_Bk_knotPlace) 103 = .ok (.ireturn, 1) := by decide +kernel
theorem d_Bk_layStrata_0 : decode (cd m_Bk_layStrata) 0 = .ok (.iconst 0, 1) := by decide +kernel
theorem d_Bk_layStrata_1 : decode (cd m_Bk_layStrata) 1 = .ok (.istore_n 1, 1) := by decide +kernel
theorem d_Bk_layStrata_2 : decode (cd m_Bk_layStrata) 2 = .ok (.iload_n 1, 1) := by decide +kernel
theorem d_Bk_layStrata_3 : decode (cd m_Bk_layStrata) 3 = .ok (.aload_n 0, 1) := by decide +kernel
theorem d_Bk_layStrata_4 : decode (cd m_Bk_layStrata) 4 = .ok (.getfield 38, 3) := by decide +kernel
theorem d_Bk_layStrata_7 : decode (cd m_Bk_layStrata) 7 = .ok (.if_icmp .ge 33, 3) := by decide +kernel
theorem d_Bk_layStrata_10 : decode (cd m_Bk_layStrata) 10 = .ok (.iconst 0, 1) := by decide +kernel
theorem d_Bk_layStrata_11 : decode (cd m_Bk_layStrata) 11 = .ok (.istore_n 2, 1) := by decide +kernel
theorem d_Bk_layStrata_12 : decode (cd m_Bk_layStrata) 12 = .ok (.iload_n 2, 1) := by decide +kernel
theorem d_Bk_layStrata_13 : decode (cd m_Bk_layStrata) 13 = .ok (.aload_n 0, 1) := by decide +kernel
theorem d_Bk_layStrata_14 : decode (cd m_Bk_layStrata) 14 = .ok (.getfield 12, 3) := by decide +kernel
theorem d_Bk_layStrata_17 : decode (cd m_Bk_layStrata) 17 = .ok (.getfield 42, 3) := by decide +kernel
theorem d_Bk_layStrata_20 : decode (cd m_Bk_layStrata) 20 = .ok (.if_icmp .ge 14, 3) := by decide +kernel
theorem d_Bk_layStrata_23 : decode (cd m_Bk_layStrata) 23 = .ok (.aload_n 0, 1) := by decide +kernel
theorem d_Bk_layStrata_24 : decode (cd m_Bk_layStrata) 24 = .ok (.iload_n 2, 1) := by decide +kernel
theorem d_Bk_layStrata_25 : decode (cd m_Bk_layStrata) 25 = .ok (.invokevirtual 97, 3) := by decide +kernel
theorem d_Bk_layStrata_28 : decode (cd m_Bk_layStrata) 28 = .ok (.iinc 2 1, 3) := by decide +kernel
theorem d_Bk_layStrata_31 : decode (cd m_Bk_layStrata) 31 = .ok (.goto (-19), 3) := by decide +kernel
theorem d_Bk_layStrata_34 : decode (cd m_Bk_layStrata) 34 = .ok (.iinc 1 1, 3) := by decide +kernel
theorem d_Bk_layStrata_37 : decode (cd m_Bk_layStrata) 37 = .ok (.goto (-35), 3) := by decide +kernel
theorem d_Bk_layStrata_40 : decode (cd m_Bk_layStrata) 40 = .ok (.return_, 1) := by decide +kernel
theorem d_Bk_liftHead_0 : decode (cd m_Bk_liftHead) 0 = .ok (.aload_n 0, 1) := by decide +kernel
theorem d_Bk_liftHead_1 : decode (cd m_Bk_liftHead) 1 = .ok (.getfield 12, 3) := by decide +kernel
theorem d_Bk_liftHead_4 : decode (cd m_Bk_liftHead) 4 = .ok (.getfield 75, 3) := by decide +kernel
theorem d_Bk_liftHead_7 : decode (cd m_Bk_liftHead) 7 = .ok (.iload_n 1, 1) := by decide +kernel
theorem d_Bk_liftHead_8 : decode (cd m_Bk_liftHead) 8 = .ok (.iaload, 1) := by decide +kernel
theorem d_Bk_liftHead_9 : decode (cd m_Bk_liftHead) 9 = .ok (.istore_n 2, 1) := by decide +kernel
theorem d_Bk_liftHead_10 : decode (cd m_Bk_liftHead) 10 = .ok (.iconst 0, 1) := by decide +kernel
theorem d_Bk_liftHead_11 : decode (cd m_Bk_liftHead) 11 = .ok (.istore_n 3, 1) := by decide +kernel
theorem d_Bk_liftHead_12 : decode (cd m_Bk_liftHead) 12 = .ok (.iload_n 3, 1) := by decide +kernel
theorem d_Bk_liftHead_13 : decode (cd m_Bk_liftHead) 13 = .ok (.aload_n 0, 1) := by decide +kernel
theorem d_Bk_liftHead_14 : decode (cd m_Bk_liftHead) 14 = .ok (.getfield 12, 3) := by decide +kernel
theorem d_Bk_liftHead_17 : decode (cd m_Bk_liftHead) 17 = .ok (.getfield 78, 3) := by decide +kernel
theorem d_Bk_liftHead_20 : decode (cd m_Bk_liftHead) 20 = .ok (.iload_n 1, 1) := by decide +kernel
theorem d_Bk_liftHead_21 : decode (cd m_Bk_liftHead) 21 = .ok (.iaload, 1) := by decide +kernel
theorem d_Bk_liftHead_22 : decode (cd m_Bk_liftHead) 22 = .ok (.if_icmp .ge 88, 3) := by decide +kernel
theorem d_Bk_liftHead_25 : decode (cd m_Bk_liftHead) 25 = .ok (.iload_n 1, 1) := by decide +kernel
theorem d_Bk_liftHead_26 : decode (cd m_Bk_liftHead) 26 = .ok (.bipush 6, 2) := by decide +kernel
theorem d_Bk_liftHead_28 : decode (cd m_Bk_liftHead) 28 = .ok (.imul, 1) := by decide +kernel
theorem d_Bk_liftHead_29 : decode (cd m_Bk_liftHead) 29 = .ok (.iload_n 3, 1) := by decide +kernel
theorem d_Bk_liftHead_30 : decode (cd m_Bk_liftHead) 30 = .ok (.iadd, 1) := by decide +kernel
theorem d_Bk_liftHead_31 : decode (cd m_Bk_liftHead) 31 = .ok (.istore 4, 2) := by decide +kernel
theorem d_Bk_liftHead_33 : decode (cd m_Bk_liftHead) 33 = .ok (.aload_n 0, 1) := by decide +kernel
theorem d_Bk_liftHead_34 : decode (cd m_Bk_liftHead) 34 = .ok (.getfield 12, 3) := by decide +kernel
theorem d_Bk_liftHead_37 : decode (cd m_Bk_liftHead) 37 = .ok (.getfield 73, 3) := by decide +kernel
theorem d_Bk_liftHead_40 : decode (cd m_Bk_liftHead) 40 = .ok (.iload 4, 2) := by decide +kernel
theorem d_Bk_liftHead_42 : decode (cd m_Bk_liftHead) 42 = .ok (.iaload, 1) := by decide +kernel
theorem d_Bk_liftHead_43 : decode (cd m_Bk_liftHead) 43 = .ok (.istore 5, 2) := by decide +kernel
theorem d_Bk_liftHead_45 : decode (cd m_Bk_liftHead) 45 = .ok (.iload 5, 2) := by decide +kernel
theorem d_Bk_liftHead_47 : decode (cd m_Bk_liftHead) 47 = .ok (.ifCond .lt 57, 3) := by decide +kernel
theorem d_Bk_liftHead_50 : decode (cd m_Bk_liftHead) 50 = .ok (.iload 5, 2) := by decide +kernel
theorem d_Bk_liftHead_52 : decode (cd m_Bk_liftHead) 52 = .ok (.aload_n 0, 1) := by decide +kernel
theorem d_Bk_liftHead_53 : decode (cd m_Bk_liftHead) 53 = .ok (.getfield 38, 3) := by decide +kernel
theorem d_Bk_liftHead_56 : decode (cd m_Bk_liftHead) 56 = .ok (.if_icmp .ge 48, 3) := by decide +kernel
theorem d_Bk_liftHead_59 : decode (cd m_Bk_liftHead) 59 = .ok (.aload_n 0, 1) := by decide +kernel
theorem d_Bk_liftHead_60 : decode (cd m_Bk_liftHead) 60 = .ok (.getfield 32, 3) := by decide +kernel
theorem d_Bk_liftHead_63 : decode (cd m_Bk_liftHead) 63 = .ok (.iload 5, 2) := by decide +kernel
theorem d_Bk_liftHead_65 : decode (cd m_Bk_liftHead) 65 = .ok (.iaload, 1) := by decide +kernel
theorem d_Bk_liftHead_66 : decode (cd m_Bk_liftHead) 66 = .ok (.aload_n 0, 1) := by decide +kernel
theorem d_Bk_liftHead_67 : decode (cd m_Bk_liftHead) 67 = .ok (.getfield 12, 3) := by decide +kernel
theorem d_Bk_liftHead_70 : decode (cd m_Bk_liftHead) 70 = .ok (.iload_n 1, 1) := by decide +kernel
theorem d_Bk_liftHead_71 : decode (cd m_Bk_liftHead) 71 = .ok (.iload 4, 2) := by decide +kernel
theorem d_Bk_liftHead_73 : decode (cd m_Bk_liftHead) 73 = .ok (.invokevirtual 85, 3) := by decide +kernel
theorem d_Bk_liftHead_76 : decode (cd m_Bk_liftHead) 76 = .ok (.ifCond .eq 7, 3) := by decide +kernel
theorem d_Bk_liftHead_79 : decode (cd m_Bk_liftHead) 79 = .ok (.iconst 1, 1) := by decide +kernel
theorem d_Bk_liftHead_80 : decode (cd m_Bk_liftHead) 80 = .ok (.goto 4, 3) := by decide +kernel
theorem d_Bk_liftHead_83 : decode (cd m_Bk_liftHead) 83 = .ok (.iconst 0, 1) := by decide +kernel
theorem d_Bk_liftHead_84 : decode (cd m_Bk_liftHead) 84 = .ok (.iadd, 1) := by decide +kernel
theorem d_Bk_liftHead_85 : decode (cd m_Bk_liftHead) 85 = .ok (.istore 6, 2) := by decide +kernel
theorem d_Bk_liftHead_87 : decode (cd m_Bk_liftHead) 87 = .ok (.aload_n 0, 1) := by decide +kernel
theorem d_Bk_liftHead_88 : decode (cd m_Bk_liftHead) 88 = .ok (.getfield 32, 3) := by decide +kernel
theorem d_Bk_liftHead_91 : decode (cd m_Bk_liftHead) 91 = .ok (.iload_n 2, 1) := by decide +kernel
theorem d_Bk_liftHead_92 : decode (cd m_Bk_liftHead) 92 = .ok (.aload_n 0, 1) := by decide +kernel
theorem d_Bk_liftHead_93 : decode (cd m_Bk_liftHead) 93 = .ok (.getfield 32, 3) := by decide +kernel
theorem d_Bk_liftHead_96 : decode (cd m_Bk_liftHead) 96 = .ok (.iload_n 2, 1) := by decide +kernel
theorem d_Bk_liftHead_97 : decode (cd m_Bk_liftHead) 97 = .ok (.iaload, 1) := by decide +kernel
theorem d_Bk_liftHead_98 : decode (cd m_Bk_liftHead) 98 = .ok (.iload 6, 2) := by decide +kernel
theorem d_Bk_liftHead_100 : decode (cd m_Bk_liftHead) 100 = .ok (.invokestatic 101, 3) := by decide +kernel
theorem d_Bk_liftHead_103 : decode (cd m_Bk_liftHead) 103 = .ok (.iastore, 1) := by decide +kernel
theorem d_Bk_liftHead_104 : decode (cd m_Bk_liftHead) 104 = .ok (.iinc 3 1, 3) := by decide +kernel
theorem d_Bk_liftHead_107 : decode (cd m_Bk_liftHead) 107 = .ok (.goto (-95), 3) := by decide +kernel
theorem d_Bk_liftHead_110 : decode (cd m_Bk_liftHead) 110 = .ok (.return_, 1) := by decide +kernel

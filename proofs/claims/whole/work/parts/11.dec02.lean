/-! decode rows (by program) -/
theorem d_Fc_init_0 : decode (cd m_Fc_init) 0 = .ok (.aload_n 0, 1) := by decide +kernel
theorem d_Fc_init_1 : decode (cd m_Fc_init) 1 = .ok (.invokespecial 3, 3) := by decide +kernel
theorem d_Fc_init_4 : decode (cd m_Fc_init) 4 = .ok (.aload_n 0, 1) := by decide +kernel
theorem d_Fc_init_5 : decode (cd m_Fc_init) 5 = .ok (.bipush 120, 2) := by decide +kernel
theorem d_Fc_init_7 : decode (cd m_Fc_init) 7 = .ok (.newarray .int, 2) := by decide +kernel
theorem d_Fc_init_9 : decode (cd m_Fc_init) 9 = .ok (.putfield 9, 3) := by decide +kernel
theorem d_Fc_init_12 : decode (cd m_Fc_init) 12 = .ok (.aload_n 0, 1) := by decide +kernel
theorem d_Fc_init_13 : decode (cd m_Fc_init) 13 = .ok (.sipush 480, 3) := by decide +kernel
theorem d_Fc_init_16 : decode (cd m_Fc_init) 16 = .ok (.newarray .long, 2) := by decide +kernel
theorem d_Fc_init_18 : decode (cd m_Fc_init) 18 = .ok (.putfield 15, 3) := by decide +kernel
theorem d_Fc_init_21 : decode (cd m_Fc_init) 21 = .ok (.return_, 1) := by decide +kernel
theorem d_Fc_add_0 : decode (cd m_Fc_add) 0 = .ok (.iconst 0, 1) := by decide +kernel
theorem d_Fc_add_1 : decode (cd m_Fc_add) 1 = .ok (.istore_n 2, 1) := by decide +kernel
theorem d_Fc_add_2 : decode (cd m_Fc_add) 2 = .ok (.iload_n 2, 1) := by decide +kernel
theorem d_Fc_add_3 : decode (cd m_Fc_add) 3 = .ok (.aload_n 0, 1) := by decide +kernel
theorem d_Fc_add_4 : decode (cd m_Fc_add) 4 = .ok (.getfield 19, 3) := by decide +kernel
theorem d_Fc_add_7 : decode (cd m_Fc_add) 7 = .ok (.if_icmp .ge 33, 3) := by decide +kernel
theorem d_Fc_add_10 : decode (cd m_Fc_add) 10 = .ok (.aload_n 0, 1) := by decide +kernel
theorem d_Fc_add_11 : decode (cd m_Fc_add) 11 = .ok (.getfield 9, 3) := by decide +kernel
theorem d_Fc_add_14 : decode (cd m_Fc_add) 14 = .ok (.iload_n 2, 1) := by decide +kernel
theorem d_Fc_add_15 : decode (cd m_Fc_add) 15 = .ok (.iaload, 1) := by decide +kernel
theorem d_Fc_add_16 : decode (cd m_Fc_add) 16 = .ok (.aload_n 1, 1) := by decide +kernel
theorem d_Fc_add_17 : decode (cd m_Fc_add) 17 = .ok (.getfield 23, 3) := by decide +kernel
theorem d_Fc_add_20 : decode (cd m_Fc_add) 20 = .ok (.if_icmp .ne 14, 3) := by decide +kernel
theorem d_Fc_add_23 : decode (cd m_Fc_add) 23 = .ok (.aload_n 0, 1) := by decide +kernel
theorem d_Fc_add_24 : decode (cd m_Fc_add) 24 = .ok (.iload_n 2, 1) := by decide +kernel
theorem d_Fc_add_25 : decode (cd m_Fc_add) 25 = .ok (.aload_n 1, 1) := by decide +kernel
theorem d_Fc_add_26 : decode (cd m_Fc_add) 26 = .ok (.invokevirtual 28, 3) := by decide +kernel
theorem d_Fc_add_29 : decode (cd m_Fc_add) 29 = .ok (.ifCond .eq 5, 3) := by decide +kernel
theorem d_Fc_add_32 : decode (cd m_Fc_add) 32 = .ok (.iconst 0, 1) := by decide +kernel
theorem d_Fc_add_33 : decode (cd m_Fc_add) 33 = .ok (.ireturn, 1) := by decide +kernel
theorem d_Fc_add_34 : decode (cd m_Fc_add) 34 = .ok (.iinc 2 1, 3) := by decide +kernel
theorem d_Fc_add_37 : decode (cd m_Fc_add) 37 = .ok (.goto (-35), 3) := by decide +kernel
theorem d_Fc_add_40 : decode (cd m_Fc_add) 40 = .ok (.aload_n 0, 1) := by decide +kernel
theorem d_Fc_add_41 : decode (cd m_Fc_add) 41 = .ok (.getfield 19, 3) := by decide +kernel
theorem d_Fc_add_44 : decode (cd m_Fc_add) 44 = .ok (.bipush 120, 2) := by decide +kernel
theorem d_Fc_add_46 : decode (cd m_Fc_add) 46 = .ok (.if_icmp .ge 48, 3) := by decide +kernel
theorem d_Fc_add_49 : decode (cd m_Fc_add) 49 = .ok (.aload_n 0, 1) := by decide +kernel
theorem d_Fc_add_50 : decode (cd m_Fc_add) 50 = .ok (.getfield 9, 3) := by decide +kernel
theorem d_Fc_add_53 : decode (cd m_Fc_add) 53 = .ok (.aload_n 0, 1) := by decide +kernel
theorem d_Fc_add_54 : decode (cd m_Fc_add) 54 = .ok (.getfield 19, 3) := by decide +kernel
theorem d_Fc_add_57 : decode (cd m_Fc_add) 57 = .ok (.aload_n 1, 1) := by decide +kernel
theorem d_Fc_add_58 : decode (cd m_Fc_add) 58 = .ok (.getfield 23, 3) := by decide +kernel
theorem d_Fc_add_61 : decode (cd m_Fc_add) 61 = .ok (.iastore, 1) := by decide +kernel
theorem d_Fc_add_62 : decode (cd m_Fc_add) 62 = .ok (.aload_n 1, 1) := by decide +kernel
theorem d_Fc_add_63 : decode (cd m_Fc_add) 63 = .ok (.getfield 32, 3) := by decide +kernel
theorem d_Fc_add_66 : decode (cd m_Fc_add) 66 = .ok (.iconst 0, 1) := by decide +kernel
theorem d_Fc_add_67 : decode (cd m_Fc_add) 67 = .ok (.aload_n 0, 1) := by decide +kernel
theorem d_Fc_add_68 : decode (cd m_Fc_add) 68 = .ok (.getfield 15, 3) := by decide +kernel
theorem d_Fc_add_71 : decode (cd m_Fc_add) 71 = .ok (.aload_n 0, 1) := by decide +kernel
theorem d_Fc_add_72 : decode (cd m_Fc_add) 72 = .ok (.getfield 19, 3) := by decide +kernel
theorem d_Fc_add_75 : decode (cd m_Fc_add) 75 = .ok (.iconst 4, 1) := by decide +kernel
theorem d_Fc_add_76 : decode (cd m_Fc_add) 76 = .ok (.imul, 1) := by decide +kernel
theorem d_Fc_add_77 : decode (cd m_Fc_add) 77 = .ok (.aload_n 1, 1) := by decide +kernel
theorem d_Fc_add_78 : decode (cd m_Fc_add) 78 = .ok (.getfield 33, 3) := by decide +kernel
theorem d_Fc_add_81 : decode (cd m_Fc_add) 81 = .ok (.invokestatic 36, 3) := by decide +kernel
theorem d_Fc_add_84 : decode (cd m_Fc_add) 84 = .ok (.aload_n 0, 1) := by decide +kernel
theorem d_Fc_add_85 : decode (cd m_Fc_add) 85 = .ok (.dup, 1) := by decide +kernel
theorem d_Fc_add_86 : decode (cd m_Fc_add) 86 = .ok (.getfield 19, 3) := by decide +kernel
theorem d_Fc_add_89 : decode (cd m_Fc_add) 89 = .ok (.iconst 1, 1) := by decide +kernel
theorem d_Fc_add_90 : decode (cd m_Fc_add) 90 = .ok (.iadd, 1) := by decide +kernel
theorem d_Fc_add_91 : decode (cd m_Fc_add) 91 = .ok (.putfield 19, 3) := by decide +kernel
theorem d_Fc_add_94 : decode (cd m_Fc_add) 94 = .ok (.iconst 1, 1) := by decide +kernel
theorem d_Fc_add_95 : decode (cd m_Fc_add) 95 = .ok (.ireturn, 1) := by decide +kernel
theorem d_Fc_isSame_0 : decode (cd m_Fc_isSame) 0 = .ok (.iconst 0, 1) := by decide +kernel
theorem d_Fc_isSame_1 : decode (cd m_Fc_isSame) 1 = .ok (.istore_n 3, 1) := by decide +kernel
theorem d_Fc_isSame_2 : decode (cd m_Fc_isSame) 2 = .ok (.iload_n 3, 1) := by decide +kernel
theorem d_Fc_isSame_3 : decode (cd m_Fc_isSame) 3 = .ok (.aload_n 2, 1) := by decide +kernel
theorem d_Fc_isSame_4 : decode (cd m_Fc_isSame) 4 = .ok (.getfield 33, 3) := by decide +kernel
theorem d_Fc_isSame_7 : decode (cd m_Fc_isSame) 7 = .ok (.if_icmp .ge 31, 3) := by decide +kernel
theorem d_Fc_isSame_10 : decode (cd m_Fc_isSame) 10 = .ok (.aload_n 0, 1) := by decide +kernel
theorem d_Fc_isSame_11 : decode (cd m_Fc_isSame) 11 = .ok (.getfield 15, 3) := by decide +kernel
theorem d_Fc_isSame_14 : decode (cd m_Fc_isSame) 14 = .ok (.iload_n 1, 1) := by decide +kernel
theorem d_Fc_isSame_15 : decode (cd m_Fc_isSame) 15 = .ok (.iconst 4, 1) := by decide +kernel
theorem d_Fc_isSame_16 : decode (cd m_Fc_isSame) 16 = .ok (.imul, 1) := by decide +kernel
theorem d_Fc_isSame_17 : decode (cd m_Fc_isSame) 17 = .ok (.iload_n 3, 1) := by decide +kernel
theorem d_Fc_isSame_18 : decode (cd m_Fc_isSame) 18 = .ok (.iadd, 1) := by decide +kernel
theorem d_Fc_isSame_19 : decode (cd m_Fc_isSame) 19 = .ok (.laload, 1) := by decide +kernel
theorem d_Fc_isSame_20 : decode (cd m_Fc_isSame) 20 = .ok (.aload_n 2, 1) := by decide +kernel
theorem d_Fc_isSame_21 : decode (cd m_Fc_isSame) 21 = .ok (.getfield 32, 3) := by decide +kernel
theorem d_Fc_isSame_24 : decode (cd m_Fc_isSame) 24 = .ok (.iload_n 3, 1) := by decide +kernel
theorem d_Fc_isSame_25 : decode (cd m_Fc_isSame) 25 = .ok (.laload, 1) := by decide +kernel
theorem d_Fc_isSame_26 : decode (cd m_Fc_isSame) 26 = .ok (.lcmp, 1) := by decide +kernel
theorem d_Fc_isSame_27 : decode (cd m_Fc_isSame) 27 = .ok (.ifCond .eq 5, 3) := by decide +kernel
theorem d_Fc_isSame_30 : decode (cd m_Fc_isSame) 30 = .ok (.iconst 0, 1) := by decide +kernel
theorem d_Fc_isSame_31 : decode (cd m_Fc_isSame) 31 = .ok (.ireturn, 1) := by decide +kernel
theorem d_Fc_isSame_32 : decode (cd m_Fc_isSame) 32 = .ok (.iinc 3 1, 3) := by decide +kernel
theorem d_Fc_isSame_35 : decode (cd m_Fc_isSame) 35 = .ok (.goto (-33), 3) := by decide +kernel
theorem d_Fc_isSame_38 : decode (cd m_Fc_isSame) 38 = .ok (.iconst 1, 1) := by decide +kernel
theorem d_Fc_isSame_39 : decode (cd m_Fc_isSame) 39 = .ok (.ireturn, 1) := by decide +kernel

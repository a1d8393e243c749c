/-! decode rows (by program) -/
theorem d_Cl_init_0 : decode (cd m_Cl_init) 0 = .ok (.aload_n 0, 1) := by decide +kernel
theorem d_Cl_init_1 : decode (cd m_Cl_init) 1 = .ok (.invokespecial 3, 3) := by decide +kernel
theorem d_Cl_init_4 : decode (cd m_Cl_init) 4 = .ok (.aload_n 0, 1) := by decide +kernel
theorem d_Cl_init_5 : decode (cd m_Cl_init) 5 = .ok (.new 9, 3) := by decide +kernel
theorem d_Cl_init_8 : decode (cd m_Cl_init) 8 = .ok (.dup, 1) := by decide +kernel
theorem d_Cl_init_9 : decode (cd m_Cl_init) 9 = .ok (.invokespecial 11, 3) := by decide +kernel
theorem d_Cl_init_12 : decode (cd m_Cl_init) 12 = .ok (.putfield 12, 3) := by decide +kernel
theorem d_Cl_init_15 : decode (cd m_Cl_init) 15 = .ok (.aload_n 0, 1) := by decide +kernel
theorem d_Cl_init_16 : decode (cd m_Cl_init) 16 = .ok (.bipush 6, 2) := by decide +kernel
theorem d_Cl_init_18 : decode (cd m_Cl_init) 18 = .ok (.anewarray 9, 3) := by decide +kernel
theorem d_Cl_init_21 : decode (cd m_Cl_init) 21 = .ok (.putfield 18, 3) := by decide +kernel
theorem d_Cl_init_24 : decode (cd m_Cl_init) 24 = .ok (.aload_n 0, 1) := by decide +kernel
theorem d_Cl_init_25 : decode (cd m_Cl_init) 25 = .ok (.bipush 8, 2) := by decide +kernel
theorem d_Cl_init_27 : decode (cd m_Cl_init) 27 = .ok (.newarray .long, 2) := by decide +kernel
theorem d_Cl_init_29 : decode (cd m_Cl_init) 29 = .ok (.putfield 22, 3) := by decide +kernel
theorem d_Cl_init_32 : decode (cd m_Cl_init) 32 = .ok (.aload_n 0, 1) := by decide +kernel
theorem d_Cl_init_33 : decode (cd m_Cl_init) 33 = .ok (.bipush 8, 2) := by decide +kernel
theorem d_Cl_init_35 : decode (cd m_Cl_init) 35 = .ok (.newarray .int, 2) := by decide +kernel
theorem d_Cl_init_37 : decode (cd m_Cl_init) 37 = .ok (.putfield 26, 3) := by decide +kernel
theorem d_Cl_init_40 : decode (cd m_Cl_init) 40 = .ok (.aload_n 0, 1) := by decide +kernel
theorem d_Cl_init_41 : decode (cd m_Cl_init) 41 = .ok (.bipush 6, 2) := by decide +kernel
theorem d_Cl_init_43 : decode (cd m_Cl_init) 43 = .ok (.newarray .int, 2) := by decide +kernel
theorem d_Cl_init_45 : decode (cd m_Cl_init) 45 = .ok (.putfield 30, 3) := by decide +kernel
theorem d_Cl_init_48 : decode (cd m_Cl_init) 48 = .ok (.aload_n 0, 1) := by decide +kernel
theorem d_Cl_init_49 : decode (cd m_Cl_init) 49 = .ok (.bipush 6, 2) := by decide +kernel
theorem d_Cl_init_51 : decode (cd m_Cl_init) 51 = .ok (.newarray .int, 2) := by decide +kernel
theorem d_Cl_init_53 : decode (cd m_Cl_init) 53 = .ok (.putfield 33, 3) := by decide +kernel
theorem d_Cl_init_56 : decode (cd m_Cl_init) 56 = .ok (.aload_n 0, 1) := by decide +kernel
theorem d_Cl_init_57 : decode (cd m_Cl_init) 57 = .ok (.bipush 6, 2) := by decide +kernel
theorem d_Cl_init_59 : decode (cd m_Cl_init) 59 = .ok (.newarray .int, 2) := by decide +kernel
theorem d_Cl_init_61 : decode (cd m_Cl_init) 61 = .ok (.putfield 36, 3) := by decide +kernel
theorem d_Cl_init_64 : decode (cd m_Cl_init) 64 = .ok (.iconst 0, 1) := by decide +kernel
theorem d_Cl_init_65 : decode (cd m_Cl_init) 65 = .ok (.istore_n 1, 1) := by decide +kernel
theorem d_Cl_init_66 : decode (cd m_Cl_init) 66 = .ok (.iload_n 1, 1) := by decide +kernel
theorem d_Cl_init_67 : decode (cd m_Cl_init) 67 = .ok (.aload_n 0, 1) := by decide +kernel
theorem d_Cl_init_68 : decode (cd m_Cl_init) 68 = .ok (.getfield 18, 3) := by decide +kernel
theorem d_Cl_init_71 : decode (cd m_Cl_init) 71 = .ok (.arraylength, 1) := by decide +kernel
theorem d_Cl_init_72 : decode (cd m_Cl_init) 72 = .ok (.if_icmp .ge 22, 3) := by decide +kernel
theorem d_Cl_init_75 : decode (cd m_Cl_init) 75 = .ok (.aload_n 0, 1) := by decide +kernel
theorem d_Cl_init_76 : decode (cd m_Cl_init) 76 = .ok (.getfield 18, 3) := by decide +kernel
theorem d_Cl_init_79 : decode (cd m_Cl_init) 79 = .ok (.iload_n 1, 1) := by decide +kernel
theorem d_Cl_init_80 : decode (cd m_Cl_init) 80 = .ok (.new 9, 3) := by decide +kernel
theorem d_Cl_init_83 : decode (cd m_Cl_init) 83 = .ok (.dup, 1) := by decide +kernel
theorem d_Cl_init_84 : decode (cd m_Cl_init) 84 = .ok (.invokespecial 11, 3) := by decide +kernel
theorem d_Cl_init_87 : decode (cd m_Cl_init) 87 = .ok (.aastore, 1) := by decide +kernel
theorem d_Cl_init_88 : decode (cd m_Cl_init) 88 = .ok (.iinc 1 1, 3) := by decide +kernel
theorem d_Cl_init_91 : decode (cd m_Cl_init) 91 = .ok (.goto (-25), 3) := by decide +kernel
theorem d_Cl_init_94 : decode (cd m_Cl_init) 94 = .ok (.return_, 1) := by decide +kernel
theorem d_Cl_begin_0 : decode (cd m_Cl_begin) 0 = .ok (.aload_n 0, 1) := by decide +kernel
theorem d_Cl_begin_1 : decode (cd m_Cl_begin) 1 = .ok (.getfield 12, 3) := by decide +kernel
theorem d_Cl_begin_4 : decode (cd m_Cl_begin) 4 = .ok (.iconst 4, 1) := by decide +kernel
theorem d_Cl_begin_5 : decode (cd m_Cl_begin) 5 = .ok (.iload_n 1, 1) := by decide +kernel
theorem d_Cl_begin_6 : decode (cd m_Cl_begin) 6 = .ok (.invokevirtual 39, 3) := by decide +kernel
theorem d_Cl_begin_9 : decode (cd m_Cl_begin) 9 = .ok (.aload_n 0, 1) := by decide +kernel
theorem d_Cl_begin_10 : decode (cd m_Cl_begin) 10 = .ok (.iconst 0, 1) := by decide +kernel
theorem d_Cl_begin_11 : decode (cd m_Cl_begin) 11 = .ok (.putfield 43, 3) := by decide +kernel
theorem d_Cl_begin_14 : decode (cd m_Cl_begin) 14 = .ok (.aload_n 0, 1) := by decide +kernel
theorem d_Cl_begin_15 : decode (cd m_Cl_begin) 15 = .ok (.iconst 0, 1) := by decide +kernel
theorem d_Cl_begin_16 : decode (cd m_Cl_begin) 16 = .ok (.putfield 47, 3) := by decide +kernel
theorem d_Cl_begin_19 : decode (cd m_Cl_begin) 19 = .ok (.aload_n 0, 1) := by decide +kernel
theorem d_Cl_begin_20 : decode (cd m_Cl_begin) 20 = .ok (.iconst 0, 1) := by decide +kernel
theorem d_Cl_begin_21 : decode (cd m_Cl_begin) 21 = .ok (.putfield 50, 3) := by decide +kernel
theorem d_Cl_begin_24 : decode (cd m_Cl_begin) 24 = .ok (.aload_n 0, 1) := by decide +kernel
theorem d_Cl_begin_25 : decode (cd m_Cl_begin) 25 = .ok (.iconst 0, 1) := by decide +kernel
theorem d_Cl_begin_26 : decode (cd m_Cl_begin) 26 = .ok (.putfield 53, 3) := by decide +kernel
theorem d_Cl_begin_29 : decode (cd m_Cl_begin) 29 = .ok (.aload_n 0, 1) := by decide +kernel
theorem d_Cl_begin_30 : decode (cd m_Cl_begin) 30 = .ok (.iconst 0, 1) := by decide +kernel
theorem d_Cl_begin_31 : decode (cd m_Cl_begin) 31 = .ok (.putfield 56, 3) := by decide +kernel
theorem d_Cl_begin_34 : decode (cd m_Cl_begin) 34 = .ok (.return_, 1) := by decide +kernel
theorem d_Cl_variableOf_0 : decode (cd m_Cl_variableOf) 0 = .ok (.iconst 0, 1) := by decide +kernel
theorem d_Cl_variableOf_1 : decode (cd m_Cl_variableOf) 1 = .ok (.istore 4, 2) := by decide +kernel
theorem d_Cl_variableOf_3 : decode (cd m_Cl_variableOf) 3 = .ok (.iload 4, 2) := by decide +kernel
theorem d_Cl_variableOf_5 : decode (cd m_Cl_variableOf) 5 = .ok (.aload_n 0, 1) := by decide +kernel
theorem d_Cl_variableOf_6 : decode (cd m_Cl_variableOf) 6 = .ok (.getfield 56, 3) := by decide +kernel
theorem d_Cl_variableOf_9 : decode (cd m_Cl_variableOf) 9 = .ok (.if_icmp .ge 24, 3) := by decide +kernel
theorem d_Cl_variableOf_12 : decode (cd m_Cl_variableOf) 12 = .ok (.aload_n 0, 1) := by decide +kernel
theorem d_Cl_variableOf_13 : decode (cd m_Cl_variableOf) 13 = .ok (.getfield 22, 3) := by decide +kernel
theorem d_Cl_variableOf_16 : decode (cd m_Cl_variableOf) 16 = .ok (.iload 4, 2) := by decide +kernel
theorem d_Cl_variableOf_18 : decode (cd m_Cl_variableOf) 18 = .ok (.laload, 1) := by decide +kernel
theorem d_Cl_variableOf_19 : decode (cd m_Cl_variableOf) 19 = .ok (.lload_n 1, 1) := by decide +kernel
theorem d_Cl_variableOf_20 : decode (cd m_Cl_variableOf) 20 = .ok (.lcmp, 1) := by decide +kernel
theorem d_Cl_variableOf_21 : decode (cd m_Cl_variableOf) 21 = .ok (.ifCond .ne 6, 3) := by decide +kernel
theorem d_Cl_variableOf_24 : decode (cd m_Cl_variableOf) 24 = .ok (.iload 4, 2) := by decide +kernel
theorem d_Cl_variableOf_26 : decode (cd m_Cl_variableOf) 26 = .ok (.ireturn, 1) := by decide +kernel
theorem d_Cl_variableOf_27 : decode (cd m_Cl_variableOf) 27 = .ok (.iinc 4 1, 3) := by decide +kernel
theorem d_Cl_variableOf_30 : decode (cd m_Cl_variableOf) 30 = .ok (.goto (-27), 3) := by decide +kernel
theorem d_Cl_variableOf_33 : decode (cd m_Cl_variableOf) 33 = .ok (.aload_n 0, 1) := by decide +kernel
theorem d_Cl_variableOf_34 : decode (cd m_Cl_variableOf) 34 = .ok (.getfield 56, 3) := by decide +kernel
theorem d_Cl_variableOf_37 : decode (cd m_Cl_variableOf) 37 = .ok (.aload_n 0, 1) := by decide +kernel
theorem d_Cl_variableOf_38 : decode (cd m_Cl_variableOf) 38 = .ok (.getfield 22, 3) := by decide +kernel
theorem d_Cl_variableOf_41 : decode (cd m_Cl_variableOf) 41 = .ok (.arraylength, 1) := by decide +kernel
theorem d_Cl_variableOf_42 : decode (cd m_Cl_variableOf) 42 = .ok (.if_icmp .lt 5, 3) := by decide +kernel
theorem d_Cl_variableOf_45 : decode (cd m_Cl_variableOf) 45 = .ok (.iconst (-1), 1) := by decide +kernel
theorem d_Cl_variableOf_46 : decode (cd m_Cl_variableOf) 46 = .ok (.ireturn, 1) := by decide +kernel
theorem d_Cl_variableOf_47 : decode (cd m_Cl_variableOf) 47 = .ok (.aload_n 0, 1) := by decide +kernel
theorem d_Cl_variableOf_48 : decode (cd m_Cl_variableOf) 48 = .ok (.getfield 22, 3) := by decide +kernel
theorem d_Cl_variableOf_51 : decode (cd m_Cl_variableOf) 51 = .ok (.aload_n 0, 1) := by decide +kernel
theorem d_Cl_variableOf_52 : decode (cd m_Cl_variableOf) 52 = .ok (.getfield 56, 3) := by decide +kernel
theorem d_Cl_variableOf_55 : decode (cd m_Cl_variableOf) 55 = .ok (.lload_n 1, 1) := by decide +kernel
theorem d_Cl_variableOf_56 : decode (cd m_Cl_variableOf) 56 = .ok (.lastore, 1) := by decide +kernel
theorem d_Cl_variableOf_57 : decode (cd m_Cl_variableOf) 57 = .ok (.aload_n 0, 1) := by decide +kernel
theorem d_Cl_variableOf_58 : decode (cd m_Cl_variableOf) 58 = .ok (.getfield 26, 3) := by decide +kernel
theorem d_Cl_variableOf_61 : decode (cd m_Cl_variableOf) 61 = .ok (.aload_n 0, 1) := by decide +kernel
theorem d_Cl_variableOf_62 : decode (cd m_Cl_variableOf) 62 = .ok (.getfield 56, 3) := by decide +kernel
theorem d_Cl_variableOf_65 : decode (cd m_Cl_variableOf) 65 = .ok (.iload_n 3, 1) := by decide +kernel
theorem d_Cl_variableOf_66 : decode (cd m_Cl_variableOf) 66 = .ok (.iastore, 1) := by decide +kernel
theorem d_Cl_variableOf_67 : decode (cd m_Cl_variableOf) 67 = .ok (.aload_n 0, 1) := by decide +kernel
theorem d_Cl_variableOf_68 : decode (cd m_Cl_variableOf) 68 = .ok (.dup, 1) := by decide +kernel
theorem d_Cl_variableOf_69 : decode (cd m_Cl_variableOf) 69 = .ok (.getfield 56, 3) := by decide +kernel
theorem d_Cl_variableOf_72 : decode (cd m_Cl_variableOf) 72 = .ok (.iconst 1, 1) := by decide +kernel
theorem d_Cl_variableOf_73 : decode (cd m_Cl_variableOf) 73 = .ok (.iadd, 1) := by decide +kernel
theorem d_Cl_variableOf_74 : decode (cd m_Cl_variableOf) 74 = .ok (.putfield 56, 3) := by decide +kernel
theorem d_Cl_variableOf_77 : decode (cd m_Cl_variableOf) 77 = .ok (.aload_n 0, 1) := by decide +kernel
theorem d_Cl_variableOf_78 : decode (cd m_Cl_variableOf) 78 = .ok (.getfield 56, 3) := by decide +kernel
theorem d_Cl_variableOf_81 : decode (cd m_Cl_variableOf) 81 = .ok (.iconst 1, 1) := by decide +kernel
theorem d_Cl_variableOf_82 : decode (cd m_Cl_variableOf) 82 = .ok (.isub, 1) := by decide +kernel
theorem d_Cl_variableOf_83 : decode (cd m_Cl_variableOf) 83 = .ok (.ireturn, 1) := by decide +kernel
theorem d_Cl_openPlace_0 : decode (cd m_Cl_openPlace) 0 = .ok (.aload_n 0, 1) := by decide +kernel
theorem d_Cl_openPlace_1 : decode (cd m_Cl_openPlace) 1 = .ok (.getfield 56, 3) := by decide +kernel
theorem d_Cl_openPlace_4 : decode (cd m_Cl_openPlace) 4 = .ok (.ifCond .ne 5, 3) := by decide +kernel
theorem d_Cl_openPlace_7 : decode (cd m_Cl_openPlace) 7 = .ok (.iconst (-1), 1) := by decide +kernel
theorem d_Cl_openPlace_8 : decode (cd m_Cl_openPlace) 8 = .ok (.ireturn, 1) := by decide +kernel
theorem d_Cl_openPlace_9 : decode (cd m_Cl_openPlace) 9 = .ok (.aload_n 0, 1) := by decide +kernel
theorem d_Cl_openPlace_10 : decode (cd m_Cl_openPlace) 10 = .ok (.getfield 50, 3) := by decide +kernel
theorem d_Cl_openPlace_13 : decode (cd m_Cl_openPlace) 13 = .ok (.ifCond .le 19, 3) := by decide +kernel
theorem d_Cl_openPlace_16 : decode (cd m_Cl_openPlace) 16 = .ok (.aload_n 0, 1) := by decide +kernel
theorem d_Cl_openPlace_17 : decode (cd m_Cl_openPlace) 17 = .ok (.getfield 53, 3) := by decide +kernel
theorem d_Cl_openPlace_20 : decode (cd m_Cl_openPlace) 20 = .ok (.aload_n 0, 1) := by decide +kernel
theorem d_Cl_openPlace_21 : decode (cd m_Cl_openPlace) 21 = .ok (.getfield 26, 3) := by decide +kernel
theorem d_Cl_openPlace_24 : decode (cd m_Cl_openPlace) 24 = .ok (.iconst 0, 1) := by decide +kernel
theorem d_Cl_openPlace_25 : decode (cd m_Cl_openPlace) 25 = .ok (.iaload, 1) := by decide +kernel
theorem d_Cl_openPlace_26 : decode (cd m_Cl_openPlace) 26 = .ok (.invokestatic 59, 3) := by decide +kernel
theorem d_Cl_openPlace_29 : decode (cd m_Cl_openPlace) 29 = .ok (.goto 9, 3) := by decide +kernel
theorem d_Cl_openPlace_32 : decode (cd m_Cl_openPlace) 32 = .ok (.aload_n 0, 1) := by decide +kernel
theorem d_Cl_openPlace_33 : decode (cd m_Cl_openPlace) 33 = .ok (.getfield 26, 3) := by decide +kernel
theorem d_Cl_openPlace_36 : decode (cd m_Cl_openPlace) 36 = .ok (.iconst 0, 1) := by decide +kernel
theorem d_Cl_openPlace_37 : decode (cd m_Cl_openPlace) 37 = .ok (.iaload, 1) := by decide +kernel
theorem d_Cl_openPlace_38 : decode (cd m_Cl_openPlace) 38 = .ok (.ireturn, 1) := by decide +kernel
theorem d_Cl_plan_0 : decode (cd m_Cl_plan) 0 = .ok (.iconst 0, 1) := by decide +kernel
theorem d_Cl_plan_1 : decode (cd m_Cl_plan) 1 = .ok (.istore_n 1, 1) := by decide +kernel
theorem d_Cl_plan_2 : decode (cd m_Cl_plan) 2 = .ok (.iconst 1, 1) := by decide +kernel
theorem d_Cl_plan_3 : decode (cd m_Cl_plan) 3 = .ok (.aload_n 0, 1) := by decide +kernel
theorem d_Cl_plan_4 : decode (cd m_Cl_plan) 4 = .ok (.getfield 43, 3) := by decide +kernel
theorem d_Cl_plan_7 : decode (cd m_Cl_plan) 7 = .ok (.ishl, 1) := by decide +kernel
theorem d_Cl_plan_8 : decode (cd m_Cl_plan) 8 = .ok (.iconst 1, 1) := by decide +kernel
theorem d_Cl_plan_9 : decode (cd m_Cl_plan) 9 = .ok (.isub, 1) := by decide +kernel
theorem d_Cl_plan_10 : decode (cd m_Cl_plan) 10 = .ok (.istore_n 2, 1) := by decide +kernel
theorem d_Cl_plan_11 : decode (cd m_Cl_plan) 11 = .ok (.iconst 0, 1) := by decide +kernel
theorem d_Cl_plan_12 : decode (cd m_Cl_plan) 12 = .ok (.istore_n 3, 1) := by decide +kernel
theorem d_Cl_plan_13 : decode (cd m_Cl_plan) 13 = .ok (.iload_n 3, 1) := by decide +kernel
theorem d_Cl_plan_14 : decode (cd m_Cl_plan) 14 = .ok (.aload_n 0, 1) := by decide +kernel
theorem d_Cl_plan_15 : decode (cd m_Cl_plan) 15 = .ok (.getfield 43, 3) := by decide +kernel
theorem d_Cl_plan_18 : decode (cd m_Cl_plan) 18 = .ok (.if_icmp .ge 95, 3) := by decide +kernel
theorem d_Cl_plan_21 : decode (cd m_Cl_plan) 21 = .ok (.aload_n 0, 1) := by decide +kernel
theorem d_Cl_plan_22 : decode (cd m_Cl_plan) 22 = .ok (.iload_n 2, 1) := by decide +kernel
theorem d_Cl_plan_23 : decode (cd m_Cl_plan) 23 = .ok (.iload_n 1, 1) := by decide +kernel
theorem d_Cl_plan_24 : decode (cd m_Cl_plan) 24 = .ok (.invokevirtual 65, 3) := by decide +kernel
theorem d_Cl_plan_27 : decode (cd m_Cl_plan) 27 = .ok (.istore 4, 2) := by decide +kernel
theorem d_Cl_plan_29 : decode (cd m_Cl_plan) 29 = .ok (.iload 4, 2) := by decide +kernel
theorem d_Cl_plan_31 : decode (cd m_Cl_plan) 31 = .ok (.iconst (-1), 1) := by decide +kernel
theorem d_Cl_plan_32 : decode (cd m_Cl_plan) 32 = .ok (.if_icmp .ne 6, 3) := by decide +kernel
theorem d_Cl_plan_35 : decode (cd m_Cl_plan) 35 = .ok (.goto 78, 3) := by decide +kernel
theorem d_Cl_plan_38 : decode (cd m_Cl_plan) 38 = .ok (.aload_n 0, 1) := by decide +kernel
theorem d_Cl_plan_39 : decode (cd m_Cl_plan) 39 = .ok (.getfield 18, 3) := by decide +kernel
theorem d_Cl_plan_42 : decode (cd m_Cl_plan) 42 = .ok (.iload 4, 2) := by decide +kernel
theorem d_Cl_plan_44 : decode (cd m_Cl_plan) 44 = .ok (.aaload, 1) := by decide +kernel
theorem d_Cl_plan_45 : decode (cd m_Cl_plan) 45 = .ok (.astore 5, 2) := by decide +kernel
theorem d_Cl_plan_47 : decode (cd m_Cl_plan) 47 = .ok (.aload_n 0, 1) := by decide +kernel
theorem d_Cl_plan_48 : decode (cd m_Cl_plan) 48 = .ok (.getfield 30, 3) := by decide +kernel
theorem d_Cl_plan_51 : decode (cd m_Cl_plan) 51 = .ok (.iload_n 3, 1) := by decide +kernel
theorem d_Cl_plan_52 : decode (cd m_Cl_plan) 52 = .ok (.iload 4, 2) := by decide +kernel
theorem d_Cl_plan_54 : decode (cd m_Cl_plan) 54 = .ok (.iastore, 1) := by decide +kernel
theorem d_Cl_plan_55 : decode (cd m_Cl_plan) 55 = .ok (.aload_n 0, 1) := by decide +kernel
theorem d_Cl_plan_56 : decode (cd m_Cl_plan) 56 = .ok (.getfield 33, 3) := by decide +kernel
theorem d_Cl_plan_59 : decode (cd m_Cl_plan) 59 = .ok (.iload_n 3, 1) := by decide +kernel
theorem d_Cl_plan_60 : decode (cd m_Cl_plan) 60 = .ok (.aload 5, 2) := by decide +kernel
theorem d_Cl_plan_62 : decode (cd m_Cl_plan) 62 = .ok (.invokevirtual 68, 3) := by decide +kernel
theorem d_Cl_plan_65 : decode (cd m_Cl_plan) 65 = .ok (.ifCond .eq 12, 3) := by decide +kernel
theorem d_Cl_plan_68 : decode (cd m_Cl_plan) 68 = .ok (.aload 5, 2) := by decide +kernel
theorem d_Cl_plan_70 : decode (cd m_Cl_plan) 70 = .ok (.iload_n 1, 1) := by decide +kernel
theorem d_Cl_plan_71 : decode (cd m_Cl_plan) 71 = .ok (.invokevirtual 72, 3) := by decide +kernel
theorem d_Cl_plan_74 : decode (cd m_Cl_plan) 74 = .ok (.goto 4, 3) := by decide +kernel
theorem d_Cl_plan_77 : decode (cd m_Cl_plan) 77 = .ok (.iconst 0, 1) := by decide +kernel
theorem d_Cl_plan_78 : decode (cd m_Cl_plan) 78 = .ok (.iastore, 1) := by decide +kernel
theorem d_Cl_plan_79 : decode (cd m_Cl_plan) 79 = .ok (.iload_n 1, 1) := by decide +kernel
theorem d_Cl_plan_80 : decode (cd m_Cl_plan) 80 = .ok (.aload 5, 2) := by decide +kernel
theorem d_Cl_plan_82 : decode (cd m_Cl_plan) 82 = .ok (.iconst 0, 1) := by decide +kernel
theorem d_Cl_plan_83 : decode (cd m_Cl_plan) 83 = .ok (.invokevirtual 76, 3) := by decide +kernel
theorem d_Cl_plan_86 : decode (cd m_Cl_plan) 86 = .ok (.ior, 1) := by decide +kernel
theorem d_Cl_plan_87 : decode (cd m_Cl_plan) 87 = .ok (.istore_n 1, 1) := by decide +kernel
theorem d_Cl_plan_88 : decode (cd m_Cl_plan) 88 = .ok (.aload_n 0, 1) := by decide +kernel
theorem d_Cl_plan_89 : decode (cd m_Cl_plan) 89 = .ok (.getfield 36, 3) := by decide +kernel
theorem d_Cl_plan_92 : decode (cd m_Cl_plan) 92 = .ok (.iload_n 3, 1) := by decide +kernel
theorem d_Cl_plan_93 : decode (cd m_Cl_plan) 93 = .ok (.iload_n 1, 1) := by decide +kernel
theorem d_Cl_plan_94 : decode (cd m_Cl_plan) 94 = .ok (.invokestatic 79, 3) := by decide +kernel
theorem d_Cl_plan_97 : decode (cd m_Cl_plan) 97 = .ok (.iastore, 1) := by decide +kernel
theorem d_Cl_plan_98 : decode (cd m_Cl_plan) 98 = .ok (.iload_n 2, 1) := by decide +kernel
theorem d_Cl_plan_99 : decode (cd m_Cl_plan) 99 = .ok (.iconst 1, 1) := by decide +kernel
theorem d_Cl_plan_100 : decode (cd m_Cl_plan) 100 = .ok (.iload 4, 2) := by decide +kernel
theorem d_Cl_plan_102 : decode (cd m_Cl_plan) 102 = .ok (.ishl, 1) := by decide +kernel
theorem d_Cl_plan_103 : decode (cd m_Cl_plan) 103 = .ok (.iconst (-1), 1) := by decide +kernel
theorem d_Cl_plan_104 : decode (cd m_Cl_plan) 104 = .ok (.ixor, 1) := by decide +kernel
theorem d_Cl_plan_105 : decode (cd m_Cl_plan) 105 = .ok (.iand, 1) := by decide +kernel
theorem d_Cl_plan_106 : decode (cd m_Cl_plan) 106 = .ok (.istore_n 2, 1) := by decide +kernel
theorem d_Cl_plan_107 : decode (cd m_Cl_plan) 107 = .ok (.iinc 3 1, 3) := by decide +kernel
theorem d_Cl_plan_110 : decode (cd m_Cl_plan) 110 = .ok (.goto (-97), 3) := by decide +kernel
theorem d_Cl_plan_113 : decode (cd m_Cl_plan) 113 = .ok (.aload_n 0, 1) := by decide +kernel
theorem d_Cl_plan_114 : decode (cd m_Cl_plan) 114 = .ok (.iload_n 1, 1) := by decide +kernel
theorem d_Cl_plan_115 : decode (cd m_Cl_plan) 115 = .ok (.invokevirtual 84, 3) := by decide +kernel
theorem d_Cl_plan_118 : decode (cd m_Cl_plan) 118 = .ok (.ireturn, 1) := by decide +kernel
theorem d_Cl_nextAsked_0 : decode (cd m_Cl_nextAsked) 0 = .ok (.iconst (-1), 1) := by decide +kernel
theorem d_Cl_nextAsked_1 : decode (cd m_Cl_nextAsked) 1 = .ok (.istore_n 3, 1) := by decide +kernel
theorem d_Cl_nextAsked_2 : decode (cd m_Cl_nextAsked) 2 = .ok (.iconst (-1), 1) := by decide +kernel
theorem d_Cl_nextAsked_3 : decode (cd m_Cl_nextAsked) 3 = .ok (.istore 4, 2) := by decide +kernel
theorem d_Cl_nextAsked_5 : decode (cd m_Cl_nextAsked) 5 = .ok (.iconst 0, 1) := by decide +kernel
theorem d_Cl_nextAsked_6 : decode (cd m_Cl_nextAsked) 6 = .ok (.istore 5, 2) := by decide +kernel
theorem d_Cl_nextAsked_8 : decode (cd m_Cl_nextAsked) 8 = .ok (.iload 5, 2) := by decide +kernel
theorem d_Cl_nextAsked_10 : decode (cd m_Cl_nextAsked) 10 = .ok (.aload_n 0, 1) := by decide +kernel
theorem d_Cl_nextAsked_11 : decode (cd m_Cl_nextAsked) 11 = .ok (.getfield 43, 3) := by decide +kernel
theorem d_Cl_nextAsked_14 : decode (cd m_Cl_nextAsked) 14 = .ok (.if_icmp .ge 112, 3) := by decide +kernel
theorem d_Cl_nextAsked_17 : decode (cd m_Cl_nextAsked) 17 = .ok (.iload_n 1, 1) := by decide +kernel
theorem d_Cl_nextAsked_18 : decode (cd m_Cl_nextAsked) 18 = .ok (.iload 5, 2) := by decide +kernel
theorem d_Cl_nextAsked_20 : decode (cd m_Cl_nextAsked) 20 = .ok (.ishr, 1) := by decide +kernel
theorem d_Cl_nextAsked_21 : decode (cd m_Cl_nextAsked) 21 = .ok (.iconst 1, 1) := by decide +kernel
theorem d_Cl_nextAsked_22 : decode (cd m_Cl_nextAsked) 22 = .ok (.iand, 1) := by decide +kernel
theorem d_Cl_nextAsked_23 : decode (cd m_Cl_nextAsked) 23 = .ok (.ifCond .eq 7, 3) := by decide +kernel
theorem d_Cl_nextAsked_26 : decode (cd m_Cl_nextAsked) 26 = .ok (.iconst 1, 1) := by decide +kernel
theorem d_Cl_nextAsked_27 : decode (cd m_Cl_nextAsked) 27 = .ok (.goto 4, 3) := by decide +kernel
theorem d_Cl_nextAsked_30 : decode (cd m_Cl_nextAsked) 30 = .ok (.iconst 0, 1) := by decide +kernel
theorem d_Cl_nextAsked_31 : decode (cd m_Cl_nextAsked) 31 = .ok (.istore 6, 2) := by decide +kernel
theorem d_Cl_nextAsked_33 : decode (cd m_Cl_nextAsked) 33 = .ok (.aload_n 0, 1) := by decide +kernel
theorem d_Cl_nextAsked_34 : decode (cd m_Cl_nextAsked) 34 = .ok (.getfield 18, 3) := by decide +kernel
theorem d_Cl_nextAsked_37 : decode (cd m_Cl_nextAsked) 37 = .ok (.iload 5, 2) := by decide +kernel
theorem d_Cl_nextAsked_39 : decode (cd m_Cl_nextAsked) 39 = .ok (.aaload, 1) := by decide +kernel
theorem d_Cl_nextAsked_40 : decode (cd m_Cl_nextAsked) 40 = .ok (.getfield 87, 3) := by decide +kernel
theorem d_Cl_nextAsked_43 : decode (cd m_Cl_nextAsked) 43 = .ok (.ifCond .ne 7, 3) := by decide +kernel
theorem d_Cl_nextAsked_46 : decode (cd m_Cl_nextAsked) 46 = .ok (.iconst 1, 1) := by decide +kernel
theorem d_Cl_nextAsked_47 : decode (cd m_Cl_nextAsked) 47 = .ok (.goto 4, 3) := by decide +kernel
theorem d_Cl_nextAsked_50 : decode (cd m_Cl_nextAsked) 50 = .ok (.iconst 0, 1) := by decide +kernel
theorem d_Cl_nextAsked_51 : decode (cd m_Cl_nextAsked) 51 = .ok (.istore 7, 2) := by decide +kernel
theorem d_Cl_nextAsked_53 : decode (cd m_Cl_nextAsked) 53 = .ok (.iload 6, 2) := by decide +kernel
theorem d_Cl_nextAsked_55 : decode (cd m_Cl_nextAsked) 55 = .ok (.ifCond .eq 25, 3) := by decide +kernel
theorem d_Cl_nextAsked_58 : decode (cd m_Cl_nextAsked) 58 = .ok (.iload 7, 2) := by decide +kernel
theorem d_Cl_nextAsked_60 : decode (cd m_Cl_nextAsked) 60 = .ok (.ifCond .ne 20, 3) := by decide +kernel
theorem d_Cl_nextAsked_63 : decode (cd m_Cl_nextAsked) 63 = .ok (.aload_n 0, 1) := by decide +kernel
theorem d_Cl_nextAsked_64 : decode (cd m_Cl_nextAsked) 64 = .ok (.getfield 18, 3) := by decide +kernel
theorem d_Cl_nextAsked_67 : decode (cd m_Cl_nextAsked) 67 = .ok (.iload 5, 2) := by decide +kernel
theorem d_Cl_nextAsked_69 : decode (cd m_Cl_nextAsked) 69 = .ok (.aaload, 1) := by decide +kernel
theorem d_Cl_nextAsked_70 : decode (cd m_Cl_nextAsked) 70 = .ok (.iload_n 2, 1) := by decide +kernel
theorem d_Cl_nextAsked_71 : decode (cd m_Cl_nextAsked) 71 = .ok (.invokevirtual 90, 3) := by decide +kernel
theorem d_Cl_nextAsked_74 : decode (cd m_Cl_nextAsked) 74 = .ok (.ifCond .eq 6, 3) := by decide +kernel
theorem d_Cl_nextAsked_77 : decode (cd m_Cl_nextAsked) 77 = .ok (.iload 5, 2) := by decide +kernel
theorem d_Cl_nextAsked_79 : decode (cd m_Cl_nextAsked) 79 = .ok (.ireturn, 1) := by decide +kernel
theorem d_Cl_nextAsked_80 : decode (cd m_Cl_nextAsked) 80 = .ok (.aload_n 0, 1) := by decide +kernel
theorem d_Cl_nextAsked_81 : decode (cd m_Cl_nextAsked) 81 = .ok (.getfield 18, 3) := by decide +kernel
theorem d_Cl_nextAsked_84 : decode (cd m_Cl_nextAsked) 84 = .ok (.iload 5, 2) := by decide +kernel
theorem d_Cl_nextAsked_86 : decode (cd m_Cl_nextAsked) 86 = .ok (.aaload, 1) := by decide +kernel
theorem d_Cl_nextAsked_87 : decode (cd m_Cl_nextAsked) 87 = .ok (.iload_n 2, 1) := by decide +kernel
theorem d_Cl_nextAsked_88 : decode (cd m_Cl_nextAsked) 88 = .ok (.invokevirtual 72, 3) := by decide +kernel
theorem d_Cl_nextAsked_91 : decode (cd m_Cl_nextAsked) 91 = .ok (.invokestatic 79, 3) := by decide +kernel
theorem d_Cl_nextAsked_94 : decode (cd m_Cl_nextAsked) 94 = .ok (.istore 8, 2) := by decide +kernel
theorem d_Cl_nextAsked_96 : decode (cd m_Cl_nextAsked) 96 = .ok (.iload 6, 2) := by decide +kernel
theorem d_Cl_nextAsked_98 : decode (cd m_Cl_nextAsked) 98 = .ok (.ifCond .eq 22, 3) := by decide +kernel
theorem d_Cl_nextAsked_101 : decode (cd m_Cl_nextAsked) 101 = .ok (.iload 7, 2) := by decide +kernel
theorem d_Cl_nextAsked_103 : decode (cd m_Cl_nextAsked) 103 = .ok (.ifCond .eq 17, 3) := by decide +kernel
theorem d_Cl_nextAsked_106 : decode (cd m_Cl_nextAsked) 106 = .ok (.iload 8, 2) := by decide +kernel
theorem d_Cl_nextAsked_108 : decode (cd m_Cl_nextAsked) 108 = .ok (.iload 4, 2) := by decide +kernel
theorem d_Cl_nextAsked_110 : decode (cd m_Cl_nextAsked) 110 = .ok (.if_icmp .le 10, 3) := by decide +kernel
theorem d_Cl_nextAsked_113 : decode (cd m_Cl_nextAsked) 113 = .ok (.iload 5, 2) := by decide +kernel
theorem d_Cl_nextAsked_115 : decode (cd m_Cl_nextAsked) 115 = .ok (.istore_n 3, 1) := by decide +kernel
theorem d_Cl_nextAsked_116 : decode (cd m_Cl_nextAsked) 116 = .ok (.iload 8, 2) := by decide +kernel
theorem d_Cl_nextAsked_118 : decode (cd m_Cl_nextAsked) 118 = .ok (.istore 4, 2) := by decide +kernel
theorem d_Cl_nextAsked_120 : decode (cd m_Cl_nextAsked) 120 = .ok (.iinc 5 1, 3) := by decide +kernel
theorem d_Cl_nextAsked_123 : decode (cd m_Cl_nextAsked) 123 = .ok (.goto (-115), 3) := by decide +kernel
theorem d_Cl_nextAsked_126 : decode (cd m_Cl_nextAsked) 126 = .ok (.iload_n 3, 1) := by decide +kernel
theorem d_Cl_nextAsked_127 : decode (cd m_Cl_nextAsked) 127 = .ok (.ireturn, 1) := by decide +kernel
theorem d_Cl_firstWithout_0 : decode (cd m_Cl_firstWithout) 0 = .ok (.iconst 0, 1) := by decide +kernel
theorem d_Cl_firstWithout_1 : decode (cd m_Cl_firstWithout) 1 = .ok (.istore_n 2, 1) := by decide +kernel
theorem d_Cl_firstWithout_2 : decode (cd m_Cl_firstWithout) 2 = .ok (.iload_n 2, 1) := by decide +kernel
theorem d_Cl_firstWithout_3 : decode (cd m_Cl_firstWithout) 3 = .ok (.aload_n 0, 1) := by decide +kernel
theorem d_Cl_firstWithout_4 : decode (cd m_Cl_firstWithout) 4 = .ok (.getfield 56, 3) := by decide +kernel
theorem d_Cl_firstWithout_7 : decode (cd m_Cl_firstWithout) 7 = .ok (.if_icmp .ge 24, 3) := by decide +kernel
theorem d_Cl_firstWithout_10 : decode (cd m_Cl_firstWithout) 10 = .ok (.iload_n 1, 1) := by decide +kernel
theorem d_Cl_firstWithout_11 : decode (cd m_Cl_firstWithout) 11 = .ok (.iload_n 2, 1) := by decide +kernel
theorem d_Cl_firstWithout_12 : decode (cd m_Cl_firstWithout) 12 = .ok (.ishr, 1) := by decide +kernel
theorem d_Cl_firstWithout_13 : decode (cd m_Cl_firstWithout) 13 = .ok (.iconst 1, 1) := by decide +kernel
theorem d_Cl_firstWithout_14 : decode (cd m_Cl_firstWithout) 14 = .ok (.iand, 1) := by decide +kernel
theorem d_Cl_firstWithout_15 : decode (cd m_Cl_firstWithout) 15 = .ok (.ifCond .ne 10, 3) := by decide +kernel
theorem d_Cl_firstWithout_18 : decode (cd m_Cl_firstWithout) 18 = .ok (.aload_n 0, 1) := by decide +kernel
theorem d_Cl_firstWithout_19 : decode (cd m_Cl_firstWithout) 19 = .ok (.getfield 26, 3) := by decide +kernel
theorem d_Cl_firstWithout_22 : decode (cd m_Cl_firstWithout) 22 = .ok (.iload_n 2, 1) := by decide +kernel
theorem d_Cl_firstWithout_23 : decode (cd m_Cl_firstWithout) 23 = .ok (.iaload, 1) := by decide +kernel
theorem d_Cl_firstWithout_24 : decode (cd m_Cl_firstWithout) 24 = .ok (.ireturn, 1) := by decide +kernel
theorem d_Cl_firstWithout_25 : decode (cd m_Cl_firstWithout) 25 = .ok (.iinc 2 1, 3) := by decide +kernel
theorem d_Cl_firstWithout_28 : decode (cd m_Cl_firstWithout) 28 = .ok (.goto (-26), 3) := by decide +kernel
theorem d_Cl_firstWithout_31 : decode (cd m_Cl_firstWithout) 31 = .ok (.iconst (-1), 1) := by decide +kernel
theorem d_Cl_firstWithout_32 : decode (cd m_Cl_firstWithout) 32 = .ok (.ireturn, 1) := by decide +kernel

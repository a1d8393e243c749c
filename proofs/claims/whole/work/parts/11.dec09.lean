/-! decode rows (by program) -/
theorem d_D_init_0 : decode (cd m_D_init) 0 = .ok (.aload_n 0, 1) := by decide +kernel
theorem d_D_init_1 : decode (cd m_D_init) 1 = .ok (.invokespecial 1, 3) := by decide +kernel
theorem d_D_init_4 : decode (cd m_D_init) 4 = .ok (.aload_n 0, 1) := by decide +kernel
theorem d_D_init_5 : decode (cd m_D_init) 5 = .ok (.new 7, 3) := by decide +kernel
theorem d_D_init_8 : decode (cd m_D_init) 8 = .ok (.dup, 1) := by decide +kernel
theorem d_D_init_9 : decode (cd m_D_init) 9 = .ok (.invokespecial 9, 3) := by decide +kernel
theorem d_D_init_12 : decode (cd m_D_init) 12 = .ok (.putfield 10, 3) := by decide +kernel
theorem d_D_init_15 : decode (cd m_D_init) 15 = .ok (.aload_n 0, 1) := by decide +kernel
theorem d_D_init_16 : decode (cd m_D_init) 16 = .ok (.new 16, 3) := by decide +kernel
theorem d_D_init_19 : decode (cd m_D_init) 19 = .ok (.dup, 1) := by decide +kernel
theorem d_D_init_20 : decode (cd m_D_init) 20 = .ok (.invokespecial 18, 3) := by decide +kernel
theorem d_D_init_23 : decode (cd m_D_init) 23 = .ok (.putfield 19, 3) := by decide +kernel
theorem d_D_init_26 : decode (cd m_D_init) 26 = .ok (.aload_n 0, 1) := by decide +kernel
theorem d_D_init_27 : decode (cd m_D_init) 27 = .ok (.new 23, 3) := by decide +kernel
theorem d_D_init_30 : decode (cd m_D_init) 30 = .ok (.dup, 1) := by decide +kernel
theorem d_D_init_31 : decode (cd m_D_init) 31 = .ok (.invokespecial 25, 3) := by decide +kernel
theorem d_D_init_34 : decode (cd m_D_init) 34 = .ok (.putfield 26, 3) := by decide +kernel
theorem d_D_init_37 : decode (cd m_D_init) 37 = .ok (.aload_n 0, 1) := by decide +kernel
theorem d_D_init_38 : decode (cd m_D_init) 38 = .ok (.new 23, 3) := by decide +kernel
theorem d_D_init_41 : decode (cd m_D_init) 41 = .ok (.dup, 1) := by decide +kernel
theorem d_D_init_42 : decode (cd m_D_init) 42 = .ok (.invokespecial 25, 3) := by decide +kernel
theorem d_D_init_45 : decode (cd m_D_init) 45 = .ok (.putfield 30, 3) := by decide +kernel
theorem d_D_init_48 : decode (cd m_D_init) 48 = .ok (.return_, 1) := by decide +kernel
theorem d_D_type_0 : decode (cd m_D_type) 0 = .ok (.iload_n 3, 1) := by decide +kernel
theorem d_D_type_1 : decode (cd m_D_type) 1 = .ok (.iconst 1, 1) := by decide +kernel
theorem d_D_type_2 : decode (cd m_D_type) 2 = .ok (.if_icmp .lt 24, 3) := by decide +kernel
theorem d_D_type_5 : decode (cd m_D_type) 5 = .ok (.iload_n 3, 1) := by decide +kernel
theorem d_D_type_6 : decode (cd m_D_type) 6 = .ok (.bipush 8, 2) := by decide +kernel
theorem d_D_type_8 : decode (cd m_D_type) 8 = .ok (.if_icmp .gt 18, 3) := by decide +kernel
theorem d_D_type_11 : decode (cd m_D_type) 11 = .ok (.aload_n 0, 1) := by decide +kernel
theorem d_D_type_12 : decode (cd m_D_type) 12 = .ok (.getfield 10, 3) := by decide +kernel
theorem d_D_type_15 : decode (cd m_D_type) 15 = .ok (.getfield 33, 3) := by decide +kernel
theorem d_D_type_18 : decode (cd m_D_type) 18 = .ok (.iload_n 3, 1) := by decide +kernel
theorem d_D_type_19 : decode (cd m_D_type) 19 = .ok (.iadd, 1) := by decide +kernel
theorem d_D_type_20 : decode (cd m_D_type) 20 = .ok (.sipush 600, 3) := by decide +kernel
theorem d_D_type_23 : decode (cd m_D_type) 23 = .ok (.if_icmp .le 5, 3) := by decide +kernel
theorem d_D_type_26 : decode (cd m_D_type) 26 = .ok (.iconst 0, 1) := by decide +kernel
theorem d_D_type_27 : decode (cd m_D_type) 27 = .ok (.ireturn, 1) := by decide +kernel
theorem d_D_type_28 : decode (cd m_D_type) 28 = .ok (.iconst 0, 1) := by decide +kernel
theorem d_D_type_29 : decode (cd m_D_type) 29 = .ok (.istore 4, 2) := by decide +kernel
theorem d_D_type_31 : decode (cd m_D_type) 31 = .ok (.iload 4, 2) := by decide +kernel
theorem d_D_type_33 : decode (cd m_D_type) 33 = .ok (.iload_n 3, 1) := by decide +kernel
theorem d_D_type_34 : decode (cd m_D_type) 34 = .ok (.if_icmp .ge 33, 3) := by decide +kernel
theorem d_D_type_37 : decode (cd m_D_type) 37 = .ok (.lload_n 1, 1) := by decide +kernel
theorem d_D_type_38 : decode (cd m_D_type) 38 = .ok (.iload 4, 2) := by decide +kernel
theorem d_D_type_40 : decode (cd m_D_type) 40 = .ok (.invokestatic 37, 3) := by decide +kernel
theorem d_D_type_43 : decode (cd m_D_type) 43 = .ok (.istore 5, 2) := by decide +kernel
theorem d_D_type_45 : decode (cd m_D_type) 45 = .ok (.iload 5, 2) := by decide +kernel
theorem d_D_type_47 : decode (cd m_D_type) 47 = .ok (.bipush 32, 2) := by decide +kernel
theorem d_D_type_49 : decode (cd m_D_type) 49 = .ok (.if_icmp .lt 10, 3) := by decide +kernel
theorem d_D_type_52 : decode (cd m_D_type) 52 = .ok (.iload 5, 2) := by decide +kernel
theorem d_D_type_54 : decode (cd m_D_type) 54 = .ok (.bipush 126, 2) := by decide +kernel
theorem d_D_type_56 : decode (cd m_D_type) 56 = .ok (.if_icmp .le 5, 3) := by decide +kernel
theorem d_D_type_59 : decode (cd m_D_type) 59 = .ok (.iconst 0, 1) := by decide +kernel
theorem d_D_type_60 : decode (cd m_D_type) 60 = .ok (.ireturn, 1) := by decide +kernel
theorem d_D_type_61 : decode (cd m_D_type) 61 = .ok (.iinc 4 1, 3) := by decide +kernel
theorem d_D_type_64 : decode (cd m_D_type) 64 = .ok (.goto (-33), 3) := by decide +kernel
theorem d_D_type_67 : decode (cd m_D_type) 67 = .ok (.iload_n 3, 1) := by decide +kernel
theorem d_D_type_68 : decode (cd m_D_type) 68 = .ok (.iconst 1, 1) := by decide +kernel
theorem d_D_type_69 : decode (cd m_D_type) 69 = .ok (.isub, 1) := by decide +kernel
theorem d_D_type_70 : decode (cd m_D_type) 70 = .ok (.istore 4, 2) := by decide +kernel
theorem d_D_type_72 : decode (cd m_D_type) 72 = .ok (.iload 4, 2) := by decide +kernel
theorem d_D_type_74 : decode (cd m_D_type) 74 = .ok (.ifCond .lt 22, 3) := by decide +kernel
theorem d_D_type_77 : decode (cd m_D_type) 77 = .ok (.aload_n 0, 1) := by decide +kernel
theorem d_D_type_78 : decode (cd m_D_type) 78 = .ok (.getfield 10, 3) := by decide +kernel
theorem d_D_type_81 : decode (cd m_D_type) 81 = .ok (.lload_n 1, 1) := by decide +kernel
theorem d_D_type_82 : decode (cd m_D_type) 82 = .ok (.iload 4, 2) := by decide +kernel
theorem d_D_type_84 : decode (cd m_D_type) 84 = .ok (.invokestatic 37, 3) := by decide +kernel
theorem d_D_type_87 : decode (cd m_D_type) 87 = .ok (.invokevirtual 41, 3) := by decide +kernel
theorem d_D_type_90 : decode (cd m_D_type) 90 = .ok (.iinc 4 (-1), 3) := by decide +kernel
theorem d_D_type_93 : decode (cd m_D_type) 93 = .ok (.goto (-21), 3) := by decide +kernel
theorem d_D_type_96 : decode (cd m_D_type) 96 = .ok (.iconst 1, 1) := by decide +kernel
theorem d_D_type_97 : decode (cd m_D_type) 97 = .ok (.ireturn, 1) := by decide +kernel
theorem d_D_program_0 : decode (cd m_D_program) 0 = .ok (.aload_n 0, 1) := by decide +kernel
theorem d_D_program_1 : decode (cd m_D_program) 1 = .ok (.getfield 19, 3) := by decide +kernel
theorem d_D_program_4 : decode (cd m_D_program) 4 = .ok (.aload_n 0, 1) := by decide +kernel
theorem d_D_program_5 : decode (cd m_D_program) 5 = .ok (.getfield 10, 3) := by decide +kernel
theorem d_D_program_8 : decode (cd m_D_program) 8 = .ok (.aload_n 0, 1) := by decide +kernel
theorem d_D_program_9 : decode (cd m_D_program) 9 = .ok (.getfield 30, 3) := by decide +kernel
theorem d_D_program_12 : decode (cd m_D_program) 12 = .ok (.invokevirtual 45, 3) := by decide +kernel
theorem d_D_program_15 : decode (cd m_D_program) 15 = .ok (.istore_n 1, 1) := by decide +kernel
theorem d_D_program_16 : decode (cd m_D_program) 16 = .ok (.aload_n 0, 1) := by decide +kernel
theorem d_D_program_17 : decode (cd m_D_program) 17 = .ok (.getfield 10, 3) := by decide +kernel
theorem d_D_program_20 : decode (cd m_D_program) 20 = .ok (.iconst 0, 1) := by decide +kernel
theorem d_D_program_21 : decode (cd m_D_program) 21 = .ok (.putfield 33, 3) := by decide +kernel
theorem d_D_program_24 : decode (cd m_D_program) 24 = .ok (.iload_n 1, 1) := by decide +kernel
theorem d_D_program_25 : decode (cd m_D_program) 25 = .ok (.ifCond .ne 13, 3) := by decide +kernel
theorem d_D_program_28 : decode (cd m_D_program) 28 = .ok (.new 49, 3) := by decide +kernel
theorem d_D_program_31 : decode (cd m_D_program) 31 = .ok (.dup, 1) := by decide +kernel
theorem d_D_program_32 : decode (cd m_D_program) 32 = .ok (.ldc 51, 2) := by decide +kernel
theorem d_D_program_34 : decode (cd m_D_program) 34 = .ok (.invokespecial 53, 3) := by decide +kernel
theorem d_D_program_37 : decode (cd m_D_program) 37 = .ok (.athrow, 1) := by decide +kernel
theorem d_D_program_38 : decode (cd m_D_program) 38 = .ok (.aload_n 0, 1) := by decide +kernel
theorem d_D_program_39 : decode (cd m_D_program) 39 = .ok (.getfield 26, 3) := by decide +kernel
theorem d_D_program_42 : decode (cd m_D_program) 42 = .ok (.astore_n 2, 1) := by decide +kernel
theorem d_D_program_43 : decode (cd m_D_program) 43 = .ok (.aload_n 0, 1) := by decide +kernel
theorem d_D_program_44 : decode (cd m_D_program) 44 = .ok (.aload_n 0, 1) := by decide +kernel
theorem d_D_program_45 : decode (cd m_D_program) 45 = .ok (.getfield 30, 3) := by decide +kernel
theorem d_D_program_48 : decode (cd m_D_program) 48 = .ok (.putfield 26, 3) := by decide +kernel
theorem d_D_program_51 : decode (cd m_D_program) 51 = .ok (.aload_n 0, 1) := by decide +kernel
theorem d_D_program_52 : decode (cd m_D_program) 52 = .ok (.aload_n 2, 1) := by decide +kernel
theorem d_D_program_53 : decode (cd m_D_program) 53 = .ok (.putfield 30, 3) := by decide +kernel
theorem d_D_program_56 : decode (cd m_D_program) 56 = .ok (.aload_n 0, 1) := by decide +kernel
theorem d_D_program_57 : decode (cd m_D_program) 57 = .ok (.getfield 26, 3) := by decide +kernel
theorem d_D_program_60 : decode (cd m_D_program) 60 = .ok (.getfield 56, 3) := by decide +kernel
theorem d_D_program_63 : decode (cd m_D_program) 63 = .ok (.getfield 60, 3) := by decide +kernel
theorem d_D_program_66 : decode (cd m_D_program) 66 = .ok (.ireturn, 1) := by decide +kernel
theorem d_D_fault_0 : decode (cd m_D_fault) 0 = .ok (.iload_n 1, 1) := by decide +kernel
theorem d_D_fault_1 : decode (cd m_D_fault) 1 = .ok (.lookupswitch 43 #[(0, 27), (1, 35)], 27) := by decide +kernel
theorem d_D_fault_28 : decode (cd m_D_fault) 28 = .ok (.aload_n 0, 1) := by decide +kernel
theorem d_D_fault_29 : decode (cd m_D_fault) 29 = .ok (.getfield 19, 3) := by decide +kernel
theorem d_D_fault_32 : decode (cd m_D_fault) 32 = .ok (.getfield 65, 3) := by decide +kernel
theorem d_D_fault_35 : decode (cd m_D_fault) 35 = .ok (.ireturn, 1) := by decide +kernel
theorem d_D_fault_36 : decode (cd m_D_fault) 36 = .ok (.aload_n 0, 1) := by decide +kernel
theorem d_D_fault_37 : decode (cd m_D_fault) 37 = .ok (.getfield 19, 3) := by decide +kernel
theorem d_D_fault_40 : decode (cd m_D_fault) 40 = .ok (.getfield 68, 3) := by decide +kernel
theorem d_D_fault_43 : decode (cd m_D_fault) 43 = .ok (.ireturn, 1) := by decide +kernel
theorem d_D_fault_44 : decode (cd m_D_fault) 44 = .ok (.iconst (-1), 1) := by decide +kernel
theorem d_D_fault_45 : decode (cd m_D_fault) 45 = .ok (.ireturn, 1) := by decide +kernel
theorem d_D_predicates_0 : decode (cd m_D_predicates) 0 = .ok (.aload_n 0, 1) := by decide +kernel
theorem d_D_predicates_1 : decode (cd m_D_predicates) 1 = .ok (.getfield 26, 3) := by decide +kernel
theorem d_D_predicates_4 : decode (cd m_D_predicates) 4 = .ok (.getfield 71, 3) := by decide +kernel
theorem d_D_predicates_7 : decode (cd m_D_predicates) 7 = .ok (.ireturn, 1) := by decide +kernel
theorem d_D_predicate_0 : decode (cd m_D_predicate) 0 = .ok (.iload_n 1, 1) := by decide +kernel
theorem d_D_predicate_1 : decode (cd m_D_predicate) 1 = .ok (.ifCond .lt 14, 3) := by decide +kernel
theorem d_D_predicate_4 : decode (cd m_D_predicate) 4 = .ok (.iload_n 1, 1) := by decide +kernel
theorem d_D_predicate_5 : decode (cd m_D_predicate) 5 = .ok (.aload_n 0, 1) := by decide +kernel
theorem d_D_predicate_6 : decode (cd m_D_predicate) 6 = .ok (.getfield 26, 3) := by decide +kernel
theorem d_D_predicate_9 : decode (cd m_D_predicate) 9 = .ok (.getfield 71, 3) := by decide +kernel
theorem d_D_predicate_12 : decode (cd m_D_predicate) 12 = .ok (.if_icmp .lt 5, 3) := by decide +kernel
theorem d_D_predicate_15 : decode (cd m_D_predicate) 15 = .ok (.iconst (-1), 1) := by decide +kernel
theorem d_D_predicate_16 : decode (cd m_D_predicate) 16 = .ok (.ireturn, 1) := by decide +kernel
theorem d_D_predicate_17 : decode (cd m_D_predicate) 17 = .ok (.iload_n 2, 1) := by decide +kernel
theorem d_D_predicate_18 : decode (cd m_D_predicate) 18 = .ok (.tableswitch 87 0 4 #[34, 44, 54, 64, 74], 34) := by decide +kernel
theorem d_D_predicate_52 : decode (cd m_D_predicate) 52 = .ok (.aload_n 0, 1) := by decide +kernel
theorem d_D_predicate_53 : decode (cd m_D_predicate) 53 = .ok (.getfield 26, 3) := by decide +kernel
theorem d_D_predicate_56 : decode (cd m_D_predicate) 56 = .ok (.getfield 72, 3) := by decide +kernel
theorem d_D_predicate_59 : decode (cd m_D_predicate) 59 = .ok (.iload_n 1, 1) := by decide +kernel
theorem d_D_predicate_60 : decode (cd m_D_predicate) 60 = .ok (.iaload, 1) := by decide +kernel
theorem d_D_predicate_61 : decode (cd m_D_predicate) 61 = .ok (.ireturn, 1) := by decide +kernel
theorem d_D_predicate_62 : decode (cd m_D_predicate) 62 = .ok (.aload_n 0, 1) := by decide +kernel
theorem d_D_predicate_63 : decode (cd m_D_predicate) 63 = .ok (.getfield 26, 3) := by decide +kernel
theorem d_D_predicate_66 : decode (cd m_D_predicate) 66 = .ok (.getfield 76, 3) := by decide +kernel
theorem d_D_predicate_69 : decode (cd m_D_predicate) 69 = .ok (.iload_n 1, 1) := by decide +kernel
theorem d_D_predicate_70 : decode (cd m_D_predicate) 70 = .ok (.iaload, 1) := by decide +kernel
theorem d_D_predicate_71 : decode (cd m_D_predicate) 71 = .ok (.ireturn, 1) := by decide +kernel
theorem d_D_predicate_72 : decode (cd m_D_predicate) 72 = .ok (.aload_n 0, 1) := by decide +kernel
theorem d_D_predicate_73 : decode (cd m_D_predicate) 73 = .ok (.getfield 26, 3) := by decide +kernel
theorem d_D_predicate_76 : decode (cd m_D_predicate) 76 = .ok (.getfield 79, 3) := by decide +kernel
theorem d_D_predicate_79 : decode (cd m_D_predicate) 79 = .ok (.iload_n 1, 1) := by decide +kernel
theorem d_D_predicate_80 : decode (cd m_D_predicate) 80 = .ok (.iaload, 1) := by decide +kernel
theorem d_D_predicate_81 : decode (cd m_D_predicate) 81 = .ok (.ireturn, 1) := by decide +kernel
theorem d_D_predicate_82 : decode (cd m_D_predicate) 82 = .ok (.aload_n 0, 1) := by decide +kernel
theorem d_D_predicate_83 : decode (cd m_D_predicate) 83 = .ok (.getfield 26, 3) := by decide +kernel
theorem d_D_predicate_86 : decode (cd m_D_predicate) 86 = .ok (.getfield 82, 3) := by decide +kernel
theorem d_D_predicate_89 : decode (cd m_D_predicate) 89 = .ok (.iload_n 1, 1) := by decide +kernel
theorem d_D_predicate_90 : decode (cd m_D_predicate) 90 = .ok (.iaload, 1) := by decide +kernel
theorem d_D_predicate_91 : decode (cd m_D_predicate) 91 = .ok (.ireturn, 1) := by decide +kernel
theorem d_D_predicate_92 : decode (cd m_D_predicate) 92 = .ok (.aload_n 0, 1) := by decide +kernel
theorem d_D_predicate_93 : decode (cd m_D_predicate) 93 = .ok (.getfield 26, 3) := by decide +kernel
theorem d_D_predicate_96 : decode (cd m_D_predicate) 96 = .ok (.getfield 85, 3) := by decide +kernel
theorem d_D_predicate_99 : decode (cd m_D_predicate) 99 = .ok (.iload_n 1, 1) := by decide +kernel
theorem d_D_predicate_100 : decode (cd m_D_predicate) 100 = .ok (.laload, 1) := by decide +kernel
theorem d_D_predicate_101 : decode (cd m_D_predicate) 101 = .ok (.invokestatic 89, 3) := by decide +kernel
theorem d_D_predicate_104 : decode (cd m_D_predicate) 104 = .ok (.ireturn, 1) := by decide +kernel
theorem d_D_predicate_105 : decode (cd m_D_predicate) 105 = .ok (.iload_n 2, 1) := by decide +kernel
theorem d_D_predicate_106 : decode (cd m_D_predicate) 106 = .ok (.bipush 100, 2) := by decide +kernel
theorem d_D_predicate_108 : decode (cd m_D_predicate) 108 = .ok (.if_icmp .ge 7, 3) := by decide +kernel
theorem d_D_predicate_111 : decode (cd m_D_predicate) 111 = .ok (.iconst (-1), 1) := by decide +kernel
theorem d_D_predicate_112 : decode (cd m_D_predicate) 112 = .ok (.goto 19, 3) := by decide +kernel
theorem d_D_predicate_115 : decode (cd m_D_predicate) 115 = .ok (.aload_n 0, 1) := by decide +kernel
theorem d_D_predicate_116 : decode (cd m_D_predicate) 116 = .ok (.getfield 26, 3) := by decide +kernel
theorem d_D_predicate_119 : decode (cd m_D_predicate) 119 = .ok (.getfield 85, 3) := by decide +kernel
theorem d_D_predicate_122 : decode (cd m_D_predicate) 122 = .ok (.iload_n 1, 1) := by decide +kernel
theorem d_D_predicate_123 : decode (cd m_D_predicate) 123 = .ok (.laload, 1) := by decide +kernel
theorem d_D_predicate_124 : decode (cd m_D_predicate) 124 = .ok (.iload_n 2, 1) := by decide +kernel
theorem d_D_predicate_125 : decode (cd m_D_predicate) 125 = .ok (.bipush 100, 2) := by decide +kernel
theorem d_D_predicate_127 : decode (cd m_D_predicate) 127 = .ok (.isub, 1) := by decide +kernel
theorem d_D_predicate_128 : decode (cd m_D_predicate) 128 = .ok (.invokestatic 93, 3) := by decide +kernel
theorem d_D_predicate_131 : decode (cd m_D_predicate) 131 = .ok (.ireturn, 1) := by decide +kernel
theorem d_D_hangs_0 : decode (cd m_D_hangs) 0 = .ok (.iload_n 1, 1) := by decide +kernel
theorem d_D_hangs_1 : decode (cd m_D_hangs) 1 = .ok (.ifCond .lt 45, 3) := by decide +kernel
theorem d_D_hangs_4 : decode (cd m_D_hangs) 4 = .ok (.iload_n 1, 1) := by decide +kernel
theorem d_D_hangs_5 : decode (cd m_D_hangs) 5 = .ok (.aload_n 0, 1) := by decide +kernel
theorem d_D_hangs_6 : decode (cd m_D_hangs) 6 = .ok (.getfield 26, 3) := by decide +kernel
theorem d_D_hangs_9 : decode (cd m_D_hangs) 9 = .ok (.getfield 71, 3) := by decide +kernel
theorem d_D_hangs_12 : decode (cd m_D_hangs) 12 = .ok (.if_icmp .ge 34, 3) := by decide +kernel
theorem d_D_hangs_15 : decode (cd m_D_hangs) 15 = .ok (.iload_n 2, 1) := by decide +kernel
theorem d_D_hangs_16 : decode (cd m_D_hangs) 16 = .ok (.ifCond .lt 30, 3) := by decide +kernel
theorem d_D_hangs_19 : decode (cd m_D_hangs) 19 = .ok (.iload_n 2, 1) := by decide +kernel
theorem d_D_hangs_20 : decode (cd m_D_hangs) 20 = .ok (.aload_n 0, 1) := by decide +kernel
theorem d_D_hangs_21 : decode (cd m_D_hangs) 21 = .ok (.getfield 26, 3) := by decide +kernel
theorem d_D_hangs_24 : decode (cd m_D_hangs) 24 = .ok (.getfield 71, 3) := by decide +kernel
theorem d_D_hangs_27 : decode (cd m_D_hangs) 27 = .ok (.if_icmp .ge 19, 3) := by decide +kernel
theorem d_D_hangs_30 : decode (cd m_D_hangs) 30 = .ok (.aload_n 0, 1) := by decide +kernel
theorem d_D_hangs_31 : decode (cd m_D_hangs) 31 = .ok (.getfield 26, 3) := by decide +kernel
theorem d_D_hangs_34 : decode (cd m_D_hangs) 34 = .ok (.iload_n 1, 1) := by decide +kernel
theorem d_D_hangs_35 : decode (cd m_D_hangs) 35 = .ok (.iload_n 2, 1) := by decide +kernel
theorem d_D_hangs_36 : decode (cd m_D_hangs) 36 = .ok (.invokevirtual 96, 3) := by decide +kernel
theorem d_D_hangs_39 : decode (cd m_D_hangs) 39 = .ok (.ifCond .eq 7, 3) := by decide +kernel
theorem d_D_hangs_42 : decode (cd m_D_hangs) 42 = .ok (.iconst 1, 1) := by decide +kernel
theorem d_D_hangs_43 : decode (cd m_D_hangs) 43 = .ok (.goto 4, 3) := by decide +kernel
theorem d_D_hangs_46 : decode (cd m_D_hangs) 46 = .ok (.iconst 0, 1) := by decide +kernel
theorem d_D_hangs_47 : decode (cd m_D_hangs) 47 = .ok (.ireturn, 1) := by decide +kernel
theorem d_D_rule_0 : decode (cd m_D_rule) 0 = .ok (.aload_n 0, 1) := by decide +kernel
theorem d_D_rule_1 : decode (cd m_D_rule) 1 = .ok (.getfield 26, 3) := by decide +kernel
theorem d_D_rule_4 : decode (cd m_D_rule) 4 = .ok (.getfield 56, 3) := by decide +kernel
theorem d_D_rule_7 : decode (cd m_D_rule) 7 = .ok (.astore_n 3, 1) := by decide +kernel
theorem d_D_rule_8 : decode (cd m_D_rule) 8 = .ok (.iload_n 1, 1) := by decide +kernel
theorem d_D_rule_9 : decode (cd m_D_rule) 9 = .ok (.ifCond .lt 11, 3) := by decide +kernel
theorem d_D_rule_12 : decode (cd m_D_rule) 12 = .ok (.iload_n 1, 1) := by decide +kernel
theorem d_D_rule_13 : decode (cd m_D_rule) 13 = .ok (.aload_n 3, 1) := by decide +kernel
theorem d_D_rule_14 : decode (cd m_D_rule) 14 = .ok (.getfield 60, 3) := by decide +kernel
theorem d_D_rule_17 : decode (cd m_D_rule) 17 = .ok (.if_icmp .lt 13, 3) := by decide +kernel
theorem d_D_rule_20 : decode (cd m_D_rule) 20 = .ok (.new 100, 3) := by decide +kernel
theorem d_D_rule_23 : decode (cd m_D_rule) 23 = .ok (.dup, 1) := by decide +kernel
theorem d_D_rule_24 : decode (cd m_D_rule) 24 = .ok (.ldc 102, 2) := by decide +kernel
theorem d_D_rule_26 : decode (cd m_D_rule) 26 = .ok (.invokespecial 104, 3) := by decide +kernel
theorem d_D_rule_29 : decode (cd m_D_rule) 29 = .ok (.athrow, 1) := by decide +kernel
theorem d_D_rule_30 : decode (cd m_D_rule) 30 = .ok (.iload_n 2, 1) := by decide +kernel
theorem d_D_rule_31 : decode (cd m_D_rule) 31 = .ok (.tableswitch 70 0 4 #[33, 40, 47, 54, 61], 33) := by decide +kernel
theorem d_D_rule_64 : decode (cd m_D_rule) 64 = .ok (.aload_n 3, 1) := by decide +kernel
theorem d_D_rule_65 : decode (cd m_D_rule) 65 = .ok (.getfield 105, 3) := by decide +kernel
theorem d_D_rule_68 : decode (cd m_D_rule) 68 = .ok (.iload_n 1, 1) := by decide +kernel
theorem d_D_rule_69 : decode (cd m_D_rule) 69 = .ok (.iaload, 1) := by decide +kernel
theorem d_D_rule_70 : decode (cd m_D_rule) 70 = .ok (.ireturn, 1) := by decide +kernel
theorem d_D_rule_71 : decode (cd m_D_rule) 71 = .ok (.aload_n 3, 1) := by decide +kernel
theorem d_D_rule_72 : decode (cd m_D_rule) 72 = .ok (.getfield 108, 3) := by decide +kernel
theorem d_D_rule_75 : decode (cd m_D_rule) 75 = .ok (.iload_n 1, 1) := by decide +kernel
theorem d_D_rule_76 : decode (cd m_D_rule) 76 = .ok (.iaload, 1) := by decide +kernel
theorem d_D_rule_77 : decode (cd m_D_rule) 77 = .ok (.ireturn, 1) := by decide +kernel
theorem d_D_rule_78 : decode (cd m_D_rule) 78 = .ok (.aload_n 3, 1) := by decide +kernel
theorem d_D_rule_79 : decode (cd m_D_rule) 79 = .ok (.getfield 109, 3) := by decide +kernel
theorem d_D_rule_82 : decode (cd m_D_rule) 82 = .ok (.iload_n 1, 1) := by decide +kernel
theorem d_D_rule_83 : decode (cd m_D_rule) 83 = .ok (.iaload, 1) := by decide +kernel
theorem d_D_rule_84 : decode (cd m_D_rule) 84 = .ok (.ireturn, 1) := by decide +kernel
theorem d_D_rule_85 : decode (cd m_D_rule) 85 = .ok (.aload_n 3, 1) := by decide +kernel
theorem d_D_rule_86 : decode (cd m_D_rule) 86 = .ok (.getfield 112, 3) := by decide +kernel
theorem d_D_rule_89 : decode (cd m_D_rule) 89 = .ok (.iload_n 1, 1) := by decide +kernel
theorem d_D_rule_90 : decode (cd m_D_rule) 90 = .ok (.iaload, 1) := by decide +kernel
theorem d_D_rule_91 : decode (cd m_D_rule) 91 = .ok (.ireturn, 1) := by decide +kernel
theorem d_D_rule_92 : decode (cd m_D_rule) 92 = .ok (.aload_n 0, 1) := by decide +kernel
theorem d_D_rule_93 : decode (cd m_D_rule) 93 = .ok (.getfield 26, 3) := by decide +kernel
theorem d_D_rule_96 : decode (cd m_D_rule) 96 = .ok (.iload_n 1, 1) := by decide +kernel
theorem d_D_rule_97 : decode (cd m_D_rule) 97 = .ok (.invokevirtual 115, 3) := by decide +kernel
theorem d_D_rule_100 : decode (cd m_D_rule) 100 = .ok (.ireturn, 1) := by decide +kernel
theorem d_D_rule_101 : decode (cd m_D_rule) 101 = .ok (.new 100, 3) := by decide +kernel
theorem d_D_rule_104 : decode (cd m_D_rule) 104 = .ok (.dup, 1) := by decide +kernel
theorem d_D_rule_105 : decode (cd m_D_rule) 105 = .ok (.ldc 119, 2) := by decide +kernel
theorem d_D_rule_107 : decode (cd m_D_rule) 107 = .ok (.invokespecial 104, 3) := by decide +kernel
theorem d_D_rule_110 : decode (cd m_D_rule) 110 = .ok (.athrow, 1) := by decide +kernel
theorem d_D_literal_0 : decode (cd m_D_literal) 0 = .ok (.aload_n 0, 1) := by decide +kernel
theorem d_D_literal_1 : decode (cd m_D_literal) 1 = .ok (.getfield 26, 3) := by decide +kernel
theorem d_D_literal_4 : decode (cd m_D_literal) 4 = .ok (.getfield 56, 3) := by decide +kernel
theorem d_D_literal_7 : decode (cd m_D_literal) 7 = .ok (.astore 4, 2) := by decide +kernel
theorem d_D_literal_9 : decode (cd m_D_literal) 9 = .ok (.iload_n 1, 1) := by decide +kernel
theorem d_D_literal_10 : decode (cd m_D_literal) 10 = .ok (.ifCond .lt 27, 3) := by decide +kernel
theorem d_D_literal_13 : decode (cd m_D_literal) 13 = .ok (.iload_n 1, 1) := by decide +kernel
theorem d_D_literal_14 : decode (cd m_D_literal) 14 = .ok (.aload 4, 2) := by decide +kernel
theorem d_D_literal_16 : decode (cd m_D_literal) 16 = .ok (.getfield 60, 3) := by decide +kernel
theorem d_D_literal_19 : decode (cd m_D_literal) 19 = .ok (.if_icmp .ge 18, 3) := by decide +kernel
theorem d_D_literal_22 : decode (cd m_D_literal) 22 = .ok (.iload_n 2, 1) := by decide +kernel
theorem d_D_literal_23 : decode (cd m_D_literal) 23 = .ok (.ifCond .lt 14, 3) := by decide +kernel
theorem d_D_literal_26 : decode (cd m_D_literal) 26 = .ok (.iload_n 2, 1) := by decide +kernel
theorem d_D_literal_27 : decode (cd m_D_literal) 27 = .ok (.aload 4, 2) := by decide +kernel
theorem d_D_literal_29 : decode (cd m_D_literal) 29 = .ok (.getfield 108, 3) := by decide +kernel
theorem d_D_literal_32 : decode (cd m_D_literal) 32 = .ok (.iload_n 1, 1) := by decide +kernel
theorem d_D_literal_33 : decode (cd m_D_literal) 33 = .ok (.iaload, 1) := by decide +kernel
theorem d_D_literal_34 : decode (cd m_D_literal) 34 = .ok (.if_icmp .lt 13, 3) := by decide +kernel
theorem d_D_literal_37 : decode (cd m_D_literal) 37 = .ok (.new 100, 3) := by decide +kernel
theorem d_D_literal_40 : decode (cd m_D_literal) 40 = .ok (.dup, 1) := by decide +kernel
theorem d_D_literal_41 : decode (cd m_D_literal) 41 = .ok (.ldc 121, 2) := by decide +kernel
theorem d_D_literal_43 : decode (cd m_D_literal) 43 = .ok (.invokespecial 104, 3) := by decide +kernel
theorem d_D_literal_46 : decode (cd m_D_literal) 46 = .ok (.athrow, 1) := by decide +kernel
theorem d_D_literal_47 : decode (cd m_D_literal) 47 = .ok (.iload_n 1, 1) := by decide +kernel
theorem d_D_literal_48 : decode (cd m_D_literal) 48 = .ok (.bipush 6, 2) := by decide +kernel
theorem d_D_literal_50 : decode (cd m_D_literal) 50 = .ok (.imul, 1) := by decide +kernel
theorem d_D_literal_51 : decode (cd m_D_literal) 51 = .ok (.iload_n 2, 1) := by decide +kernel
theorem d_D_literal_52 : decode (cd m_D_literal) 52 = .ok (.iadd, 1) := by decide +kernel
theorem d_D_literal_53 : decode (cd m_D_literal) 53 = .ok (.istore 5, 2) := by decide +kernel
theorem d_D_literal_55 : decode (cd m_D_literal) 55 = .ok (.iload_n 1, 1) := by decide +kernel
theorem d_D_literal_56 : decode (cd m_D_literal) 56 = .ok (.bipush 6, 2) := by decide +kernel
theorem d_D_literal_58 : decode (cd m_D_literal) 58 = .ok (.imul, 1) := by decide +kernel
theorem d_D_literal_59 : decode (cd m_D_literal) 59 = .ok (.aload 4, 2) := by decide +kernel
theorem d_D_literal_61 : decode (cd m_D_literal) 61 = .ok (.getfield 123, 3) := by decide +kernel
theorem d_D_literal_64 : decode (cd m_D_literal) 64 = .ok (.iload 5, 2) := by decide +kernel
theorem d_D_literal_66 : decode (cd m_D_literal) 66 = .ok (.iaload, 1) := by decide +kernel
theorem d_D_literal_67 : decode (cd m_D_literal) 67 = .ok (.iadd, 1) := by decide +kernel
theorem d_D_literal_68 : decode (cd m_D_literal) 68 = .ok (.istore 6, 2) := by decide +kernel
theorem d_D_literal_70 : decode (cd m_D_literal) 70 = .ok (.iload_n 3, 1) := by decide +kernel
theorem d_D_literal_71 : decode (cd m_D_literal) 71 = .ok (.tableswitch 78 0 4 #[33, 42, 51, 60, 69], 33) := by decide +kernel
theorem d_D_literal_104 : decode (cd m_D_literal) 104 = .ok (.aload 4, 2) := by decide +kernel
theorem d_D_literal_106 : decode (cd m_D_literal) 106 = .ok (.getfield 123, 3) := by decide +kernel
theorem d_D_literal_109 : decode (cd m_D_literal) 109 = .ok (.iload 5, 2) := by decide +kernel
theorem d_D_literal_111 : decode (cd m_D_literal) 111 = .ok (.iaload, 1) := by decide +kernel
theorem d_D_literal_112 : decode (cd m_D_literal) 112 = .ok (.ireturn, 1) := by decide +kernel
theorem d_D_literal_113 : decode (cd m_D_literal) 113 = .ok (.aload 4, 2) := by decide +kernel
theorem d_D_literal_115 : decode (cd m_D_literal) 115 = .ok (.getfield 126, 3) := by decide +kernel
theorem d_D_literal_118 : decode (cd m_D_literal) 118 = .ok (.iload 6, 2) := by decide +kernel
theorem d_D_literal_120 : decode (cd m_D_literal) 120 = .ok (.iaload, 1) := by decide +kernel
theorem d_D_literal_121 : decode (cd m_D_literal) 121 = .ok (.ireturn, 1) := by decide +kernel
theorem d_D_literal_122 : decode (cd m_D_literal) 122 = .ok (.aload 4, 2) := by decide +kernel
theorem d_D_literal_124 : decode (cd m_D_literal) 124 = .ok (.getfield 129, 3) := by decide +kernel
theorem d_D_literal_127 : decode (cd m_D_literal) 127 = .ok (.iload 6, 2) := by decide +kernel
theorem d_D_literal_129 : decode (cd m_D_literal) 129 = .ok (.iaload, 1) := by decide +kernel
theorem d_D_literal_130 : decode (cd m_D_literal) 130 = .ok (.ireturn, 1) := by decide +kernel
theorem d_D_literal_131 : decode (cd m_D_literal) 131 = .ok (.aload 4, 2) := by decide +kernel
theorem d_D_literal_133 : decode (cd m_D_literal) 133 = .ok (.getfield 132, 3) := by decide +kernel
theorem d_D_literal_136 : decode (cd m_D_literal) 136 = .ok (.iload 5, 2) := by decide +kernel
theorem d_D_literal_138 : decode (cd m_D_literal) 138 = .ok (.iaload, 1) := by decide +kernel
theorem d_D_literal_139 : decode (cd m_D_literal) 139 = .ok (.ireturn, 1) := by decide +kernel
theorem d_D_literal_140 : decode (cd m_D_literal) 140 = .ok (.aload 4, 2) := by decide +kernel
theorem d_D_literal_142 : decode (cd m_D_literal) 142 = .ok (.getfield 135, 3) := by decide +kernel
theorem d_D_literal_145 : decode (cd m_D_literal) 145 = .ok (.iload 5, 2) := by decide +kernel
theorem d_D_literal_147 : decode (cd m_D_literal) 147 = .ok (.iaload, 1) := by decide +kernel
theorem d_D_literal_148 : decode (cd m_D_literal) 148 = .ok (.ireturn, 1) := by decide +kernel
theorem d_D_literal_149 : decode (cd m_D_literal) 149 = .ok (.new 100, 3) := by decide +kernel
theorem d_D_literal_152 : decode (cd m_D_literal) 152 = .ok (.dup, 1) := by decide +kernel
theorem d_D_literal_153 : decode (cd m_D_literal) 153 = .ok (.ldc 138, 2) := by decide +kernel
theorem d_D_literal_155 : decode (cd m_D_literal) 155 = .ok (.invokespecial 104, 3) := by decide +kernel
theorem d_D_literal_158 : decode (cd m_D_literal) 158 = .ok (.athrow, 1) := by decide +kernel
theorem d_D_byteOf_0 : decode (cd m_D_byteOf) 0 = .ok (.lload_n 0, 1) := by decide +kernel
theorem d_D_byteOf_1 : decode (cd m_D_byteOf) 1 = .ok (.bipush 8, 2) := by decide +kernel
theorem d_D_byteOf_3 : decode (cd m_D_byteOf) 3 = .ok (.iload_n 2, 1) := by decide +kernel
theorem d_D_byteOf_4 : decode (cd m_D_byteOf) 4 = .ok (.imul, 1) := by decide +kernel
theorem d_D_byteOf_5 : decode (cd m_D_byteOf) 5 = .ok (.lushr, 1) := by decide +kernel
theorem d_D_byteOf_6 : decode (cd m_D_byteOf) 6 = .ok (.l2i, 1) := by decide +kernel
theorem d_D_byteOf_7 : decode (cd m_D_byteOf) 7 = .ok (.sipush 255, 3) := by decide +kernel
theorem d_D_byteOf_10 : decode (cd m_D_byteOf) 10 = .ok (.iand, 1) := by decide +kernel
theorem d_D_byteOf_11 : decode (cd m_D_byteOf) 11 = .ok (.ireturn, 1) := by decide +kernel
theorem d_D_letters_0 : decode (cd m_D_letters) 0 = .ok (.iconst 0, 1) := by decide +kernel
theorem d_D_letters_1 : decode (cd m_D_letters) 1 = .ok (.istore_n 2, 1) := by decide +kernel
theorem d_D_letters_2 : decode (cd m_D_letters) 2 = .ok (.iload_n 2, 1) := by decide +kernel
theorem d_D_letters_3 : decode (cd m_D_letters) 3 = .ok (.bipush 6, 2) := by decide +kernel
theorem d_D_letters_5 : decode (cd m_D_letters) 5 = .ok (.if_icmp .ge 20, 3) := by decide +kernel
theorem d_D_letters_8 : decode (cd m_D_letters) 8 = .ok (.lload_n 0, 1) := by decide +kernel
theorem d_D_letters_9 : decode (cd m_D_letters) 9 = .ok (.bipush 7, 2) := by decide +kernel
theorem d_D_letters_11 : decode (cd m_D_letters) 11 = .ok (.iload_n 2, 1) := by decide +kernel
theorem d_D_letters_12 : decode (cd m_D_letters) 12 = .ok (.imul, 1) := by decide +kernel
theorem d_D_letters_13 : decode (cd m_D_letters) 13 = .ok (.lshr, 1) := by decide +kernel
theorem d_D_letters_14 : decode (cd m_D_letters) 14 = .ok (.lconst 0, 1) := by decide +kernel
theorem d_D_letters_15 : decode (cd m_D_letters) 15 = .ok (.lcmp, 1) := by decide +kernel
theorem d_D_letters_16 : decode (cd m_D_letters) 16 = .ok (.ifCond .eq 9, 3) := by decide +kernel
theorem d_D_letters_19 : decode (cd m_D_letters) 19 = .ok (.iinc 2 1, 3) := by decide +kernel
theorem d_D_letters_22 : decode (cd m_D_letters) 22 = .ok (.goto (-20), 3) := by decide +kernel
theorem d_D_letters_25 : decode (cd m_D_letters) 25 = .ok (.iload_n 2, 1) := by decide +kernel
theorem d_D_letters_26 : decode (cd m_D_letters) 26 = .ok (.ireturn, 1) := by decide +kernel
theorem d_D_letter_0 : decode (cd m_D_letter) 0 = .ok (.lload_n 0, 1) := by decide +kernel
theorem d_D_letter_1 : decode (cd m_D_letter) 1 = .ok (.invokestatic 89, 3) := by decide +kernel
theorem d_D_letter_4 : decode (cd m_D_letter) 4 = .ok (.iconst 1, 1) := by decide +kernel
theorem d_D_letter_5 : decode (cd m_D_letter) 5 = .ok (.isub, 1) := by decide +kernel
theorem d_D_letter_6 : decode (cd m_D_letter) 6 = .ok (.iload_n 2, 1) := by decide +kernel
theorem d_D_letter_7 : decode (cd m_D_letter) 7 = .ok (.isub, 1) := by decide +kernel
theorem d_D_letter_8 : decode (cd m_D_letter) 8 = .ok (.istore_n 3, 1) := by decide +kernel
theorem d_D_letter_9 : decode (cd m_D_letter) 9 = .ok (.iload_n 2, 1) := by decide +kernel
theorem d_D_letter_10 : decode (cd m_D_letter) 10 = .ok (.ifCond .lt 7, 3) := by decide +kernel
theorem d_D_letter_13 : decode (cd m_D_letter) 13 = .ok (.iload_n 3, 1) := by decide +kernel
theorem d_D_letter_14 : decode (cd m_D_letter) 14 = .ok (.ifCond .ge 5, 3) := by decide +kernel
theorem d_D_letter_17 : decode (cd m_D_letter) 17 = .ok (.iconst (-1), 1) := by decide +kernel
theorem d_D_letter_18 : decode (cd m_D_letter) 18 = .ok (.ireturn, 1) := by decide +kernel
theorem d_D_letter_19 : decode (cd m_D_letter) 19 = .ok (.lload_n 0, 1) := by decide +kernel
theorem d_D_letter_20 : decode (cd m_D_letter) 20 = .ok (.bipush 7, 2) := by decide +kernel
theorem d_D_letter_22 : decode (cd m_D_letter) 22 = .ok (.iload_n 3, 1) := by decide +kernel
theorem d_D_letter_23 : decode (cd m_D_letter) 23 = .ok (.imul, 1) := by decide +kernel
theorem d_D_letter_24 : decode (cd m_D_letter) 24 = .ok (.lshr, 1) := by decide +kernel
theorem d_D_letter_25 : decode (cd m_D_letter) 25 = .ok (.l2i, 1) := by decide +kernel
theorem d_D_letter_26 : decode (cd m_D_letter) 26 = .ok (.bipush 127, 2) := by decide +kernel
theorem d_D_letter_28 : decode (cd m_D_letter) 28 = .ok (.iand, 1) := by decide +kernel
theorem d_D_letter_29 : decode (cd m_D_letter) 29 = .ok (.ireturn, 1) := by decide +kernel

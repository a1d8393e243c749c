/-! decode rows (by program) -/
theorem d_Lt_init_0 : decode (cd m_Lt_init) 0 = .ok (.aload_n 0, 1) := by decide +kernel
theorem d_Lt_init_1 : decode (cd m_Lt_init) 1 = .ok (.invokespecial 3, 3) := by decide +kernel
theorem d_Lt_init_4 : decode (cd m_Lt_init) 4 = .ok (.aload_n 0, 1) := by decide +kernel
theorem d_Lt_init_5 : decode (cd m_Lt_init) 5 = .ok (.iconst 4, 1) := by decide +kernel
theorem d_Lt_init_6 : decode (cd m_Lt_init) 6 = .ok (.newarray .long, 2) := by decide +kernel
theorem d_Lt_init_8 : decode (cd m_Lt_init) 8 = .ok (.putfield 9, 3) := by decide +kernel
theorem d_Lt_init_11 : decode (cd m_Lt_init) 11 = .ok (.aload_n 0, 1) := by decide +kernel
theorem d_Lt_init_12 : decode (cd m_Lt_init) 12 = .ok (.iconst 4, 1) := by decide +kernel
theorem d_Lt_init_13 : decode (cd m_Lt_init) 13 = .ok (.newarray .int, 2) := by decide +kernel
theorem d_Lt_init_15 : decode (cd m_Lt_init) 15 = .ok (.putfield 15, 3) := by decide +kernel
theorem d_Lt_init_18 : decode (cd m_Lt_init) 18 = .ok (.return_, 1) := by decide +kernel
theorem d_Lt_begin_0 : decode (cd m_Lt_begin) 0 = .ok (.aload_n 0, 1) := by decide +kernel
theorem d_Lt_begin_1 : decode (cd m_Lt_begin) 1 = .ok (.iload_n 1, 1) := by decide +kernel
theorem d_Lt_begin_2 : decode (cd m_Lt_begin) 2 = .ok (.putfield 19, 3) := by decide +kernel
theorem d_Lt_begin_5 : decode (cd m_Lt_begin) 5 = .ok (.aload_n 0, 1) := by decide +kernel
theorem d_Lt_begin_6 : decode (cd m_Lt_begin) 6 = .ok (.iload_n 2, 1) := by decide +kernel
theorem d_Lt_begin_7 : decode (cd m_Lt_begin) 7 = .ok (.putfield 23, 3) := by decide +kernel
theorem d_Lt_begin_10 : decode (cd m_Lt_begin) 10 = .ok (.aload_n 0, 1) := by decide +kernel
theorem d_Lt_begin_11 : decode (cd m_Lt_begin) 11 = .ok (.iconst (-1), 1) := by decide +kernel
theorem d_Lt_begin_12 : decode (cd m_Lt_begin) 12 = .ok (.putfield 26, 3) := by decide +kernel
theorem d_Lt_begin_15 : decode (cd m_Lt_begin) 15 = .ok (.aload_n 0, 1) := by decide +kernel
theorem d_Lt_begin_16 : decode (cd m_Lt_begin) 16 = .ok (.iconst 0, 1) := by decide +kernel
theorem d_Lt_begin_17 : decode (cd m_Lt_begin) 17 = .ok (.putfield 29, 3) := by decide +kernel
theorem d_Lt_begin_20 : decode (cd m_Lt_begin) 20 = .ok (.aload_n 0, 1) := by decide +kernel
theorem d_Lt_begin_21 : decode (cd m_Lt_begin) 21 = .ok (.iconst 0, 1) := by decide +kernel
theorem d_Lt_begin_22 : decode (cd m_Lt_begin) 22 = .ok (.putfield 33, 3) := by decide +kernel
theorem d_Lt_begin_25 : decode (cd m_Lt_begin) 25 = .ok (.return_, 1) := by decide +kernel
theorem d_Lt_add_0 : decode (cd m_Lt_add) 0 = .ok (.aload_n 0, 1) := by decide +kernel
theorem d_Lt_add_1 : decode (cd m_Lt_add) 1 = .ok (.getfield 33, 3) := by decide +kernel
theorem d_Lt_add_4 : decode (cd m_Lt_add) 4 = .ok (.aload_n 0, 1) := by decide +kernel
theorem d_Lt_add_5 : decode (cd m_Lt_add) 5 = .ok (.getfield 9, 3) := by decide +kernel
theorem d_Lt_add_8 : decode (cd m_Lt_add) 8 = .ok (.arraylength, 1) := by decide +kernel
theorem d_Lt_add_9 : decode (cd m_Lt_add) 9 = .ok (.if_icmp .ge 70, 3) := by decide +kernel
theorem d_Lt_add_12 : decode (cd m_Lt_add) 12 = .ok (.lload_n 1, 1) := by decide +kernel
theorem d_Lt_add_13 : decode (cd m_Lt_add) 13 = .ok (.ldc2_w 36, 3) := by decide +kernel
theorem d_Lt_add_16 : decode (cd m_Lt_add) 16 = .ok (.lcmp, 1) := by decide +kernel
theorem d_Lt_add_17 : decode (cd m_Lt_add) 17 = .ok (.ifCond .lt 15, 3) := by decide +kernel
theorem d_Lt_add_20 : decode (cd m_Lt_add) 20 = .ok (.lload_n 1, 1) := by decide +kernel
theorem d_Lt_add_21 : decode (cd m_Lt_add) 21 = .ok (.ldc2_w 38, 3) := by decide +kernel
theorem d_Lt_add_24 : decode (cd m_Lt_add) 24 = .ok (.lcmp, 1) := by decide +kernel
theorem d_Lt_add_25 : decode (cd m_Lt_add) 25 = .ok (.ifCond .ge 7, 3) := by decide +kernel
theorem d_Lt_add_28 : decode (cd m_Lt_add) 28 = .ok (.iconst 1, 1) := by decide +kernel
theorem d_Lt_add_29 : decode (cd m_Lt_add) 29 = .ok (.goto 4, 3) := by decide +kernel
theorem d_Lt_add_32 : decode (cd m_Lt_add) 32 = .ok (.iconst 0, 1) := by decide +kernel
theorem d_Lt_add_33 : decode (cd m_Lt_add) 33 = .ok (.istore_n 3, 1) := by decide +kernel
theorem d_Lt_add_34 : decode (cd m_Lt_add) 34 = .ok (.aload_n 0, 1) := by decide +kernel
theorem d_Lt_add_35 : decode (cd m_Lt_add) 35 = .ok (.getfield 9, 3) := by decide +kernel
theorem d_Lt_add_38 : decode (cd m_Lt_add) 38 = .ok (.aload_n 0, 1) := by decide +kernel
theorem d_Lt_add_39 : decode (cd m_Lt_add) 39 = .ok (.getfield 33, 3) := by decide +kernel
theorem d_Lt_add_42 : decode (cd m_Lt_add) 42 = .ok (.lload_n 1, 1) := by decide +kernel
theorem d_Lt_add_43 : decode (cd m_Lt_add) 43 = .ok (.lastore, 1) := by decide +kernel
theorem d_Lt_add_44 : decode (cd m_Lt_add) 44 = .ok (.aload_n 0, 1) := by decide +kernel
theorem d_Lt_add_45 : decode (cd m_Lt_add) 45 = .ok (.getfield 15, 3) := by decide +kernel
theorem d_Lt_add_48 : decode (cd m_Lt_add) 48 = .ok (.aload_n 0, 1) := by decide +kernel
theorem d_Lt_add_49 : decode (cd m_Lt_add) 49 = .ok (.getfield 33, 3) := by decide +kernel
theorem d_Lt_add_52 : decode (cd m_Lt_add) 52 = .ok (.iload_n 3, 1) := by decide +kernel
theorem d_Lt_add_53 : decode (cd m_Lt_add) 53 = .ok (.ifCond .eq 14, 3) := by decide +kernel
theorem d_Lt_add_56 : decode (cd m_Lt_add) 56 = .ok (.iconst 1, 1) := by decide +kernel
theorem d_Lt_add_57 : decode (cd m_Lt_add) 57 = .ok (.lload_n 1, 1) := by decide +kernel
theorem d_Lt_add_58 : decode (cd m_Lt_add) 58 = .ok (.ldc2_w 36, 3) := by decide +kernel
theorem d_Lt_add_61 : decode (cd m_Lt_add) 61 = .ok (.lsub, 1) := by decide +kernel
theorem d_Lt_add_62 : decode (cd m_Lt_add) 62 = .ok (.l2i, 1) := by decide +kernel
theorem d_Lt_add_63 : decode (cd m_Lt_add) 63 = .ok (.ishl, 1) := by decide +kernel
theorem d_Lt_add_64 : decode (cd m_Lt_add) 64 = .ok (.goto 4, 3) := by decide +kernel
theorem d_Lt_add_67 : decode (cd m_Lt_add) 67 = .ok (.iconst 0, 1) := by decide +kernel
theorem d_Lt_add_68 : decode (cd m_Lt_add) 68 = .ok (.iastore, 1) := by decide +kernel
theorem d_Lt_add_69 : decode (cd m_Lt_add) 69 = .ok (.aload_n 0, 1) := by decide +kernel
theorem d_Lt_add_70 : decode (cd m_Lt_add) 70 = .ok (.dup, 1) := by decide +kernel
theorem d_Lt_add_71 : decode (cd m_Lt_add) 71 = .ok (.getfield 33, 3) := by decide +kernel
theorem d_Lt_add_74 : decode (cd m_Lt_add) 74 = .ok (.iconst 1, 1) := by decide +kernel
theorem d_Lt_add_75 : decode (cd m_Lt_add) 75 = .ok (.iadd, 1) := by decide +kernel
theorem d_Lt_add_76 : decode (cd m_Lt_add) 76 = .ok (.putfield 33, 3) := by decide +kernel
theorem d_Lt_add_79 : decode (cd m_Lt_add) 79 = .ok (.return_, 1) := by decide +kernel
theorem d_Lt_isAtom_0 : decode (cd m_Lt_isAtom) 0 = .ok (.aload_n 0, 1) := by decide +kernel
theorem d_Lt_isAtom_1 : decode (cd m_Lt_isAtom) 1 = .ok (.getfield 19, 3) := by decide +kernel
theorem d_Lt_isAtom_4 : decode (cd m_Lt_isAtom) 4 = .ok (.ifCond .eq 11, 3) := by decide +kernel
theorem d_Lt_isAtom_7 : decode (cd m_Lt_isAtom) 7 = .ok (.aload_n 0, 1) := by decide +kernel
theorem d_Lt_isAtom_8 : decode (cd m_Lt_isAtom) 8 = .ok (.getfield 19, 3) := by decide +kernel
theorem d_Lt_isAtom_11 : decode (cd m_Lt_isAtom) 11 = .ok (.iconst 1, 1) := by decide +kernel
theorem d_Lt_isAtom_12 : decode (cd m_Lt_isAtom) 12 = .ok (.if_icmp .ne 7, 3) := by decide +kernel
theorem d_Lt_isAtom_15 : decode (cd m_Lt_isAtom) 15 = .ok (.iconst 1, 1) := by decide +kernel
theorem d_Lt_isAtom_16 : decode (cd m_Lt_isAtom) 16 = .ok (.goto 4, 3) := by decide +kernel
theorem d_Lt_isAtom_19 : decode (cd m_Lt_isAtom) 19 = .ok (.iconst 0, 1) := by decide +kernel
theorem d_Lt_isAtom_20 : decode (cd m_Lt_isAtom) 20 = .ok (.ireturn, 1) := by decide +kernel
theorem d_Lt_variablesFrom_0 : decode (cd m_Lt_variablesFrom) 0 = .ok (.iconst 0, 1) := by decide +kernel
theorem d_Lt_variablesFrom_1 : decode (cd m_Lt_variablesFrom) 1 = .ok (.istore_n 2, 1) := by decide +kernel
theorem d_Lt_variablesFrom_2 : decode (cd m_Lt_variablesFrom) 2 = .ok (.iload_n 1, 1) := by decide +kernel
theorem d_Lt_variablesFrom_3 : decode (cd m_Lt_variablesFrom) 3 = .ok (.istore_n 3, 1) := by decide +kernel
theorem d_Lt_variablesFrom_4 : decode (cd m_Lt_variablesFrom) 4 = .ok (.iload_n 3, 1) := by decide +kernel
theorem d_Lt_variablesFrom_5 : decode (cd m_Lt_variablesFrom) 5 = .ok (.aload_n 0, 1) := by decide +kernel
theorem d_Lt_variablesFrom_6 : decode (cd m_Lt_variablesFrom) 6 = .ok (.getfield 33, 3) := by decide +kernel
theorem d_Lt_variablesFrom_9 : decode (cd m_Lt_variablesFrom) 9 = .ok (.if_icmp .ge 18, 3) := by decide +kernel
theorem d_Lt_variablesFrom_12 : decode (cd m_Lt_variablesFrom) 12 = .ok (.iload_n 2, 1) := by decide +kernel
theorem d_Lt_variablesFrom_13 : decode (cd m_Lt_variablesFrom) 13 = .ok (.aload_n 0, 1) := by decide +kernel
theorem d_Lt_variablesFrom_14 : decode (cd m_Lt_variablesFrom) 14 = .ok (.getfield 15, 3) := by decide +kernel
theorem d_Lt_variablesFrom_17 : decode (cd m_Lt_variablesFrom) 17 = .ok (.iload_n 3, 1) := by decide +kernel
theorem d_Lt_variablesFrom_18 : decode (cd m_Lt_variablesFrom) 18 = .ok (.iaload, 1) := by decide +kernel
theorem d_Lt_variablesFrom_19 : decode (cd m_Lt_variablesFrom) 19 = .ok (.ior, 1) := by decide +kernel
theorem d_Lt_variablesFrom_20 : decode (cd m_Lt_variablesFrom) 20 = .ok (.istore_n 2, 1) := by decide +kernel
theorem d_Lt_variablesFrom_21 : decode (cd m_Lt_variablesFrom) 21 = .ok (.iinc 3 1, 3) := by decide +kernel
theorem d_Lt_variablesFrom_24 : decode (cd m_Lt_variablesFrom) 24 = .ok (.goto (-20), 3) := by decide +kernel
theorem d_Lt_variablesFrom_27 : decode (cd m_Lt_variablesFrom) 27 = .ok (.iload_n 2, 1) := by decide +kernel
theorem d_Lt_variablesFrom_28 : decode (cd m_Lt_variablesFrom) 28 = .ok (.ireturn, 1) := by decide +kernel
theorem d_Lt_canBeAsked_0 : decode (cd m_Lt_canBeAsked) 0 = .ok (.aload_n 0, 1) := by decide +kernel
theorem d_Lt_canBeAsked_1 : decode (cd m_Lt_canBeAsked) 1 = .ok (.getfield 29, 3) := by decide +kernel
theorem d_Lt_canBeAsked_4 : decode (cd m_Lt_canBeAsked) 4 = .ok (.ifCond .eq 35, 3) := by decide +kernel
theorem d_Lt_canBeAsked_7 : decode (cd m_Lt_canBeAsked) 7 = .ok (.aload_n 0, 1) := by decide +kernel
theorem d_Lt_canBeAsked_8 : decode (cd m_Lt_canBeAsked) 8 = .ok (.getfield 15, 3) := by decide +kernel
theorem d_Lt_canBeAsked_11 : decode (cd m_Lt_canBeAsked) 11 = .ok (.iconst 0, 1) := by decide +kernel
theorem d_Lt_canBeAsked_12 : decode (cd m_Lt_canBeAsked) 12 = .ok (.iaload, 1) := by decide +kernel
theorem d_Lt_canBeAsked_13 : decode (cd m_Lt_canBeAsked) 13 = .ok (.iload_n 1, 1) := by decide +kernel
theorem d_Lt_canBeAsked_14 : decode (cd m_Lt_canBeAsked) 14 = .ok (.iconst (-1), 1) := by decide +kernel
theorem d_Lt_canBeAsked_15 : decode (cd m_Lt_canBeAsked) 15 = .ok (.ixor, 1) := by decide +kernel
theorem d_Lt_canBeAsked_16 : decode (cd m_Lt_canBeAsked) 16 = .ok (.iand, 1) := by decide +kernel
theorem d_Lt_canBeAsked_17 : decode (cd m_Lt_canBeAsked) 17 = .ok (.ifCond .eq 16, 3) := by decide +kernel
theorem d_Lt_canBeAsked_20 : decode (cd m_Lt_canBeAsked) 20 = .ok (.aload_n 0, 1) := by decide +kernel
theorem d_Lt_canBeAsked_21 : decode (cd m_Lt_canBeAsked) 21 = .ok (.getfield 15, 3) := by decide +kernel
theorem d_Lt_canBeAsked_24 : decode (cd m_Lt_canBeAsked) 24 = .ok (.iconst 1, 1) := by decide +kernel
theorem d_Lt_canBeAsked_25 : decode (cd m_Lt_canBeAsked) 25 = .ok (.iaload, 1) := by decide +kernel
theorem d_Lt_canBeAsked_26 : decode (cd m_Lt_canBeAsked) 26 = .ok (.iload_n 1, 1) := by decide +kernel
theorem d_Lt_canBeAsked_27 : decode (cd m_Lt_canBeAsked) 27 = .ok (.iconst (-1), 1) := by decide +kernel
theorem d_Lt_canBeAsked_28 : decode (cd m_Lt_canBeAsked) 28 = .ok (.ixor, 1) := by decide +kernel
theorem d_Lt_canBeAsked_29 : decode (cd m_Lt_canBeAsked) 29 = .ok (.iand, 1) := by decide +kernel
theorem d_Lt_canBeAsked_30 : decode (cd m_Lt_canBeAsked) 30 = .ok (.ifCond .ne 7, 3) := by decide +kernel
theorem d_Lt_canBeAsked_33 : decode (cd m_Lt_canBeAsked) 33 = .ok (.iconst 1, 1) := by decide +kernel
theorem d_Lt_canBeAsked_34 : decode (cd m_Lt_canBeAsked) 34 = .ok (.goto 4, 3) := by decide +kernel
theorem d_Lt_canBeAsked_37 : decode (cd m_Lt_canBeAsked) 37 = .ok (.iconst 0, 1) := by decide +kernel
theorem d_Lt_canBeAsked_38 : decode (cd m_Lt_canBeAsked) 38 = .ok (.ireturn, 1) := by decide +kernel
theorem d_Lt_canBeAsked_39 : decode (cd m_Lt_canBeAsked) 39 = .ok (.aload_n 0, 1) := by decide +kernel
theorem d_Lt_canBeAsked_40 : decode (cd m_Lt_canBeAsked) 40 = .ok (.aload_n 0, 1) := by decide +kernel
theorem d_Lt_canBeAsked_41 : decode (cd m_Lt_canBeAsked) 41 = .ok (.getfield 19, 3) := by decide +kernel
theorem d_Lt_canBeAsked_44 : decode (cd m_Lt_canBeAsked) 44 = .ok (.iconst 3, 1) := by decide +kernel
theorem d_Lt_canBeAsked_45 : decode (cd m_Lt_canBeAsked) 45 = .ok (.if_icmp .ne 7, 3) := by decide +kernel
theorem d_Lt_canBeAsked_48 : decode (cd m_Lt_canBeAsked) 48 = .ok (.iconst 1, 1) := by decide +kernel
theorem d_Lt_canBeAsked_49 : decode (cd m_Lt_canBeAsked) 49 = .ok (.goto 4, 3) := by decide +kernel
theorem d_Lt_canBeAsked_52 : decode (cd m_Lt_canBeAsked) 52 = .ok (.iconst 0, 1) := by decide +kernel
theorem d_Lt_canBeAsked_53 : decode (cd m_Lt_canBeAsked) 53 = .ok (.invokevirtual 40, 3) := by decide +kernel
theorem d_Lt_canBeAsked_56 : decode (cd m_Lt_canBeAsked) 56 = .ok (.istore_n 2, 1) := by decide +kernel
theorem d_Lt_canBeAsked_57 : decode (cd m_Lt_canBeAsked) 57 = .ok (.iload_n 2, 1) := by decide +kernel
theorem d_Lt_canBeAsked_58 : decode (cd m_Lt_canBeAsked) 58 = .ok (.iload_n 1, 1) := by decide +kernel
theorem d_Lt_canBeAsked_59 : decode (cd m_Lt_canBeAsked) 59 = .ok (.iconst (-1), 1) := by decide +kernel
theorem d_Lt_canBeAsked_60 : decode (cd m_Lt_canBeAsked) 60 = .ok (.ixor, 1) := by decide +kernel
theorem d_Lt_canBeAsked_61 : decode (cd m_Lt_canBeAsked) 61 = .ok (.iand, 1) := by decide +kernel
theorem d_Lt_canBeAsked_62 : decode (cd m_Lt_canBeAsked) 62 = .ok (.ifCond .ne 7, 3) := by decide +kernel
theorem d_Lt_canBeAsked_65 : decode (cd m_Lt_canBeAsked) 65 = .ok (.iconst 1, 1) := by decide +kernel
theorem d_Lt_canBeAsked_66 : decode (cd m_Lt_canBeAsked) 66 = .ok (.goto 4, 3) := by decide +kernel
theorem d_Lt_canBeAsked_69 : decode (cd m_Lt_canBeAsked) 69 = .ok (.iconst 0, 1) := by decide +kernel
theorem d_Lt_canBeAsked_70 : decode (cd m_Lt_canBeAsked) 70 = .ok (.ireturn, 1) := by decide +kernel
theorem d_Lt_knownArguments_0 : decode (cd m_Lt_knownArguments) 0 = .ok (.iconst 0, 1) := by decide +kernel
theorem d_Lt_knownArguments_1 : decode (cd m_Lt_knownArguments) 1 = .ok (.istore_n 2, 1) := by decide +kernel
theorem d_Lt_knownArguments_2 : decode (cd m_Lt_knownArguments) 2 = .ok (.iconst 0, 1) := by decide +kernel
theorem d_Lt_knownArguments_3 : decode (cd m_Lt_knownArguments) 3 = .ok (.istore_n 3, 1) := by decide +kernel
theorem d_Lt_knownArguments_4 : decode (cd m_Lt_knownArguments) 4 = .ok (.iload_n 3, 1) := by decide +kernel
theorem d_Lt_knownArguments_5 : decode (cd m_Lt_knownArguments) 5 = .ok (.aload_n 0, 1) := by decide +kernel
theorem d_Lt_knownArguments_6 : decode (cd m_Lt_knownArguments) 6 = .ok (.getfield 33, 3) := by decide +kernel
theorem d_Lt_knownArguments_9 : decode (cd m_Lt_knownArguments) 9 = .ok (.if_icmp .ge 41, 3) := by decide +kernel
theorem d_Lt_knownArguments_12 : decode (cd m_Lt_knownArguments) 12 = .ok (.aload_n 0, 1) := by decide +kernel
theorem d_Lt_knownArguments_13 : decode (cd m_Lt_knownArguments) 13 = .ok (.getfield 9, 3) := by decide +kernel
theorem d_Lt_knownArguments_16 : decode (cd m_Lt_knownArguments) 16 = .ok (.iload_n 3, 1) := by decide +kernel
theorem d_Lt_knownArguments_17 : decode (cd m_Lt_knownArguments) 17 = .ok (.laload, 1) := by decide +kernel
theorem d_Lt_knownArguments_18 : decode (cd m_Lt_knownArguments) 18 = .ok (.ldc2_w 38, 3) := by decide +kernel
theorem d_Lt_knownArguments_21 : decode (cd m_Lt_knownArguments) 21 = .ok (.lcmp, 1) := by decide +kernel
theorem d_Lt_knownArguments_22 : decode (cd m_Lt_knownArguments) 22 = .ok (.ifCond .eq 22, 3) := by decide +kernel
theorem d_Lt_knownArguments_25 : decode (cd m_Lt_knownArguments) 25 = .ok (.aload_n 0, 1) := by decide +kernel
theorem d_Lt_knownArguments_26 : decode (cd m_Lt_knownArguments) 26 = .ok (.getfield 15, 3) := by decide +kernel
theorem d_Lt_knownArguments_29 : decode (cd m_Lt_knownArguments) 29 = .ok (.iload_n 3, 1) := by decide +kernel
theorem d_Lt_knownArguments_30 : decode (cd m_Lt_knownArguments) 30 = .ok (.iaload, 1) := by decide +kernel
theorem d_Lt_knownArguments_31 : decode (cd m_Lt_knownArguments) 31 = .ok (.iload_n 1, 1) := by decide +kernel
theorem d_Lt_knownArguments_32 : decode (cd m_Lt_knownArguments) 32 = .ok (.iconst (-1), 1) := by decide +kernel
theorem d_Lt_knownArguments_33 : decode (cd m_Lt_knownArguments) 33 = .ok (.ixor, 1) := by decide +kernel
theorem d_Lt_knownArguments_34 : decode (cd m_Lt_knownArguments) 34 = .ok (.iand, 1) := by decide +kernel
theorem d_Lt_knownArguments_35 : decode (cd m_Lt_knownArguments) 35 = .ok (.ifCond .ne 9, 3) := by decide +kernel
theorem d_Lt_knownArguments_38 : decode (cd m_Lt_knownArguments) 38 = .ok (.iload_n 2, 1) := by decide +kernel
theorem d_Lt_knownArguments_39 : decode (cd m_Lt_knownArguments) 39 = .ok (.iconst 1, 1) := by decide +kernel
theorem d_Lt_knownArguments_40 : decode (cd m_Lt_knownArguments) 40 = .ok (.iload_n 3, 1) := by decide +kernel
theorem d_Lt_knownArguments_41 : decode (cd m_Lt_knownArguments) 41 = .ok (.ishl, 1) := by decide +kernel
theorem d_Lt_knownArguments_42 : decode (cd m_Lt_knownArguments) 42 = .ok (.ior, 1) := by decide +kernel
theorem d_Lt_knownArguments_43 : decode (cd m_Lt_knownArguments) 43 = .ok (.istore_n 2, 1) := by decide +kernel
theorem d_Lt_knownArguments_44 : decode (cd m_Lt_knownArguments) 44 = .ok (.iinc 3 1, 3) := by decide +kernel
theorem d_Lt_knownArguments_47 : decode (cd m_Lt_knownArguments) 47 = .ok (.goto (-43), 3) := by decide +kernel
theorem d_Lt_knownArguments_50 : decode (cd m_Lt_knownArguments) 50 = .ok (.iload_n 2, 1) := by decide +kernel
theorem d_Lt_knownArguments_51 : decode (cd m_Lt_knownArguments) 51 = .ok (.ireturn, 1) := by decide +kernel

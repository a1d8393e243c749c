/-! decode rows (by program) -/
theorem d_M_oneToken_497 : decode (cd m_M_oneToken) 497 = .ok (.iload 7, 2) := by decide +kernel
theorem d_M_oneToken_499 : decode (cd m_M_oneToken) 499 = .ok (.goto 4, 3) := by decide +kernel
theorem d_M_oneToken_502 : decode (cd m_M_oneToken) 502 = .ok (.iload_n 2, 1) := by decide +kernel
theorem d_M_oneToken_503 : decode (cd m_M_oneToken) 503 = .ok (.iload_n 1, 1) := by decide +kernel
theorem d_M_oneToken_504 : decode (cd m_M_oneToken) 504 = .ok (.lconst 0, 1) := by decide +kernel
theorem d_M_oneToken_505 : decode (cd m_M_oneToken) 505 = .ok (.invokevirtual 156, 3) := by decide +kernel
theorem d_M_oneToken_508 : decode (cd m_M_oneToken) 508 = .ok (.iload_n 3, 1) := by decide +kernel
theorem d_M_oneToken_509 : decode (cd m_M_oneToken) 509 = .ok (.iload 7, 2) := by decide +kernel
theorem d_M_oneToken_511 : decode (cd m_M_oneToken) 511 = .ok (.ifCond .le 7, 3) := by decide +kernel
theorem d_M_oneToken_514 : decode (cd m_M_oneToken) 514 = .ok (.iconst 1, 1) := by decide +kernel
theorem d_M_oneToken_515 : decode (cd m_M_oneToken) 515 = .ok (.goto 4, 3) := by decide +kernel
theorem d_M_oneToken_518 : decode (cd m_M_oneToken) 518 = .ok (.iconst 0, 1) := by decide +kernel
theorem d_M_oneToken_519 : decode (cd m_M_oneToken) 519 = .ok (.iadd, 1) := by decide +kernel
theorem d_M_oneToken_520 : decode (cd m_M_oneToken) 520 = .ok (.istore_n 3, 1) := by decide +kernel
theorem d_M_oneToken_521 : decode (cd m_M_oneToken) 521 = .ok (.iload_n 3, 1) := by decide +kernel
theorem d_M_oneToken_522 : decode (cd m_M_oneToken) 522 = .ok (.ireturn, 1) := by decide +kernel
theorem d_M_wrong_0 : decode (cd m_M_wrong) 0 = .ok (.aload_n 0, 1) := by decide +kernel
theorem d_M_wrong_1 : decode (cd m_M_wrong) 1 = .ok (.getfield 174, 3) := by decide +kernel
theorem d_M_wrong_4 : decode (cd m_M_wrong) 4 = .ok (.iconst 1, 1) := by decide +kernel
theorem d_M_wrong_5 : decode (cd m_M_wrong) 5 = .ok (.if_icmp .eq 13, 3) := by decide +kernel
theorem d_M_wrong_8 : decode (cd m_M_wrong) 8 = .ok (.aload_n 0, 1) := by decide +kernel
theorem d_M_wrong_9 : decode (cd m_M_wrong) 9 = .ok (.iconst 1, 1) := by decide +kernel
theorem d_M_wrong_10 : decode (cd m_M_wrong) 10 = .ok (.putfield 174, 3) := by decide +kernel
theorem d_M_wrong_13 : decode (cd m_M_wrong) 13 = .ok (.aload_n 0, 1) := by decide +kernel
theorem d_M_wrong_14 : decode (cd m_M_wrong) 14 = .ok (.iload_n 1, 1) := by decide +kernel
theorem d_M_wrong_15 : decode (cd m_M_wrong) 15 = .ok (.putfield 177, 3) := by decide +kernel
theorem d_M_wrong_18 : decode (cd m_M_wrong) 18 = .ok (.iconst 0, 1) := by decide +kernel
theorem d_M_wrong_19 : decode (cd m_M_wrong) 19 = .ok (.ireturn, 1) := by decide +kernel
theorem d_M_refuse_0 : decode (cd m_M_refuse) 0 = .ok (.aload_n 0, 1) := by decide +kernel
theorem d_M_refuse_1 : decode (cd m_M_refuse) 1 = .ok (.aload_n 0, 1) := by decide +kernel
theorem d_M_refuse_2 : decode (cd m_M_refuse) 2 = .ok (.getfield 16, 3) := by decide +kernel
theorem d_M_refuse_5 : decode (cd m_M_refuse) 5 = .ok (.aload_n 0, 1) := by decide +kernel
theorem d_M_refuse_6 : decode (cd m_M_refuse) 6 = .ok (.getfield 180, 3) := by decide +kernel
theorem d_M_refuse_9 : decode (cd m_M_refuse) 9 = .ok (.iaload, 1) := by decide +kernel
theorem d_M_refuse_10 : decode (cd m_M_refuse) 10 = .ok (.invokevirtual 183, 3) := by decide +kernel
theorem d_M_refuse_13 : decode (cd m_M_refuse) 13 = .ok (.ireturn, 1) := by decide +kernel
theorem d_M_isSign_0 : decode (cd m_M_isSign) 0 = .ok (.aload_n 0, 1) := by decide +kernel
theorem d_M_isSign_1 : decode (cd m_M_isSign) 1 = .ok (.getfield 13, 3) := by decide +kernel
theorem d_M_isSign_4 : decode (cd m_M_isSign) 4 = .ok (.aload_n 0, 1) := by decide +kernel
theorem d_M_isSign_5 : decode (cd m_M_isSign) 5 = .ok (.getfield 180, 3) := by decide +kernel
theorem d_M_isSign_8 : decode (cd m_M_isSign) 8 = .ok (.iaload, 1) := by decide +kernel
theorem d_M_isSign_9 : decode (cd m_M_isSign) 9 = .ok (.iconst 4, 1) := by decide +kernel
theorem d_M_isSign_10 : decode (cd m_M_isSign) 10 = .ok (.if_icmp .ne 20, 3) := by decide +kernel
theorem d_M_isSign_13 : decode (cd m_M_isSign) 13 = .ok (.aload_n 0, 1) := by decide +kernel
theorem d_M_isSign_14 : decode (cd m_M_isSign) 14 = .ok (.getfield 19, 3) := by decide +kernel
theorem d_M_isSign_17 : decode (cd m_M_isSign) 17 = .ok (.aload_n 0, 1) := by decide +kernel
theorem d_M_isSign_18 : decode (cd m_M_isSign) 18 = .ok (.getfield 180, 3) := by decide +kernel
theorem d_M_isSign_21 : decode (cd m_M_isSign) 21 = .ok (.iaload, 1) := by decide +kernel
theorem d_M_isSign_22 : decode (cd m_M_isSign) 22 = .ok (.iload_n 1, 1) := by decide +kernel
theorem d_M_isSign_23 : decode (cd m_M_isSign) 23 = .ok (.if_icmp .ne 7, 3) := by decide +kernel
theorem d_M_isSign_26 : decode (cd m_M_isSign) 26 = .ok (.iconst 1, 1) := by decide +kernel
theorem d_M_isSign_27 : decode (cd m_M_isSign) 27 = .ok (.goto 4, 3) := by decide +kernel
theorem d_M_isSign_30 : decode (cd m_M_isSign) 30 = .ok (.iconst 0, 1) := by decide +kernel
theorem d_M_isSign_31 : decode (cd m_M_isSign) 31 = .ok (.ireturn, 1) := by decide +kernel
theorem d_M_takes_0 : decode (cd m_M_takes) 0 = .ok (.aload_n 0, 1) := by decide +kernel
theorem d_M_takes_1 : decode (cd m_M_takes) 1 = .ok (.iload_n 1, 1) := by decide +kernel
theorem d_M_takes_2 : decode (cd m_M_takes) 2 = .ok (.invokevirtual 186, 3) := by decide +kernel
theorem d_M_takes_5 : decode (cd m_M_takes) 5 = .ok (.ifCond .ne 5, 3) := by decide +kernel
theorem d_M_takes_8 : decode (cd m_M_takes) 8 = .ok (.iconst 0, 1) := by decide +kernel
theorem d_M_takes_9 : decode (cd m_M_takes) 9 = .ok (.ireturn, 1) := by decide +kernel
theorem d_M_takes_10 : decode (cd m_M_takes) 10 = .ok (.aload_n 0, 1) := by decide +kernel
theorem d_M_takes_11 : decode (cd m_M_takes) 11 = .ok (.dup, 1) := by decide +kernel
theorem d_M_takes_12 : decode (cd m_M_takes) 12 = .ok (.getfield 180, 3) := by decide +kernel
theorem d_M_takes_15 : decode (cd m_M_takes) 15 = .ok (.iconst 1, 1) := by decide +kernel
theorem d_M_takes_16 : decode (cd m_M_takes) 16 = .ok (.iadd, 1) := by decide +kernel
theorem d_M_takes_17 : decode (cd m_M_takes) 17 = .ok (.putfield 180, 3) := by decide +kernel
theorem d_M_takes_20 : decode (cd m_M_takes) 20 = .ok (.iconst 1, 1) := by decide +kernel
theorem d_M_takes_21 : decode (cd m_M_takes) 21 = .ok (.ireturn, 1) := by decide +kernel
theorem d_M_want_0 : decode (cd m_M_want) 0 = .ok (.aload_n 0, 1) := by decide +kernel
theorem d_M_want_1 : decode (cd m_M_want) 1 = .ok (.iload_n 1, 1) := by decide +kernel
theorem d_M_want_2 : decode (cd m_M_want) 2 = .ok (.invokevirtual 189, 3) := by decide +kernel
theorem d_M_want_5 : decode (cd m_M_want) 5 = .ok (.ifCond .ne 10, 3) := by decide +kernel
theorem d_M_want_8 : decode (cd m_M_want) 8 = .ok (.aload_n 0, 1) := by decide +kernel
theorem d_M_want_9 : decode (cd m_M_want) 9 = .ok (.invokevirtual 192, 3) := by decide +kernel
theorem d_M_want_12 : decode (cd m_M_want) 12 = .ok (.ifCond .eq 7, 3) := by decide +kernel
theorem d_M_want_15 : decode (cd m_M_want) 15 = .ok (.iconst 1, 1) := by decide +kernel
theorem d_M_want_16 : decode (cd m_M_want) 16 = .ok (.goto 4, 3) := by decide +kernel
theorem d_M_want_19 : decode (cd m_M_want) 19 = .ok (.iconst 0, 1) := by decide +kernel
theorem d_M_want_20 : decode (cd m_M_want) 20 = .ok (.ireturn, 1) := by decide +kernel
theorem d_M_note_0 : decode (cd m_M_note) 0 = .ok (.aload_n 0, 1) := by decide +kernel
theorem d_M_note_1 : decode (cd m_M_note) 1 = .ok (.getfield 174, 3) := by decide +kernel
theorem d_M_note_4 : decode (cd m_M_note) 4 = .ok (.iconst 1, 1) := by decide +kernel
theorem d_M_note_5 : decode (cd m_M_note) 5 = .ok (.if_icmp .eq 18, 3) := by decide +kernel
theorem d_M_note_8 : decode (cd m_M_note) 8 = .ok (.aload_n 0, 1) := by decide +kernel
theorem d_M_note_9 : decode (cd m_M_note) 9 = .ok (.getfield 174, 3) := by decide +kernel
theorem d_M_note_12 : decode (cd m_M_note) 12 = .ok (.ifCond .eq 12, 3) := by decide +kernel
theorem d_M_note_15 : decode (cd m_M_note) 15 = .ok (.aload_n 0, 1) := by decide +kernel
theorem d_M_note_16 : decode (cd m_M_note) 16 = .ok (.getfield 177, 3) := by decide +kernel
theorem d_M_note_19 : decode (cd m_M_note) 19 = .ok (.iload_n 2, 1) := by decide +kernel
theorem d_M_note_20 : decode (cd m_M_note) 20 = .ok (.if_icmp .gt 4, 3) := by decide +kernel
theorem d_M_note_23 : decode (cd m_M_note) 23 = .ok (.return_, 1) := by decide +kernel
theorem d_M_note_24 : decode (cd m_M_note) 24 = .ok (.aload_n 0, 1) := by decide +kernel
theorem d_M_note_25 : decode (cd m_M_note) 25 = .ok (.iload_n 1, 1) := by decide +kernel
theorem d_M_note_26 : decode (cd m_M_note) 26 = .ok (.putfield 174, 3) := by decide +kernel
theorem d_M_note_29 : decode (cd m_M_note) 29 = .ok (.aload_n 0, 1) := by decide +kernel
theorem d_M_note_30 : decode (cd m_M_note) 30 = .ok (.iload_n 2, 1) := by decide +kernel
theorem d_M_note_31 : decode (cd m_M_note) 31 = .ok (.putfield 177, 3) := by decide +kernel
theorem d_M_note_34 : decode (cd m_M_note) 34 = .ok (.return_, 1) := by decide +kernel
theorem d_M_readVariable_0 : decode (cd m_M_readVariable) 0 = .ok (.iconst 0, 1) := by decide +kernel
theorem d_M_readVariable_1 : decode (cd m_M_readVariable) 1 = .ok (.istore_n 1, 1) := by decide +kernel
theorem d_M_readVariable_2 : decode (cd m_M_readVariable) 2 = .ok (.iload_n 1, 1) := by decide +kernel
theorem d_M_readVariable_3 : decode (cd m_M_readVariable) 3 = .ok (.aload_n 0, 1) := by decide +kernel
theorem d_M_readVariable_4 : decode (cd m_M_readVariable) 4 = .ok (.getfield 59, 3) := by decide +kernel
theorem d_M_readVariable_7 : decode (cd m_M_readVariable) 7 = .ok (.aload_n 0, 1) := by decide +kernel
theorem d_M_readVariable_8 : decode (cd m_M_readVariable) 8 = .ok (.getfield 196, 3) := by decide +kernel
theorem d_M_readVariable_11 : decode (cd m_M_readVariable) 11 = .ok (.iaload, 1) := by decide +kernel
theorem d_M_readVariable_12 : decode (cd m_M_readVariable) 12 = .ok (.if_icmp .ge 28, 3) := by decide +kernel
theorem d_M_readVariable_15 : decode (cd m_M_readVariable) 15 = .ok (.aload_n 0, 1) := by decide +kernel
theorem d_M_readVariable_16 : decode (cd m_M_readVariable) 16 = .ok (.getfield 83, 3) := by decide +kernel
theorem d_M_readVariable_19 : decode (cd m_M_readVariable) 19 = .ok (.iload_n 1, 1) := by decide +kernel
theorem d_M_readVariable_20 : decode (cd m_M_readVariable) 20 = .ok (.laload, 1) := by decide +kernel
theorem d_M_readVariable_21 : decode (cd m_M_readVariable) 21 = .ok (.aload_n 0, 1) := by decide +kernel
theorem d_M_readVariable_22 : decode (cd m_M_readVariable) 22 = .ok (.getfield 22, 3) := by decide +kernel
theorem d_M_readVariable_25 : decode (cd m_M_readVariable) 25 = .ok (.aload_n 0, 1) := by decide +kernel
theorem d_M_readVariable_26 : decode (cd m_M_readVariable) 26 = .ok (.getfield 180, 3) := by decide +kernel
theorem d_M_readVariable_29 : decode (cd m_M_readVariable) 29 = .ok (.laload, 1) := by decide +kernel
theorem d_M_readVariable_30 : decode (cd m_M_readVariable) 30 = .ok (.lcmp, 1) := by decide +kernel
theorem d_M_readVariable_31 : decode (cd m_M_readVariable) 31 = .ok (.ifCond .eq 9, 3) := by decide +kernel
theorem d_M_readVariable_34 : decode (cd m_M_readVariable) 34 = .ok (.iinc 1 1, 3) := by decide +kernel
theorem d_M_readVariable_37 : decode (cd m_M_readVariable) 37 = .ok (.goto (-35), 3) := by decide +kernel
theorem d_M_readVariable_40 : decode (cd m_M_readVariable) 40 = .ok (.iload_n 1, 1) := by decide +kernel
theorem d_M_readVariable_41 : decode (cd m_M_readVariable) 41 = .ok (.aload_n 0, 1) := by decide +kernel
theorem d_M_readVariable_42 : decode (cd m_M_readVariable) 42 = .ok (.getfield 59, 3) := by decide +kernel
theorem d_M_readVariable_45 : decode (cd m_M_readVariable) 45 = .ok (.aload_n 0, 1) := by decide +kernel
theorem d_M_readVariable_46 : decode (cd m_M_readVariable) 46 = .ok (.getfield 196, 3) := by decide +kernel
theorem d_M_readVariable_49 : decode (cd m_M_readVariable) 49 = .ok (.iaload, 1) := by decide +kernel
theorem d_M_readVariable_50 : decode (cd m_M_readVariable) 50 = .ok (.if_icmp .ne 57, 3) := by decide +kernel
theorem d_M_readVariable_53 : decode (cd m_M_readVariable) 53 = .ok (.iload_n 1, 1) := by decide +kernel
theorem d_M_readVariable_54 : decode (cd m_M_readVariable) 54 = .ok (.bipush 8, 2) := by decide +kernel
theorem d_M_readVariable_56 : decode (cd m_M_readVariable) 56 = .ok (.if_icmp .ne 8, 3) := by decide +kernel
theorem d_M_readVariable_59 : decode (cd m_M_readVariable) 59 = .ok (.aload_n 0, 1) := by decide +kernel
theorem d_M_readVariable_60 : decode (cd m_M_readVariable) 60 = .ok (.invokevirtual 192, 3) := by decide +kernel
theorem d_M_readVariable_63 : decode (cd m_M_readVariable) 63 = .ok (.ireturn, 1) := by decide +kernel
theorem d_M_readVariable_64 : decode (cd m_M_readVariable) 64 = .ok (.aload_n 0, 1) := by decide +kernel
theorem d_M_readVariable_65 : decode (cd m_M_readVariable) 65 = .ok (.getfield 83, 3) := by decide +kernel
theorem d_M_readVariable_68 : decode (cd m_M_readVariable) 68 = .ok (.iload_n 1, 1) := by decide +kernel
theorem d_M_readVariable_69 : decode (cd m_M_readVariable) 69 = .ok (.aload_n 0, 1) := by decide +kernel
theorem d_M_readVariable_70 : decode (cd m_M_readVariable) 70 = .ok (.getfield 22, 3) := by decide +kernel
theorem d_M_readVariable_73 : decode (cd m_M_readVariable) 73 = .ok (.aload_n 0, 1) := by decide +kernel
theorem d_M_readVariable_74 : decode (cd m_M_readVariable) 74 = .ok (.getfield 180, 3) := by decide +kernel
theorem d_M_readVariable_77 : decode (cd m_M_readVariable) 77 = .ok (.laload, 1) := by decide +kernel
theorem d_M_readVariable_78 : decode (cd m_M_readVariable) 78 = .ok (.lastore, 1) := by decide +kernel
theorem d_M_readVariable_79 : decode (cd m_M_readVariable) 79 = .ok (.aload_n 0, 1) := by decide +kernel
theorem d_M_readVariable_80 : decode (cd m_M_readVariable) 80 = .ok (.getfield 86, 3) := by decide +kernel
theorem d_M_readVariable_83 : decode (cd m_M_readVariable) 83 = .ok (.iload_n 1, 1) := by decide +kernel
theorem d_M_readVariable_84 : decode (cd m_M_readVariable) 84 = .ok (.aload_n 0, 1) := by decide +kernel
theorem d_M_readVariable_85 : decode (cd m_M_readVariable) 85 = .ok (.getfield 16, 3) := by decide +kernel
theorem d_M_readVariable_88 : decode (cd m_M_readVariable) 88 = .ok (.aload_n 0, 1) := by decide +kernel
theorem d_M_readVariable_89 : decode (cd m_M_readVariable) 89 = .ok (.getfield 180, 3) := by decide +kernel
theorem d_M_readVariable_92 : decode (cd m_M_readVariable) 92 = .ok (.iaload, 1) := by decide +kernel
theorem d_M_readVariable_93 : decode (cd m_M_readVariable) 93 = .ok (.iastore, 1) := by decide +kernel
theorem d_M_readVariable_94 : decode (cd m_M_readVariable) 94 = .ok (.aload_n 0, 1) := by decide +kernel
theorem d_M_readVariable_95 : decode (cd m_M_readVariable) 95 = .ok (.getfield 59, 3) := by decide +kernel
theorem d_M_readVariable_98 : decode (cd m_M_readVariable) 98 = .ok (.aload_n 0, 1) := by decide +kernel
theorem d_M_readVariable_99 : decode (cd m_M_readVariable) 99 = .ok (.getfield 196, 3) := by decide +kernel
theorem d_M_readVariable_102 : decode (cd m_M_readVariable) 102 = .ok (.dup2, 1) := by decide +kernel
theorem d_M_readVariable_103 : decode (cd m_M_readVariable) 103 = .ok (.iaload, 1) := by decide +kernel
theorem d_M_readVariable_104 : decode (cd m_M_readVariable) 104 = .ok (.iconst 1, 1) := by decide +kernel
theorem d_M_readVariable_105 : decode (cd m_M_readVariable) 105 = .ok (.iadd, 1) := by decide +kernel
theorem d_M_readVariable_106 : decode (cd m_M_readVariable) 106 = .ok (.iastore, 1) := by decide +kernel
theorem d_M_readVariable_107 : decode (cd m_M_readVariable) 107 = .ok (.aload_n 0, 1) := by decide +kernel
theorem d_M_readVariable_108 : decode (cd m_M_readVariable) 108 = .ok (.iconst 1, 1) := by decide +kernel
theorem d_M_readVariable_109 : decode (cd m_M_readVariable) 109 = .ok (.putfield 199, 3) := by decide +kernel
theorem d_M_readVariable_112 : decode (cd m_M_readVariable) 112 = .ok (.aload_n 0, 1) := by decide +kernel
theorem d_M_readVariable_113 : decode (cd m_M_readVariable) 113 = .ok (.iload_n 1, 1) := by decide +kernel
theorem d_M_readVariable_114 : decode (cd m_M_readVariable) 114 = .ok (.i2l, 1) := by decide +kernel
theorem d_M_readVariable_115 : decode (cd m_M_readVariable) 115 = .ok (.putfield 202, 3) := by decide +kernel
theorem d_M_readVariable_118 : decode (cd m_M_readVariable) 118 = .ok (.aload_n 0, 1) := by decide +kernel
theorem d_M_readVariable_119 : decode (cd m_M_readVariable) 119 = .ok (.dup, 1) := by decide +kernel
theorem d_M_readVariable_120 : decode (cd m_M_readVariable) 120 = .ok (.getfield 180, 3) := by decide +kernel
theorem d_M_readVariable_123 : decode (cd m_M_readVariable) 123 = .ok (.iconst 1, 1) := by decide +kernel
theorem d_M_readVariable_124 : decode (cd m_M_readVariable) 124 = .ok (.iadd, 1) := by decide +kernel
theorem d_M_readVariable_125 : decode (cd m_M_readVariable) 125 = .ok (.putfield 180, 3) := by decide +kernel
theorem d_M_readVariable_128 : decode (cd m_M_readVariable) 128 = .ok (.iconst 1, 1) := by decide +kernel
theorem d_M_readVariable_129 : decode (cd m_M_readVariable) 129 = .ok (.ireturn, 1) := by decide +kernel
theorem d_M_readTerm_0 : decode (cd m_M_readTerm) 0 = .ok (.aload_n 0, 1) := by decide +kernel
theorem d_M_readTerm_1 : decode (cd m_M_readTerm) 1 = .ok (.getfield 13, 3) := by decide +kernel
theorem d_M_readTerm_4 : decode (cd m_M_readTerm) 4 = .ok (.aload_n 0, 1) := by decide +kernel
theorem d_M_readTerm_5 : decode (cd m_M_readTerm) 5 = .ok (.getfield 180, 3) := by decide +kernel
theorem d_M_readTerm_8 : decode (cd m_M_readTerm) 8 = .ok (.iaload, 1) := by decide +kernel
theorem d_M_readTerm_9 : decode (cd m_M_readTerm) 9 = .ok (.iconst 2, 1) := by decide +kernel
theorem d_M_readTerm_10 : decode (cd m_M_readTerm) 10 = .ok (.if_icmp .ne 8, 3) := by decide +kernel
theorem d_M_readTerm_13 : decode (cd m_M_readTerm) 13 = .ok (.aload_n 0, 1) := by decide +kernel
theorem d_M_readTerm_14 : decode (cd m_M_readTerm) 14 = .ok (.invokevirtual 206, 3) := by decide +kernel
theorem d_M_readTerm_17 : decode (cd m_M_readTerm) 17 = .ok (.ireturn, 1) := by decide +kernel
theorem d_M_readTerm_18 : decode (cd m_M_readTerm) 18 = .ok (.aload_n 0, 1) := by decide +kernel
theorem d_M_readTerm_19 : decode (cd m_M_readTerm) 19 = .ok (.iconst 0, 1) := by decide +kernel
theorem d_M_readTerm_20 : decode (cd m_M_readTerm) 20 = .ok (.putfield 199, 3) := by decide +kernel
theorem d_M_readTerm_23 : decode (cd m_M_readTerm) 23 = .ok (.aload_n 0, 1) := by decide +kernel
theorem d_M_readTerm_24 : decode (cd m_M_readTerm) 24 = .ok (.getfield 13, 3) := by decide +kernel
theorem d_M_readTerm_27 : decode (cd m_M_readTerm) 27 = .ok (.aload_n 0, 1) := by decide +kernel
theorem d_M_readTerm_28 : decode (cd m_M_readTerm) 28 = .ok (.getfield 180, 3) := by decide +kernel
theorem d_M_readTerm_31 : decode (cd m_M_readTerm) 31 = .ok (.iaload, 1) := by decide +kernel
theorem d_M_readTerm_32 : decode (cd m_M_readTerm) 32 = .ok (.iconst 1, 1) := by decide +kernel
theorem d_M_readTerm_33 : decode (cd m_M_readTerm) 33 = .ok (.if_icmp .ne 32, 3) := by decide +kernel
theorem d_M_readTerm_36 : decode (cd m_M_readTerm) 36 = .ok (.aload_n 0, 1) := by decide +kernel
theorem d_M_readTerm_37 : decode (cd m_M_readTerm) 37 = .ok (.aload_n 0, 1) := by decide +kernel
theorem d_M_readTerm_38 : decode (cd m_M_readTerm) 38 = .ok (.getfield 22, 3) := by decide +kernel
theorem d_M_readTerm_41 : decode (cd m_M_readTerm) 41 = .ok (.aload_n 0, 1) := by decide +kernel
theorem d_M_readTerm_42 : decode (cd m_M_readTerm) 42 = .ok (.getfield 180, 3) := by decide +kernel
theorem d_M_readTerm_45 : decode (cd m_M_readTerm) 45 = .ok (.laload, 1) := by decide +kernel
theorem d_M_readTerm_46 : decode (cd m_M_readTerm) 46 = .ok (.ldc2_w 209, 3) := by decide +kernel
theorem d_M_readTerm_49 : decode (cd m_M_readTerm) 49 = .ok (.lor, 1) := by decide +kernel
theorem d_M_readTerm_50 : decode (cd m_M_readTerm) 50 = .ok (.putfield 202, 3) := by decide +kernel
theorem d_M_readTerm_53 : decode (cd m_M_readTerm) 53 = .ok (.aload_n 0, 1) := by decide +kernel
theorem d_M_readTerm_54 : decode (cd m_M_readTerm) 54 = .ok (.dup, 1) := by decide +kernel
theorem d_M_readTerm_55 : decode (cd m_M_readTerm) 55 = .ok (.getfield 180, 3) := by decide +kernel
theorem d_M_readTerm_58 : decode (cd m_M_readTerm) 58 = .ok (.iconst 1, 1) := by decide +kernel
theorem d_M_readTerm_59 : decode (cd m_M_readTerm) 59 = .ok (.iadd, 1) := by decide +kernel
theorem d_M_readTerm_60 : decode (cd m_M_readTerm) 60 = .ok (.putfield 180, 3) := by decide +kernel
theorem d_M_readTerm_63 : decode (cd m_M_readTerm) 63 = .ok (.iconst 1, 1) := by decide +kernel
theorem d_M_readTerm_64 : decode (cd m_M_readTerm) 64 = .ok (.ireturn, 1) := by decide +kernel
theorem d_M_readTerm_65 : decode (cd m_M_readTerm) 65 = .ok (.aload_n 0, 1) := by decide +kernel
theorem d_M_readTerm_66 : decode (cd m_M_readTerm) 66 = .ok (.bipush 45, 2) := by decide +kernel
theorem d_M_readTerm_68 : decode (cd m_M_readTerm) 68 = .ok (.invokevirtual 189, 3) := by decide +kernel
theorem d_M_readTerm_71 : decode (cd m_M_readTerm) 71 = .ok (.istore_n 1, 1) := by decide +kernel
theorem d_M_readTerm_72 : decode (cd m_M_readTerm) 72 = .ok (.aload_n 0, 1) := by decide +kernel
theorem d_M_readTerm_73 : decode (cd m_M_readTerm) 73 = .ok (.getfield 13, 3) := by decide +kernel
theorem d_M_readTerm_76 : decode (cd m_M_readTerm) 76 = .ok (.aload_n 0, 1) := by decide +kernel
theorem d_M_readTerm_77 : decode (cd m_M_readTerm) 77 = .ok (.getfield 180, 3) := by decide +kernel
theorem d_M_readTerm_80 : decode (cd m_M_readTerm) 80 = .ok (.iaload, 1) := by decide +kernel
theorem d_M_readTerm_81 : decode (cd m_M_readTerm) 81 = .ok (.iconst 3, 1) := by decide +kernel
theorem d_M_readTerm_82 : decode (cd m_M_readTerm) 82 = .ok (.if_icmp .eq 8, 3) := by decide +kernel
theorem d_M_readTerm_85 : decode (cd m_M_readTerm) 85 = .ok (.aload_n 0, 1) := by decide +kernel
theorem d_M_readTerm_86 : decode (cd m_M_readTerm) 86 = .ok (.invokevirtual 192, 3) := by decide +kernel
theorem d_M_readTerm_89 : decode (cd m_M_readTerm) 89 = .ok (.ireturn, 1) := by decide +kernel
theorem d_M_readTerm_90 : decode (cd m_M_readTerm) 90 = .ok (.aload_n 0, 1) := by decide +kernel
theorem d_M_readTerm_91 : decode (cd m_M_readTerm) 91 = .ok (.iload_n 1, 1) := by decide +kernel
theorem d_M_readTerm_92 : decode (cd m_M_readTerm) 92 = .ok (.ifCond .eq 16, 3) := by decide +kernel
theorem d_M_readTerm_95 : decode (cd m_M_readTerm) 95 = .ok (.aload_n 0, 1) := by decide +kernel
theorem d_M_readTerm_96 : decode (cd m_M_readTerm) 96 = .ok (.getfield 22, 3) := by decide +kernel
theorem d_M_readTerm_99 : decode (cd m_M_readTerm) 99 = .ok (.aload_n 0, 1) := by decide +kernel
theorem d_M_readTerm_100 : decode (cd m_M_readTerm) 100 = .ok (.getfield 180, 3) := by decide +kernel
theorem d_M_readTerm_103 : decode (cd m_M_readTerm) 103 = .ok (.laload, 1) := by decide +kernel
theorem d_M_readTerm_104 : decode (cd m_M_readTerm) 104 = .ok (.lneg, 1) := by decide +kernel
theorem d_M_readTerm_105 : decode (cd m_M_readTerm) 105 = .ok (.goto 12, 3) := by decide +kernel
theorem d_M_readTerm_108 : decode (cd m_M_readTerm) 108 = .ok (.aload_n 0, 1) := by decide +kernel
theorem d_M_readTerm_109 : decode (cd m_M_readTerm) 109 = .ok (.getfield 22, 3) := by decide +kernel
theorem d_M_readTerm_112 : decode (cd m_M_readTerm) 112 = .ok (.aload_n 0, 1) := by decide +kernel
theorem d_M_readTerm_113 : decode (cd m_M_readTerm) 113 = .ok (.getfield 180, 3) := by decide +kernel
theorem d_M_readTerm_116 : decode (cd m_M_readTerm) 116 = .ok (.laload, 1) := by decide +kernel
theorem d_M_readTerm_117 : decode (cd m_M_readTerm) 117 = .ok (.putfield 202, 3) := by decide +kernel
theorem d_M_readTerm_120 : decode (cd m_M_readTerm) 120 = .ok (.aload_n 0, 1) := by decide +kernel
theorem d_M_readTerm_121 : decode (cd m_M_readTerm) 121 = .ok (.dup, 1) := by decide +kernel
theorem d_M_readTerm_122 : decode (cd m_M_readTerm) 122 = .ok (.getfield 180, 3) := by decide +kernel
theorem d_M_readTerm_125 : decode (cd m_M_readTerm) 125 = .ok (.iconst 1, 1) := by decide +kernel
theorem d_M_readTerm_126 : decode (cd m_M_readTerm) 126 = .ok (.iadd, 1) := by decide +kernel
theorem d_M_readTerm_127 : decode (cd m_M_readTerm) 127 = .ok (.putfield 180, 3) := by decide +kernel
theorem d_M_readTerm_130 : decode (cd m_M_readTerm) 130 = .ok (.iconst 1, 1) := by decide +kernel
theorem d_M_readTerm_131 : decode (cd m_M_readTerm) 131 = .ok (.ireturn, 1) := by decide +kernel
theorem d_M_predicateOf_0 : decode (cd m_M_predicateOf) 0 = .ok (.bipush 16, 2) := by decide +kernel
theorem d_M_predicateOf_2 : decode (cd m_M_predicateOf) 2 = .ok (.aload_n 0, 1) := by decide +kernel
theorem d_M_predicateOf_3 : decode (cd m_M_predicateOf) 3 = .ok (.getfield 211, 3) := by decide +kernel
theorem d_M_predicateOf_6 : decode (cd m_M_predicateOf) 6 = .ok (.imul, 1) := by decide +kernel
theorem d_M_predicateOf_7 : decode (cd m_M_predicateOf) 7 = .ok (.istore 5, 2) := by decide +kernel
theorem d_M_predicateOf_9 : decode (cd m_M_predicateOf) 9 = .ok (.iload 5, 2) := by decide +kernel
theorem d_M_predicateOf_11 : decode (cd m_M_predicateOf) 11 = .ok (.istore 6, 2) := by decide +kernel
theorem d_M_predicateOf_13 : decode (cd m_M_predicateOf) 13 = .ok (.iload 6, 2) := by decide +kernel
theorem d_M_predicateOf_15 : decode (cd m_M_predicateOf) 15 = .ok (.iload 5, 2) := by decide +kernel
theorem d_M_predicateOf_17 : decode (cd m_M_predicateOf) 17 = .ok (.aload_n 0, 1) := by decide +kernel
theorem d_M_predicateOf_18 : decode (cd m_M_predicateOf) 18 = .ok (.getfield 26, 3) := by decide +kernel
theorem d_M_predicateOf_21 : decode (cd m_M_predicateOf) 21 = .ok (.aload_n 0, 1) := by decide +kernel
theorem d_M_predicateOf_22 : decode (cd m_M_predicateOf) 22 = .ok (.getfield 211, 3) := by decide +kernel
theorem d_M_predicateOf_25 : decode (cd m_M_predicateOf) 25 = .ok (.iaload, 1) := by decide +kernel
theorem d_M_predicateOf_26 : decode (cd m_M_predicateOf) 26 = .ok (.iadd, 1) := by decide +kernel
theorem d_M_predicateOf_27 : decode (cd m_M_predicateOf) 27 = .ok (.if_icmp .ge 48, 3) := by decide +kernel
theorem d_M_predicateOf_30 : decode (cd m_M_predicateOf) 30 = .ok (.aload_n 0, 1) := by decide +kernel
theorem d_M_predicateOf_31 : decode (cd m_M_predicateOf) 31 = .ok (.getfield 29, 3) := by decide +kernel
theorem d_M_predicateOf_34 : decode (cd m_M_predicateOf) 34 = .ok (.iload 6, 2) := by decide +kernel
theorem d_M_predicateOf_36 : decode (cd m_M_predicateOf) 36 = .ok (.laload, 1) := by decide +kernel
theorem d_M_predicateOf_37 : decode (cd m_M_predicateOf) 37 = .ok (.lload_n 1, 1) := by decide +kernel
theorem d_M_predicateOf_38 : decode (cd m_M_predicateOf) 38 = .ok (.lcmp, 1) := by decide +kernel
theorem d_M_predicateOf_39 : decode (cd m_M_predicateOf) 39 = .ok (.ifCond .eq 6, 3) := by decide +kernel
theorem d_M_predicateOf_42 : decode (cd m_M_predicateOf) 42 = .ok (.goto 27, 3) := by decide +kernel
theorem d_M_predicateOf_45 : decode (cd m_M_predicateOf) 45 = .ok (.aload_n 0, 1) := by decide +kernel
theorem d_M_predicateOf_46 : decode (cd m_M_predicateOf) 46 = .ok (.getfield 32, 3) := by decide +kernel
theorem d_M_predicateOf_49 : decode (cd m_M_predicateOf) 49 = .ok (.iload 6, 2) := by decide +kernel
theorem d_M_predicateOf_51 : decode (cd m_M_predicateOf) 51 = .ok (.iaload, 1) := by decide +kernel
theorem d_M_predicateOf_52 : decode (cd m_M_predicateOf) 52 = .ok (.iload_n 3, 1) := by decide +kernel
theorem d_M_predicateOf_53 : decode (cd m_M_predicateOf) 53 = .ok (.if_icmp .eq 10, 3) := by decide +kernel
theorem d_M_predicateOf_56 : decode (cd m_M_predicateOf) 56 = .ok (.aload_n 0, 1) := by decide +kernel
theorem d_M_predicateOf_57 : decode (cd m_M_predicateOf) 57 = .ok (.iconst 2, 1) := by decide +kernel
theorem d_M_predicateOf_58 : decode (cd m_M_predicateOf) 58 = .ok (.iload 4, 2) := by decide +kernel
theorem d_M_predicateOf_60 : decode (cd m_M_predicateOf) 60 = .ok (.invokevirtual 214, 3) := by decide +kernel
theorem d_M_predicateOf_63 : decode (cd m_M_predicateOf) 63 = .ok (.iload 6, 2) := by decide +kernel
theorem d_M_predicateOf_65 : decode (cd m_M_predicateOf) 65 = .ok (.iload 5, 2) := by decide +kernel
theorem d_M_predicateOf_67 : decode (cd m_M_predicateOf) 67 = .ok (.isub, 1) := by decide +kernel
theorem d_M_predicateOf_68 : decode (cd m_M_predicateOf) 68 = .ok (.ireturn, 1) := by decide +kernel
theorem d_M_predicateOf_69 : decode (cd m_M_predicateOf) 69 = .ok (.iinc 6 1, 3) := by decide +kernel
theorem d_M_predicateOf_72 : decode (cd m_M_predicateOf) 72 = .ok (.goto (-59), 3) := by decide +kernel
theorem d_M_predicateOf_75 : decode (cd m_M_predicateOf) 75 = .ok (.iload 5, 2) := by decide +kernel
theorem d_M_predicateOf_77 : decode (cd m_M_predicateOf) 77 = .ok (.aload_n 0, 1) := by decide +kernel
theorem d_M_predicateOf_78 : decode (cd m_M_predicateOf) 78 = .ok (.getfield 26, 3) := by decide +kernel
theorem d_M_predicateOf_81 : decode (cd m_M_predicateOf) 81 = .ok (.aload_n 0, 1) := by decide +kernel
theorem d_M_predicateOf_82 : decode (cd m_M_predicateOf) 82 = .ok (.getfield 211, 3) := by decide +kernel
theorem d_M_predicateOf_85 : decode (cd m_M_predicateOf) 85 = .ok (.iaload, 1) := by decide +kernel
theorem d_M_predicateOf_86 : decode (cd m_M_predicateOf) 86 = .ok (.iadd, 1) := by decide +kernel
theorem d_M_predicateOf_87 : decode (cd m_M_predicateOf) 87 = .ok (.istore 6, 2) := by decide +kernel
theorem d_M_predicateOf_89 : decode (cd m_M_predicateOf) 89 = .ok (.aload_n 0, 1) := by decide +kernel
theorem d_M_predicateOf_90 : decode (cd m_M_predicateOf) 90 = .ok (.getfield 29, 3) := by decide +kernel
theorem d_M_predicateOf_93 : decode (cd m_M_predicateOf) 93 = .ok (.iload 6, 2) := by decide +kernel
theorem d_M_predicateOf_95 : decode (cd m_M_predicateOf) 95 = .ok (.lload_n 1, 1) := by decide +kernel
theorem d_M_predicateOf_96 : decode (cd m_M_predicateOf) 96 = .ok (.lastore, 1) := by decide +kernel
theorem d_M_predicateOf_97 : decode (cd m_M_predicateOf) 97 = .ok (.aload_n 0, 1) := by decide +kernel
theorem d_M_predicateOf_98 : decode (cd m_M_predicateOf) 98 = .ok (.getfield 32, 3) := by decide +kernel
theorem d_M_predicateOf_101 : decode (cd m_M_predicateOf) 101 = .ok (.iload 6, 2) := by decide +kernel
theorem d_M_predicateOf_103 : decode (cd m_M_predicateOf) 103 = .ok (.iload_n 3, 1) := by decide +kernel
theorem d_M_predicateOf_104 : decode (cd m_M_predicateOf) 104 = .ok (.iastore, 1) := by decide +kernel
theorem d_M_predicateOf_105 : decode (cd m_M_predicateOf) 105 = .ok (.aload_n 0, 1) := by decide +kernel
theorem d_M_predicateOf_106 : decode (cd m_M_predicateOf) 106 = .ok (.getfield 26, 3) := by decide +kernel
theorem d_M_predicateOf_109 : decode (cd m_M_predicateOf) 109 = .ok (.aload_n 0, 1) := by decide +kernel
theorem d_M_predicateOf_110 : decode (cd m_M_predicateOf) 110 = .ok (.getfield 211, 3) := by decide +kernel
theorem d_M_predicateOf_113 : decode (cd m_M_predicateOf) 113 = .ok (.dup2, 1) := by decide +kernel
theorem d_M_predicateOf_114 : decode (cd m_M_predicateOf) 114 = .ok (.iaload, 1) := by decide +kernel
theorem d_M_predicateOf_115 : decode (cd m_M_predicateOf) 115 = .ok (.iconst 1, 1) := by decide +kernel
theorem d_M_predicateOf_116 : decode (cd m_M_predicateOf) 116 = .ok (.iadd, 1) := by decide +kernel
theorem d_M_predicateOf_117 : decode (cd m_M_predicateOf) 117 = .ok (.iastore, 1) := by decide +kernel
theorem d_M_predicateOf_118 : decode (cd m_M_predicateOf) 118 = .ok (.iload 6, 2) := by decide +kernel
theorem d_M_predicateOf_120 : decode (cd m_M_predicateOf) 120 = .ok (.iload 5, 2) := by decide +kernel
theorem d_M_predicateOf_122 : decode (cd m_M_predicateOf) 122 = .ok (.isub, 1) := by decide +kernel
theorem d_M_predicateOf_123 : decode (cd m_M_predicateOf) 123 = .ok (.ireturn, 1) := by decide +kernel
theorem d_M_isKnown_0 : decode (cd m_M_isKnown) 0 = .ok (.bipush 16, 2) := by decide +kernel
theorem d_M_isKnown_2 : decode (cd m_M_isKnown) 2 = .ok (.aload_n 0, 1) := by decide +kernel
theorem d_M_isKnown_3 : decode (cd m_M_isKnown) 3 = .ok (.getfield 211, 3) := by decide +kernel
theorem d_M_isKnown_6 : decode (cd m_M_isKnown) 6 = .ok (.imul, 1) := by decide +kernel
theorem d_M_isKnown_7 : decode (cd m_M_isKnown) 7 = .ok (.istore_n 3, 1) := by decide +kernel
theorem d_M_isKnown_8 : decode (cd m_M_isKnown) 8 = .ok (.iload_n 3, 1) := by decide +kernel
theorem d_M_isKnown_9 : decode (cd m_M_isKnown) 9 = .ok (.bipush 16, 2) := by decide +kernel
theorem d_M_isKnown_11 : decode (cd m_M_isKnown) 11 = .ok (.aload_n 0, 1) := by decide +kernel
theorem d_M_isKnown_12 : decode (cd m_M_isKnown) 12 = .ok (.getfield 211, 3) := by decide +kernel
theorem d_M_isKnown_15 : decode (cd m_M_isKnown) 15 = .ok (.imul, 1) := by decide +kernel
theorem d_M_isKnown_16 : decode (cd m_M_isKnown) 16 = .ok (.aload_n 0, 1) := by decide +kernel
theorem d_M_isKnown_17 : decode (cd m_M_isKnown) 17 = .ok (.getfield 26, 3) := by decide +kernel
theorem d_M_isKnown_20 : decode (cd m_M_isKnown) 20 = .ok (.aload_n 0, 1) := by decide +kernel
theorem d_M_isKnown_21 : decode (cd m_M_isKnown) 21 = .ok (.getfield 211, 3) := by decide +kernel
theorem d_M_isKnown_24 : decode (cd m_M_isKnown) 24 = .ok (.iaload, 1) := by decide +kernel
theorem d_M_isKnown_25 : decode (cd m_M_isKnown) 25 = .ok (.iadd, 1) := by decide +kernel
theorem d_M_isKnown_26 : decode (cd m_M_isKnown) 26 = .ok (.if_icmp .ge 22, 3) := by decide +kernel
theorem d_M_isKnown_29 : decode (cd m_M_isKnown) 29 = .ok (.aload_n 0, 1) := by decide +kernel
theorem d_M_isKnown_30 : decode (cd m_M_isKnown) 30 = .ok (.getfield 29, 3) := by decide +kernel
theorem d_M_isKnown_33 : decode (cd m_M_isKnown) 33 = .ok (.iload_n 3, 1) := by decide +kernel
theorem d_M_isKnown_34 : decode (cd m_M_isKnown) 34 = .ok (.laload, 1) := by decide +kernel
theorem d_M_isKnown_35 : decode (cd m_M_isKnown) 35 = .ok (.lload_n 1, 1) := by decide +kernel
theorem d_M_isKnown_36 : decode (cd m_M_isKnown) 36 = .ok (.lcmp, 1) := by decide +kernel
theorem d_M_isKnown_37 : decode (cd m_M_isKnown) 37 = .ok (.ifCond .ne 5, 3) := by decide +kernel
theorem d_M_isKnown_40 : decode (cd m_M_isKnown) 40 = .ok (.iconst 1, 1) := by decide +kernel
theorem d_M_isKnown_41 : decode (cd m_M_isKnown) 41 = .ok (.ireturn, 1) := by decide +kernel
theorem d_M_isKnown_42 : decode (cd m_M_isKnown) 42 = .ok (.iinc 3 1, 3) := by decide +kernel
theorem d_M_isKnown_45 : decode (cd m_M_isKnown) 45 = .ok (.goto (-37), 3) := by decide +kernel
theorem d_M_isKnown_48 : decode (cd m_M_isKnown) 48 = .ok (.iconst 0, 1) := by decide +kernel
theorem d_M_isKnown_49 : decode (cd m_M_isKnown) 49 = .ok (.ireturn, 1) := by decide +kernel
theorem d_M_readArguments_0 : decode (cd m_M_readArguments) 0 = .ok (.aload_n 0, 1) := by decide +kernel
theorem d_M_readArguments_1 : decode (cd m_M_readArguments) 1 = .ok (.getfield 180, 3) := by decide +kernel
theorem d_M_readArguments_4 : decode (cd m_M_readArguments) 4 = .ok (.istore_n 3, 1) := by decide +kernel
theorem d_M_readArguments_5 : decode (cd m_M_readArguments) 5 = .ok (.aload_n 0, 1) := by decide +kernel
theorem d_M_readArguments_6 : decode (cd m_M_readArguments) 6 = .ok (.getfield 13, 3) := by decide +kernel
theorem d_M_readArguments_9 : decode (cd m_M_readArguments) 9 = .ok (.aload_n 0, 1) := by decide +kernel
theorem d_M_readArguments_10 : decode (cd m_M_readArguments) 10 = .ok (.getfield 180, 3) := by decide +kernel
theorem d_M_readArguments_13 : decode (cd m_M_readArguments) 13 = .ok (.iaload, 1) := by decide +kernel
theorem d_M_readArguments_14 : decode (cd m_M_readArguments) 14 = .ok (.iconst 1, 1) := by decide +kernel
theorem d_M_readArguments_15 : decode (cd m_M_readArguments) 15 = .ok (.if_icmp .ne 33, 3) := by decide +kernel
theorem d_M_readArguments_18 : decode (cd m_M_readArguments) 18 = .ok (.aload_n 0, 1) := by decide +kernel
theorem d_M_readArguments_19 : decode (cd m_M_readArguments) 19 = .ok (.aload_n 0, 1) := by decide +kernel
theorem d_M_readArguments_20 : decode (cd m_M_readArguments) 20 = .ok (.getfield 22, 3) := by decide +kernel
theorem d_M_readArguments_23 : decode (cd m_M_readArguments) 23 = .ok (.aload_n 0, 1) := by decide +kernel
theorem d_M_readArguments_24 : decode (cd m_M_readArguments) 24 = .ok (.getfield 180, 3) := by decide +kernel
theorem d_M_readArguments_27 : decode (cd m_M_readArguments) 27 = .ok (.laload, 1) := by decide +kernel
theorem d_M_readArguments_28 : decode (cd m_M_readArguments) 28 = .ok (.invokevirtual 218, 3) := by decide +kernel
theorem d_M_readArguments_31 : decode (cd m_M_readArguments) 31 = .ok (.ifCond .ne 22, 3) := by decide +kernel
theorem d_M_readArguments_34 : decode (cd m_M_readArguments) 34 = .ok (.aload_n 0, 1) := by decide +kernel
theorem d_M_readArguments_35 : decode (cd m_M_readArguments) 35 = .ok (.getfield 26, 3) := by decide +kernel
theorem d_M_readArguments_38 : decode (cd m_M_readArguments) 38 = .ok (.aload_n 0, 1) := by decide +kernel
theorem d_M_readArguments_39 : decode (cd m_M_readArguments) 39 = .ok (.getfield 211, 3) := by decide +kernel
theorem d_M_readArguments_42 : decode (cd m_M_readArguments) 42 = .ok (.iaload, 1) := by decide +kernel
theorem d_M_readArguments_43 : decode (cd m_M_readArguments) 43 = .ok (.bipush 16, 2) := by decide +kernel
theorem d_M_readArguments_45 : decode (cd m_M_readArguments) 45 = .ok (.if_icmp .ne 8, 3) := by decide +kernel
theorem d_M_readArguments_48 : decode (cd m_M_readArguments) 48 = .ok (.aload_n 0, 1) := by decide +kernel
theorem d_M_readArguments_49 : decode (cd m_M_readArguments) 49 = .ok (.invokevirtual 192, 3) := by decide +kernel
theorem d_M_readArguments_52 : decode (cd m_M_readArguments) 52 = .ok (.ireturn, 1) := by decide +kernel
theorem d_M_readArguments_53 : decode (cd m_M_readArguments) 53 = .ok (.aload_n 0, 1) := by decide +kernel
theorem d_M_readArguments_54 : decode (cd m_M_readArguments) 54 = .ok (.dup, 1) := by decide +kernel
theorem d_M_readArguments_55 : decode (cd m_M_readArguments) 55 = .ok (.getfield 180, 3) := by decide +kernel
theorem d_M_readArguments_58 : decode (cd m_M_readArguments) 58 = .ok (.iconst 1, 1) := by decide +kernel
theorem d_M_readArguments_59 : decode (cd m_M_readArguments) 59 = .ok (.iadd, 1) := by decide +kernel
theorem d_M_readArguments_60 : decode (cd m_M_readArguments) 60 = .ok (.putfield 180, 3) := by decide +kernel
theorem d_M_readArguments_63 : decode (cd m_M_readArguments) 63 = .ok (.aload_n 0, 1) := by decide +kernel
theorem d_M_readArguments_64 : decode (cd m_M_readArguments) 64 = .ok (.iconst 0, 1) := by decide +kernel
theorem d_M_readArguments_65 : decode (cd m_M_readArguments) 65 = .ok (.putfield 222, 3) := by decide +kernel
theorem d_M_readArguments_68 : decode (cd m_M_readArguments) 68 = .ok (.aload_n 0, 1) := by decide +kernel
theorem d_M_readArguments_69 : decode (cd m_M_readArguments) 69 = .ok (.bipush 40, 2) := by decide +kernel
theorem d_M_readArguments_71 : decode (cd m_M_readArguments) 71 = .ok (.invokevirtual 225, 3) := by decide +kernel
theorem d_M_readArguments_74 : decode (cd m_M_readArguments) 74 = .ok (.ifCond .ne 5, 3) := by decide +kernel
theorem d_M_readArguments_77 : decode (cd m_M_readArguments) 77 = .ok (.iconst 0, 1) := by decide +kernel
theorem d_M_readArguments_78 : decode (cd m_M_readArguments) 78 = .ok (.ireturn, 1) := by decide +kernel
theorem d_M_readArguments_79 : decode (cd m_M_readArguments) 79 = .ok (.aload_n 0, 1) := by decide +kernel
theorem d_M_readArguments_80 : decode (cd m_M_readArguments) 80 = .ok (.getfield 222, 3) := by decide +kernel
theorem d_M_readArguments_83 : decode (cd m_M_readArguments) 83 = .ok (.iconst 4, 1) := by decide +kernel
theorem d_M_readArguments_84 : decode (cd m_M_readArguments) 84 = .ok (.if_icmp .ne 8, 3) := by decide +kernel
theorem d_M_readArguments_87 : decode (cd m_M_readArguments) 87 = .ok (.aload_n 0, 1) := by decide +kernel
theorem d_M_readArguments_88 : decode (cd m_M_readArguments) 88 = .ok (.invokevirtual 192, 3) := by decide +kernel
theorem d_M_readArguments_91 : decode (cd m_M_readArguments) 91 = .ok (.ireturn, 1) := by decide +kernel
theorem d_M_readArguments_92 : decode (cd m_M_readArguments) 92 = .ok (.aload_n 0, 1) := by decide +kernel
theorem d_M_readArguments_93 : decode (cd m_M_readArguments) 93 = .ok (.getfield 16, 3) := by decide +kernel
theorem d_M_readArguments_96 : decode (cd m_M_readArguments) 96 = .ok (.aload_n 0, 1) := by decide +kernel
theorem d_M_readArguments_97 : decode (cd m_M_readArguments) 97 = .ok (.getfield 180, 3) := by decide +kernel
theorem d_M_readArguments_100 : decode (cd m_M_readArguments) 100 = .ok (.iaload, 1) := by decide +kernel
theorem d_M_readArguments_101 : decode (cd m_M_readArguments) 101 = .ok (.istore 4, 2) := by decide +kernel
theorem d_M_readArguments_103 : decode (cd m_M_readArguments) 103 = .ok (.iload_n 1, 1) := by decide +kernel
theorem d_M_readArguments_104 : decode (cd m_M_readArguments) 104 = .ok (.ifCond .eq 144, 3) := by decide +kernel
theorem d_M_readArguments_107 : decode (cd m_M_readArguments) 107 = .ok (.aload_n 0, 1) := by decide +kernel
theorem d_M_readArguments_108 : decode (cd m_M_readArguments) 108 = .ok (.getfield 13, 3) := by decide +kernel
theorem d_M_readArguments_111 : decode (cd m_M_readArguments) 111 = .ok (.aload_n 0, 1) := by decide +kernel
theorem d_M_readArguments_112 : decode (cd m_M_readArguments) 112 = .ok (.getfield 180, 3) := by decide +kernel
theorem d_M_readArguments_115 : decode (cd m_M_readArguments) 115 = .ok (.iaload, 1) := by decide +kernel
theorem d_M_readArguments_116 : decode (cd m_M_readArguments) 116 = .ok (.iconst 5, 1) := by decide +kernel
theorem d_M_readArguments_117 : decode (cd m_M_readArguments) 117 = .ok (.if_icmp .ne 131, 3) := by decide +kernel
theorem d_M_readArguments_120 : decode (cd m_M_readArguments) 120 = .ok (.aload_n 0, 1) := by decide +kernel
theorem d_M_readArguments_121 : decode (cd m_M_readArguments) 121 = .ok (.getfield 19, 3) := by decide +kernel
theorem d_M_readArguments_124 : decode (cd m_M_readArguments) 124 = .ok (.aload_n 0, 1) := by decide +kernel
theorem d_M_readArguments_125 : decode (cd m_M_readArguments) 125 = .ok (.getfield 180, 3) := by decide +kernel
theorem d_M_readArguments_128 : decode (cd m_M_readArguments) 128 = .ok (.iaload, 1) := by decide +kernel
theorem d_M_readArguments_129 : decode (cd m_M_readArguments) 129 = .ok (.iconst 1, 1) := by decide +kernel
theorem d_M_readArguments_130 : decode (cd m_M_readArguments) 130 = .ok (.if_icmp .le 118, 3) := by decide +kernel
theorem d_M_readArguments_133 : decode (cd m_M_readArguments) 133 = .ok (.aload_n 0, 1) := by decide +kernel
theorem d_M_readArguments_134 : decode (cd m_M_readArguments) 134 = .ok (.getfield 228, 3) := by decide +kernel
theorem d_M_readArguments_137 : decode (cd m_M_readArguments) 137 = .ok (.ifCond .ne 111, 3) := by decide +kernel
theorem d_M_readArguments_140 : decode (cd m_M_readArguments) 140 = .ok (.aload_n 0, 1) := by decide +kernel
theorem d_M_readArguments_141 : decode (cd m_M_readArguments) 141 = .ok (.aload_n 0, 1) := by decide +kernel
theorem d_M_readArguments_142 : decode (cd m_M_readArguments) 142 = .ok (.getfield 19, 3) := by decide +kernel
theorem d_M_readArguments_145 : decode (cd m_M_readArguments) 145 = .ok (.aload_n 0, 1) := by decide +kernel
theorem d_M_readArguments_146 : decode (cd m_M_readArguments) 146 = .ok (.getfield 180, 3) := by decide +kernel
theorem d_M_readArguments_149 : decode (cd m_M_readArguments) 149 = .ok (.iaload, 1) := by decide +kernel
theorem d_M_readArguments_150 : decode (cd m_M_readArguments) 150 = .ok (.putfield 228, 3) := by decide +kernel
theorem d_M_readArguments_153 : decode (cd m_M_readArguments) 153 = .ok (.aload_n 0, 1) := by decide +kernel
theorem d_M_readArguments_154 : decode (cd m_M_readArguments) 154 = .ok (.aload_n 0, 1) := by decide +kernel
theorem d_M_readArguments_155 : decode (cd m_M_readArguments) 155 = .ok (.getfield 222, 3) := by decide +kernel
theorem d_M_readArguments_158 : decode (cd m_M_readArguments) 158 = .ok (.putfield 231, 3) := by decide +kernel
theorem d_M_readArguments_161 : decode (cd m_M_readArguments) 161 = .ok (.aload_n 0, 1) := by decide +kernel
theorem d_M_readArguments_162 : decode (cd m_M_readArguments) 162 = .ok (.iload 4, 2) := by decide +kernel
theorem d_M_readArguments_164 : decode (cd m_M_readArguments) 164 = .ok (.putfield 234, 3) := by decide +kernel
theorem d_M_readArguments_167 : decode (cd m_M_readArguments) 167 = .ok (.aload_n 0, 1) := by decide +kernel
theorem d_M_readArguments_168 : decode (cd m_M_readArguments) 168 = .ok (.dup, 1) := by decide +kernel
theorem d_M_readArguments_169 : decode (cd m_M_readArguments) 169 = .ok (.getfield 180, 3) := by decide +kernel
theorem d_M_readArguments_172 : decode (cd m_M_readArguments) 172 = .ok (.iconst 1, 1) := by decide +kernel
theorem d_M_readArguments_173 : decode (cd m_M_readArguments) 173 = .ok (.iadd, 1) := by decide +kernel
theorem d_M_readArguments_174 : decode (cd m_M_readArguments) 174 = .ok (.putfield 180, 3) := by decide +kernel
theorem d_M_readArguments_177 : decode (cd m_M_readArguments) 177 = .ok (.aload_n 0, 1) := by decide +kernel
theorem d_M_readArguments_178 : decode (cd m_M_readArguments) 178 = .ok (.bipush 40, 2) := by decide +kernel
theorem d_M_readArguments_180 : decode (cd m_M_readArguments) 180 = .ok (.invokevirtual 225, 3) := by decide +kernel
theorem d_M_readArguments_183 : decode (cd m_M_readArguments) 183 = .ok (.ifCond .ne 5, 3) := by decide +kernel
theorem d_M_readArguments_186 : decode (cd m_M_readArguments) 186 = .ok (.iconst 0, 1) := by decide +kernel
theorem d_M_readArguments_187 : decode (cd m_M_readArguments) 187 = .ok (.ireturn, 1) := by decide +kernel
theorem d_M_readArguments_188 : decode (cd m_M_readArguments) 188 = .ok (.aload_n 0, 1) := by decide +kernel
theorem d_M_readArguments_189 : decode (cd m_M_readArguments) 189 = .ok (.getfield 13, 3) := by decide +kernel
theorem d_M_readArguments_192 : decode (cd m_M_readArguments) 192 = .ok (.aload_n 0, 1) := by decide +kernel
theorem d_M_readArguments_193 : decode (cd m_M_readArguments) 193 = .ok (.getfield 180, 3) := by decide +kernel
theorem d_M_readArguments_196 : decode (cd m_M_readArguments) 196 = .ok (.iaload, 1) := by decide +kernel
theorem d_M_readArguments_197 : decode (cd m_M_readArguments) 197 = .ok (.iconst 2, 1) := by decide +kernel
theorem d_M_readArguments_198 : decode (cd m_M_readArguments) 198 = .ok (.if_icmp .eq 8, 3) := by decide +kernel
theorem d_M_readArguments_201 : decode (cd m_M_readArguments) 201 = .ok (.aload_n 0, 1) := by decide +kernel
theorem d_M_readArguments_202 : decode (cd m_M_readArguments) 202 = .ok (.invokevirtual 192, 3) := by decide +kernel
theorem d_M_readArguments_205 : decode (cd m_M_readArguments) 205 = .ok (.ireturn, 1) := by decide +kernel
theorem d_M_readArguments_206 : decode (cd m_M_readArguments) 206 = .ok (.aload_n 0, 1) := by decide +kernel
theorem d_M_readArguments_207 : decode (cd m_M_readArguments) 207 = .ok (.invokevirtual 206, 3) := by decide +kernel
theorem d_M_readArguments_210 : decode (cd m_M_readArguments) 210 = .ok (.ifCond .eq 12, 3) := by decide +kernel
theorem d_M_readArguments_213 : decode (cd m_M_readArguments) 213 = .ok (.aload_n 0, 1) := by decide +kernel
theorem d_M_readArguments_214 : decode (cd m_M_readArguments) 214 = .ok (.bipush 41, 2) := by decide +kernel
theorem d_M_readArguments_216 : decode (cd m_M_readArguments) 216 = .ok (.invokevirtual 225, 3) := by decide +kernel
theorem d_M_readArguments_219 : decode (cd m_M_readArguments) 219 = .ok (.ifCond .ne 5, 3) := by decide +kernel
theorem d_M_readArguments_222 : decode (cd m_M_readArguments) 222 = .ok (.iconst 0, 1) := by decide +kernel
theorem d_M_readArguments_223 : decode (cd m_M_readArguments) 223 = .ok (.ireturn, 1) := by decide +kernel
theorem d_M_readArguments_224 : decode (cd m_M_readArguments) 224 = .ok (.aload_n 0, 1) := by decide +kernel
theorem d_M_readArguments_225 : decode (cd m_M_readArguments) 225 = .ok (.aload_n 0, 1) := by decide +kernel
theorem d_M_readArguments_226 : decode (cd m_M_readArguments) 226 = .ok (.getfield 237, 3) := by decide +kernel
theorem d_M_readArguments_229 : decode (cd m_M_readArguments) 229 = .ok (.iconst (-1), 1) := by decide +kernel
theorem d_M_readArguments_230 : decode (cd m_M_readArguments) 230 = .ok (.if_icmp .ne 8, 3) := by decide +kernel
theorem d_M_readArguments_233 : decode (cd m_M_readArguments) 233 = .ok (.iload 4, 2) := by decide +kernel
theorem d_M_readArguments_235 : decode (cd m_M_readArguments) 235 = .ok (.goto 7, 3) := by decide +kernel
theorem d_M_readArguments_238 : decode (cd m_M_readArguments) 238 = .ok (.aload_n 0, 1) := by decide +kernel
theorem d_M_readArguments_239 : decode (cd m_M_readArguments) 239 = .ok (.getfield 237, 3) := by decide +kernel
theorem d_M_readArguments_242 : decode (cd m_M_readArguments) 242 = .ok (.putfield 237, 3) := by decide +kernel
theorem d_M_readArguments_245 : decode (cd m_M_readArguments) 245 = .ok (.goto 65, 3) := by decide +kernel
theorem d_M_readArguments_248 : decode (cd m_M_readArguments) 248 = .ok (.iload_n 2, 1) := by decide +kernel
theorem d_M_readArguments_249 : decode (cd m_M_readArguments) 249 = .ok (.ifCond .eq 30, 3) := by decide +kernel
theorem d_M_readArguments_252 : decode (cd m_M_readArguments) 252 = .ok (.aload_n 0, 1) := by decide +kernel
theorem d_M_readArguments_253 : decode (cd m_M_readArguments) 253 = .ok (.bipush 95, 2) := by decide +kernel
theorem d_M_readArguments_255 : decode (cd m_M_readArguments) 255 = .ok (.invokevirtual 186, 3) := by decide +kernel
theorem d_M_readArguments_258 : decode (cd m_M_readArguments) 258 = .ok (.ifCond .eq 21, 3) := by decide +kernel
theorem d_M_readArguments_261 : decode (cd m_M_readArguments) 261 = .ok (.aload_n 0, 1) := by decide +kernel
theorem d_M_readArguments_262 : decode (cd m_M_readArguments) 262 = .ok (.dup, 1) := by decide +kernel
theorem d_M_readArguments_263 : decode (cd m_M_readArguments) 263 = .ok (.getfield 180, 3) := by decide +kernel
theorem d_M_readArguments_266 : decode (cd m_M_readArguments) 266 = .ok (.iconst 1, 1) := by decide +kernel
theorem d_M_readArguments_267 : decode (cd m_M_readArguments) 267 = .ok (.iadd, 1) := by decide +kernel
theorem d_M_readArguments_268 : decode (cd m_M_readArguments) 268 = .ok (.putfield 180, 3) := by decide +kernel
theorem d_M_readArguments_271 : decode (cd m_M_readArguments) 271 = .ok (.aload_n 0, 1) := by decide +kernel
theorem d_M_readArguments_272 : decode (cd m_M_readArguments) 272 = .ok (.iconst 2, 1) := by decide +kernel
theorem d_M_readArguments_273 : decode (cd m_M_readArguments) 273 = .ok (.putfield 199, 3) := by decide +kernel
theorem d_M_readArguments_276 : decode (cd m_M_readArguments) 276 = .ok (.goto 34, 3) := by decide +kernel
theorem d_M_readArguments_279 : decode (cd m_M_readArguments) 279 = .ok (.aload_n 0, 1) := by decide +kernel
theorem d_M_readArguments_280 : decode (cd m_M_readArguments) 280 = .ok (.invokevirtual 240, 3) := by decide +kernel
theorem d_M_readArguments_283 : decode (cd m_M_readArguments) 283 = .ok (.ifCond .ne 5, 3) := by decide +kernel
theorem d_M_readArguments_286 : decode (cd m_M_readArguments) 286 = .ok (.iconst 0, 1) := by decide +kernel
theorem d_M_readArguments_287 : decode (cd m_M_readArguments) 287 = .ok (.ireturn, 1) := by decide +kernel
theorem d_M_readArguments_288 : decode (cd m_M_readArguments) 288 = .ok (.aload_n 0, 1) := by decide +kernel
theorem d_M_readArguments_289 : decode (cd m_M_readArguments) 289 = .ok (.getfield 199, 3) := by decide +kernel
theorem d_M_readArguments_292 : decode (cd m_M_readArguments) 292 = .ok (.iconst 1, 1) := by decide +kernel
theorem d_M_readArguments_293 : decode (cd m_M_readArguments) 293 = .ok (.if_icmp .ne 17, 3) := by decide +kernel
theorem d_M_readArguments_296 : decode (cd m_M_readArguments) 296 = .ok (.aload_n 0, 1) := by decide +kernel
theorem d_M_readArguments_297 : decode (cd m_M_readArguments) 297 = .ok (.getfield 237, 3) := by decide +kernel
theorem d_M_readArguments_300 : decode (cd m_M_readArguments) 300 = .ok (.iconst (-1), 1) := by decide +kernel
theorem d_M_readArguments_301 : decode (cd m_M_readArguments) 301 = .ok (.if_icmp .ne 9, 3) := by decide +kernel
theorem d_M_readArguments_304 : decode (cd m_M_readArguments) 304 = .ok (.aload_n 0, 1) := by decide +kernel
theorem d_M_readArguments_305 : decode (cd m_M_readArguments) 305 = .ok (.iload 4, 2) := by decide +kernel
theorem d_M_readArguments_307 : decode (cd m_M_readArguments) 307 = .ok (.putfield 237, 3) := by decide +kernel
theorem d_M_readArguments_310 : decode (cd m_M_readArguments) 310 = .ok (.aload_n 0, 1) := by decide +kernel
theorem d_M_readArguments_311 : decode (cd m_M_readArguments) 311 = .ok (.getfield 93, 3) := by decide +kernel
theorem d_M_readArguments_314 : decode (cd m_M_readArguments) 314 = .ok (.aload_n 0, 1) := by decide +kernel
theorem d_M_readArguments_315 : decode (cd m_M_readArguments) 315 = .ok (.getfield 222, 3) := by decide +kernel
theorem d_M_readArguments_318 : decode (cd m_M_readArguments) 318 = .ok (.aload_n 0, 1) := by decide +kernel
theorem d_M_readArguments_319 : decode (cd m_M_readArguments) 319 = .ok (.getfield 199, 3) := by decide +kernel
theorem d_M_readArguments_322 : decode (cd m_M_readArguments) 322 = .ok (.iastore, 1) := by decide +kernel
theorem d_M_readArguments_323 : decode (cd m_M_readArguments) 323 = .ok (.aload_n 0, 1) := by decide +kernel
theorem d_M_readArguments_324 : decode (cd m_M_readArguments) 324 = .ok (.getfield 96, 3) := by decide +kernel
theorem d_M_readArguments_327 : decode (cd m_M_readArguments) 327 = .ok (.aload_n 0, 1) := by decide +kernel
theorem d_M_readArguments_328 : decode (cd m_M_readArguments) 328 = .ok (.getfield 222, 3) := by decide +kernel
theorem d_M_readArguments_331 : decode (cd m_M_readArguments) 331 = .ok (.aload_n 0, 1) := by decide +kernel
theorem d_M_readArguments_332 : decode (cd m_M_readArguments) 332 = .ok (.getfield 202, 3) := by decide +kernel
theorem d_M_readArguments_335 : decode (cd m_M_readArguments) 335 = .ok (.lastore, 1) := by decide +kernel
theorem d_M_readArguments_336 : decode (cd m_M_readArguments) 336 = .ok (.aload_n 0, 1) := by decide +kernel
theorem d_M_readArguments_337 : decode (cd m_M_readArguments) 337 = .ok (.dup, 1) := by decide +kernel
theorem d_M_readArguments_338 : decode (cd m_M_readArguments) 338 = .ok (.getfield 222, 3) := by decide +kernel
theorem d_M_readArguments_341 : decode (cd m_M_readArguments) 341 = .ok (.iconst 1, 1) := by decide +kernel
theorem d_M_readArguments_342 : decode (cd m_M_readArguments) 342 = .ok (.iadd, 1) := by decide +kernel
theorem d_M_readArguments_343 : decode (cd m_M_readArguments) 343 = .ok (.putfield 222, 3) := by decide +kernel
theorem d_M_readArguments_346 : decode (cd m_M_readArguments) 346 = .ok (.aload_n 0, 1) := by decide +kernel
theorem d_M_readArguments_347 : decode (cd m_M_readArguments) 347 = .ok (.bipush 44, 2) := by decide +kernel
theorem d_M_readArguments_349 : decode (cd m_M_readArguments) 349 = .ok (.invokevirtual 189, 3) := by decide +kernel
theorem d_M_readArguments_352 : decode (cd m_M_readArguments) 352 = .ok (.ifCond .ne (-273), 3) := by decide +kernel
theorem d_M_readArguments_355 : decode (cd m_M_readArguments) 355 = .ok (.aload_n 0, 1) := by decide +kernel
theorem d_M_readArguments_356 : decode (cd m_M_readArguments) 356 = .ok (.bipush 41, 2) := by decide +kernel
theorem d_M_readArguments_358 : decode (cd m_M_readArguments) 358 = .ok (.invokevirtual 225, 3) := by decide +kernel
theorem d_M_readArguments_361 : decode (cd m_M_readArguments) 361 = .ok (.ifCond .ne 5, 3) := by decide +kernel
theorem d_M_readArguments_364 : decode (cd m_M_readArguments) 364 = .ok (.iconst 0, 1) := by decide +kernel
theorem d_M_readArguments_365 : decode (cd m_M_readArguments) 365 = .ok (.ireturn, 1) := by decide +kernel
theorem d_M_readArguments_366 : decode (cd m_M_readArguments) 366 = .ok (.aload_n 0, 1) := by decide +kernel
theorem d_M_readArguments_367 : decode (cd m_M_readArguments) 367 = .ok (.aload_n 0, 1) := by decide +kernel
theorem d_M_readArguments_368 : decode (cd m_M_readArguments) 368 = .ok (.aload_n 0, 1) := by decide +kernel
theorem d_M_readArguments_369 : decode (cd m_M_readArguments) 369 = .ok (.getfield 22, 3) := by decide +kernel
theorem d_M_readArguments_372 : decode (cd m_M_readArguments) 372 = .ok (.iload_n 3, 1) := by decide +kernel
theorem d_M_readArguments_373 : decode (cd m_M_readArguments) 373 = .ok (.laload, 1) := by decide +kernel
theorem d_M_readArguments_374 : decode (cd m_M_readArguments) 374 = .ok (.aload_n 0, 1) := by decide +kernel
theorem d_M_readArguments_375 : decode (cd m_M_readArguments) 375 = .ok (.getfield 222, 3) := by decide +kernel
theorem d_M_readArguments_378 : decode (cd m_M_readArguments) 378 = .ok (.aload_n 0, 1) := by decide +kernel
theorem d_M_readArguments_379 : decode (cd m_M_readArguments) 379 = .ok (.getfield 16, 3) := by decide +kernel
theorem d_M_readArguments_382 : decode (cd m_M_readArguments) 382 = .ok (.iload_n 3, 1) := by decide +kernel
theorem d_M_readArguments_383 : decode (cd m_M_readArguments) 383 = .ok (.iaload, 1) := by decide +kernel
theorem d_M_readArguments_384 : decode (cd m_M_readArguments) 384 = .ok (.invokevirtual 243, 3) := by decide +kernel
theorem d_M_readArguments_387 : decode (cd m_M_readArguments) 387 = .ok (.putfield 247, 3) := by decide +kernel
theorem d_M_readArguments_390 : decode (cd m_M_readArguments) 390 = .ok (.iconst 1, 1) := by decide +kernel
theorem d_M_readArguments_391 : decode (cd m_M_readArguments) 391 = .ok (.ireturn, 1) := by decide +kernel
theorem d_M_relation_0 : decode (cd m_M_relation) 0 = .ok (.aload_n 0, 1) := by decide +kernel
theorem d_M_relation_1 : decode (cd m_M_relation) 1 = .ok (.getfield 13, 3) := by decide +kernel
theorem d_M_relation_4 : decode (cd m_M_relation) 4 = .ok (.aload_n 0, 1) := by decide +kernel
theorem d_M_relation_5 : decode (cd m_M_relation) 5 = .ok (.getfield 180, 3) := by decide +kernel
theorem d_M_relation_8 : decode (cd m_M_relation) 8 = .ok (.iaload, 1) := by decide +kernel
theorem d_M_relation_9 : decode (cd m_M_relation) 9 = .ok (.iconst 4, 1) := by decide +kernel
theorem d_M_relation_10 : decode (cd m_M_relation) 10 = .ok (.if_icmp .eq 5, 3) := by decide +kernel
theorem d_M_relation_13 : decode (cd m_M_relation) 13 = .ok (.iconst 0, 1) := by decide +kernel
theorem d_M_relation_14 : decode (cd m_M_relation) 14 = .ok (.ireturn, 1) := by decide +kernel
theorem d_M_relation_15 : decode (cd m_M_relation) 15 = .ok (.aload_n 0, 1) := by decide +kernel
theorem d_M_relation_16 : decode (cd m_M_relation) 16 = .ok (.getfield 19, 3) := by decide +kernel
theorem d_M_relation_19 : decode (cd m_M_relation) 19 = .ok (.aload_n 0, 1) := by decide +kernel
theorem d_M_relation_20 : decode (cd m_M_relation) 20 = .ok (.getfield 180, 3) := by decide +kernel
theorem d_M_relation_23 : decode (cd m_M_relation) 23 = .ok (.iaload, 1) := by decide +kernel
theorem d_M_relation_24 : decode (cd m_M_relation) 24 = .ok (.istore_n 1, 1) := by decide +kernel
theorem d_M_relation_25 : decode (cd m_M_relation) 25 = .ok (.iload_n 1, 1) := by decide +kernel
theorem d_M_relation_26 : decode (cd m_M_relation) 26 = .ok (.bipush 61, 2) := by decide +kernel
theorem d_M_relation_28 : decode (cd m_M_relation) 28 = .ok (.if_icmp .eq 36, 3) := by decide +kernel
theorem d_M_relation_31 : decode (cd m_M_relation) 31 = .ok (.iload_n 1, 1) := by decide +kernel
theorem d_M_relation_32 : decode (cd m_M_relation) 32 = .ok (.sipush 301, 3) := by decide +kernel
theorem d_M_relation_35 : decode (cd m_M_relation) 35 = .ok (.if_icmp .eq 29, 3) := by decide +kernel
theorem d_M_relation_38 : decode (cd m_M_relation) 38 = .ok (.iload_n 1, 1) := by decide +kernel
theorem d_M_relation_39 : decode (cd m_M_relation) 39 = .ok (.bipush 60, 2) := by decide +kernel
theorem d_M_relation_41 : decode (cd m_M_relation) 41 = .ok (.if_icmp .eq 23, 3) := by decide +kernel
theorem d_M_relation_44 : decode (cd m_M_relation) 44 = .ok (.iload_n 1, 1) := by decide +kernel
theorem d_M_relation_45 : decode (cd m_M_relation) 45 = .ok (.sipush 302, 3) := by decide +kernel
theorem d_M_relation_48 : decode (cd m_M_relation) 48 = .ok (.if_icmp .eq 16, 3) := by decide +kernel
theorem d_M_relation_51 : decode (cd m_M_relation) 51 = .ok (.iload_n 1, 1) := by decide +kernel
theorem d_M_relation_52 : decode (cd m_M_relation) 52 = .ok (.bipush 62, 2) := by decide +kernel
theorem d_M_relation_54 : decode (cd m_M_relation) 54 = .ok (.if_icmp .eq 10, 3) := by decide +kernel
theorem d_M_relation_57 : decode (cd m_M_relation) 57 = .ok (.iload_n 1, 1) := by decide +kernel
theorem d_M_relation_58 : decode (cd m_M_relation) 58 = .ok (.sipush 303, 3) := by decide +kernel
theorem d_M_relation_61 : decode (cd m_M_relation) 61 = .ok (.if_icmp .ne 7, 3) := by decide +kernel
theorem d_M_relation_64 : decode (cd m_M_relation) 64 = .ok (.iload_n 1, 1) := by decide +kernel
theorem d_M_relation_65 : decode (cd m_M_relation) 65 = .ok (.goto 4, 3) := by decide +kernel
theorem d_M_relation_68 : decode (cd m_M_relation) 68 = .ok (.iconst 0, 1) := by decide +kernel
theorem d_M_relation_69 : decode (cd m_M_relation) 69 = .ok (.ireturn, 1) := by decide +kernel
theorem d_M_lay_0 : decode (cd m_M_lay) 0 = .ok (.aload_n 0, 1) := by decide +kernel
theorem d_M_lay_1 : decode (cd m_M_lay) 1 = .ok (.getfield 68, 3) := by decide +kernel
theorem d_M_lay_4 : decode (cd m_M_lay) 4 = .ok (.iconst 4, 1) := by decide +kernel
theorem d_M_lay_5 : decode (cd m_M_lay) 5 = .ok (.iload_n 1, 1) := by decide +kernel
theorem d_M_lay_6 : decode (cd m_M_lay) 6 = .ok (.imul, 1) := by decide +kernel
theorem d_M_lay_7 : decode (cd m_M_lay) 7 = .ok (.iload_n 2, 1) := by decide +kernel
theorem d_M_lay_8 : decode (cd m_M_lay) 8 = .ok (.iadd, 1) := by decide +kernel
theorem d_M_lay_9 : decode (cd m_M_lay) 9 = .ok (.aload_n 0, 1) := by decide +kernel
theorem d_M_lay_10 : decode (cd m_M_lay) 10 = .ok (.getfield 199, 3) := by decide +kernel
theorem d_M_lay_13 : decode (cd m_M_lay) 13 = .ok (.iastore, 1) := by decide +kernel
theorem d_M_lay_14 : decode (cd m_M_lay) 14 = .ok (.aload_n 0, 1) := by decide +kernel
theorem d_M_lay_15 : decode (cd m_M_lay) 15 = .ok (.getfield 71, 3) := by decide +kernel
theorem d_M_lay_18 : decode (cd m_M_lay) 18 = .ok (.iconst 4, 1) := by decide +kernel
theorem d_M_lay_19 : decode (cd m_M_lay) 19 = .ok (.iload_n 1, 1) := by decide +kernel
theorem d_M_lay_20 : decode (cd m_M_lay) 20 = .ok (.imul, 1) := by decide +kernel
theorem d_M_lay_21 : decode (cd m_M_lay) 21 = .ok (.iload_n 2, 1) := by decide +kernel
theorem d_M_lay_22 : decode (cd m_M_lay) 22 = .ok (.iadd, 1) := by decide +kernel
theorem d_M_lay_23 : decode (cd m_M_lay) 23 = .ok (.aload_n 0, 1) := by decide +kernel
theorem d_M_lay_24 : decode (cd m_M_lay) 24 = .ok (.getfield 202, 3) := by decide +kernel
theorem d_M_lay_27 : decode (cd m_M_lay) 27 = .ok (.lastore, 1) := by decide +kernel
theorem d_M_lay_28 : decode (cd m_M_lay) 28 = .ok (.return_, 1) := by decide +kernel
theorem d_M_readLiteral_0 : decode (cd m_M_readLiteral) 0 = .ok (.aload_n 0, 1) := by decide +kernel
theorem d_M_readLiteral_1 : decode (cd m_M_readLiteral) 1 = .ok (.getfield 56, 3) := by decide +kernel
theorem d_M_readLiteral_4 : decode (cd m_M_readLiteral) 4 = .ok (.aload_n 0, 1) := by decide +kernel
theorem d_M_readLiteral_5 : decode (cd m_M_readLiteral) 5 = .ok (.getfield 196, 3) := by decide +kernel
theorem d_M_readLiteral_8 : decode (cd m_M_readLiteral) 8 = .ok (.iaload, 1) := by decide +kernel
theorem d_M_readLiteral_9 : decode (cd m_M_readLiteral) 9 = .ok (.bipush 6, 2) := by decide +kernel
theorem d_M_readLiteral_11 : decode (cd m_M_readLiteral) 11 = .ok (.if_icmp .ne 8, 3) := by decide +kernel
theorem d_M_readLiteral_14 : decode (cd m_M_readLiteral) 14 = .ok (.aload_n 0, 1) := by decide +kernel
theorem d_M_readLiteral_15 : decode (cd m_M_readLiteral) 15 = .ok (.invokevirtual 192, 3) := by decide +kernel
theorem d_M_readLiteral_18 : decode (cd m_M_readLiteral) 18 = .ok (.ireturn, 1) := by decide +kernel
theorem d_M_readLiteral_19 : decode (cd m_M_readLiteral) 19 = .ok (.bipush 6, 2) := by decide +kernel
theorem d_M_readLiteral_21 : decode (cd m_M_readLiteral) 21 = .ok (.aload_n 0, 1) := by decide +kernel
theorem d_M_readLiteral_22 : decode (cd m_M_readLiteral) 22 = .ok (.getfield 196, 3) := by decide +kernel
theorem d_M_readLiteral_25 : decode (cd m_M_readLiteral) 25 = .ok (.imul, 1) := by decide +kernel
theorem d_M_readLiteral_26 : decode (cd m_M_readLiteral) 26 = .ok (.aload_n 0, 1) := by decide +kernel
theorem d_M_readLiteral_27 : decode (cd m_M_readLiteral) 27 = .ok (.getfield 56, 3) := by decide +kernel
theorem d_M_readLiteral_30 : decode (cd m_M_readLiteral) 30 = .ok (.aload_n 0, 1) := by decide +kernel
theorem d_M_readLiteral_31 : decode (cd m_M_readLiteral) 31 = .ok (.getfield 196, 3) := by decide +kernel
theorem d_M_readLiteral_34 : decode (cd m_M_readLiteral) 34 = .ok (.iaload, 1) := by decide +kernel
theorem d_M_readLiteral_35 : decode (cd m_M_readLiteral) 35 = .ok (.iadd, 1) := by decide +kernel
theorem d_M_readLiteral_36 : decode (cd m_M_readLiteral) 36 = .ok (.istore_n 1, 1) := by decide +kernel
theorem d_M_readLiteral_37 : decode (cd m_M_readLiteral) 37 = .ok (.aload_n 0, 1) := by decide +kernel
theorem d_M_readLiteral_38 : decode (cd m_M_readLiteral) 38 = .ok (.bipush 33, 2) := by decide +kernel
theorem d_M_readLiteral_40 : decode (cd m_M_readLiteral) 40 = .ok (.invokevirtual 186, 3) := by decide +kernel
theorem d_M_readLiteral_43 : decode (cd m_M_readLiteral) 43 = .ok (.istore_n 2, 1) := by decide +kernel
theorem d_M_readLiteral_44 : decode (cd m_M_readLiteral) 44 = .ok (.iload_n 2, 1) := by decide +kernel
theorem d_M_readLiteral_45 : decode (cd m_M_readLiteral) 45 = .ok (.ifCond .ne 47, 3) := by decide +kernel
theorem d_M_readLiteral_48 : decode (cd m_M_readLiteral) 48 = .ok (.aload_n 0, 1) := by decide +kernel
theorem d_M_readLiteral_49 : decode (cd m_M_readLiteral) 49 = .ok (.getfield 13, 3) := by decide +kernel
theorem d_M_readLiteral_52 : decode (cd m_M_readLiteral) 52 = .ok (.aload_n 0, 1) := by decide +kernel
theorem d_M_readLiteral_53 : decode (cd m_M_readLiteral) 53 = .ok (.getfield 180, 3) := by decide +kernel
theorem d_M_readLiteral_56 : decode (cd m_M_readLiteral) 56 = .ok (.iaload, 1) := by decide +kernel
theorem d_M_readLiteral_57 : decode (cd m_M_readLiteral) 57 = .ok (.iconst 1, 1) := by decide +kernel
theorem d_M_readLiteral_58 : decode (cd m_M_readLiteral) 58 = .ok (.if_icmp .ne 38, 3) := by decide +kernel
theorem d_M_readLiteral_61 : decode (cd m_M_readLiteral) 61 = .ok (.aload_n 0, 1) := by decide +kernel
theorem d_M_readLiteral_62 : decode (cd m_M_readLiteral) 62 = .ok (.getfield 13, 3) := by decide +kernel
theorem d_M_readLiteral_65 : decode (cd m_M_readLiteral) 65 = .ok (.aload_n 0, 1) := by decide +kernel
theorem d_M_readLiteral_66 : decode (cd m_M_readLiteral) 66 = .ok (.getfield 180, 3) := by decide +kernel
theorem d_M_readLiteral_69 : decode (cd m_M_readLiteral) 69 = .ok (.iconst 1, 1) := by decide +kernel
theorem d_M_readLiteral_70 : decode (cd m_M_readLiteral) 70 = .ok (.iadd, 1) := by decide +kernel
theorem d_M_readLiteral_71 : decode (cd m_M_readLiteral) 71 = .ok (.iaload, 1) := by decide +kernel
theorem d_M_readLiteral_72 : decode (cd m_M_readLiteral) 72 = .ok (.iconst 4, 1) := by decide +kernel
theorem d_M_readLiteral_73 : decode (cd m_M_readLiteral) 73 = .ok (.if_icmp .ne 23, 3) := by decide +kernel
theorem d_M_readLiteral_76 : decode (cd m_M_readLiteral) 76 = .ok (.aload_n 0, 1) := by decide +kernel
theorem d_M_readLiteral_77 : decode (cd m_M_readLiteral) 77 = .ok (.getfield 19, 3) := by decide +kernel
theorem d_M_readLiteral_80 : decode (cd m_M_readLiteral) 80 = .ok (.aload_n 0, 1) := by decide +kernel
theorem d_M_readLiteral_81 : decode (cd m_M_readLiteral) 81 = .ok (.getfield 180, 3) := by decide +kernel
theorem d_M_readLiteral_84 : decode (cd m_M_readLiteral) 84 = .ok (.iconst 1, 1) := by decide +kernel
theorem d_M_readLiteral_85 : decode (cd m_M_readLiteral) 85 = .ok (.iadd, 1) := by decide +kernel
theorem d_M_readLiteral_86 : decode (cd m_M_readLiteral) 86 = .ok (.iaload, 1) := by decide +kernel
theorem d_M_readLiteral_87 : decode (cd m_M_readLiteral) 87 = .ok (.bipush 40, 2) := by decide +kernel
theorem d_M_readLiteral_89 : decode (cd m_M_readLiteral) 89 = .ok (.if_icmp .ne 7, 3) := by decide +kernel
theorem d_M_readLiteral_92 : decode (cd m_M_readLiteral) 92 = .ok (.iconst 1, 1) := by decide +kernel
theorem d_M_readLiteral_93 : decode (cd m_M_readLiteral) 93 = .ok (.goto 4, 3) := by decide +kernel
theorem d_M_readLiteral_96 : decode (cd m_M_readLiteral) 96 = .ok (.iconst 0, 1) := by decide +kernel
theorem d_M_readLiteral_97 : decode (cd m_M_readLiteral) 97 = .ok (.istore_n 3, 1) := by decide +kernel
theorem d_M_readLiteral_98 : decode (cd m_M_readLiteral) 98 = .ok (.aload_n 0, 1) := by decide +kernel
theorem d_M_readLiteral_99 : decode (cd m_M_readLiteral) 99 = .ok (.getfield 99, 3) := by decide +kernel
theorem d_M_readLiteral_102 : decode (cd m_M_readLiteral) 102 = .ok (.iload_n 1, 1) := by decide +kernel
theorem d_M_readLiteral_103 : decode (cd m_M_readLiteral) 103 = .ok (.aload_n 0, 1) := by decide +kernel
theorem d_M_readLiteral_104 : decode (cd m_M_readLiteral) 104 = .ok (.getfield 16, 3) := by decide +kernel
theorem d_M_readLiteral_107 : decode (cd m_M_readLiteral) 107 = .ok (.aload_n 0, 1) := by decide +kernel
theorem d_M_readLiteral_108 : decode (cd m_M_readLiteral) 108 = .ok (.getfield 180, 3) := by decide +kernel
theorem d_M_readLiteral_111 : decode (cd m_M_readLiteral) 111 = .ok (.iaload, 1) := by decide +kernel
theorem d_M_readLiteral_112 : decode (cd m_M_readLiteral) 112 = .ok (.iastore, 1) := by decide +kernel
theorem d_M_readLiteral_113 : decode (cd m_M_readLiteral) 113 = .ok (.iload_n 3, 1) := by decide +kernel
theorem d_M_readLiteral_114 : decode (cd m_M_readLiteral) 114 = .ok (.ifCond .eq 186, 3) := by decide +kernel
theorem d_M_readLiteral_117 : decode (cd m_M_readLiteral) 117 = .ok (.iload_n 2, 1) := by decide +kernel
theorem d_M_readLiteral_118 : decode (cd m_M_readLiteral) 118 = .ok (.ifCond .eq 16, 3) := by decide +kernel
theorem d_M_readLiteral_121 : decode (cd m_M_readLiteral) 121 = .ok (.aload_n 0, 1) := by decide +kernel
theorem d_M_readLiteral_122 : decode (cd m_M_readLiteral) 122 = .ok (.dup, 1) := by decide +kernel
theorem d_M_readLiteral_123 : decode (cd m_M_readLiteral) 123 = .ok (.getfield 180, 3) := by decide +kernel
theorem d_M_readLiteral_126 : decode (cd m_M_readLiteral) 126 = .ok (.iconst 1, 1) := by decide +kernel
theorem d_M_readLiteral_127 : decode (cd m_M_readLiteral) 127 = .ok (.iadd, 1) := by decide +kernel
theorem d_M_readLiteral_128 : decode (cd m_M_readLiteral) 128 = .ok (.putfield 180, 3) := by decide +kernel
theorem d_M_readLiteral_131 : decode (cd m_M_readLiteral) 131 = .ok (.goto 16, 3) := by decide +kernel
theorem d_M_readLiteral_134 : decode (cd m_M_readLiteral) 134 = .ok (.aload_n 0, 1) := by decide +kernel
theorem d_M_readLiteral_135 : decode (cd m_M_readLiteral) 135 = .ok (.getfield 250, 3) := by decide +kernel
theorem d_M_readLiteral_138 : decode (cd m_M_readLiteral) 138 = .ok (.iconst 3, 1) := by decide +kernel
theorem d_M_readLiteral_139 : decode (cd m_M_readLiteral) 139 = .ok (.if_icmp .ne 8, 3) := by decide +kernel
theorem d_M_readLiteral_142 : decode (cd m_M_readLiteral) 142 = .ok (.aload_n 0, 1) := by decide +kernel
theorem d_M_readLiteral_143 : decode (cd m_M_readLiteral) 143 = .ok (.invokevirtual 192, 3) := by decide +kernel

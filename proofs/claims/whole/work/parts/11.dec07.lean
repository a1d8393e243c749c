/-! decode rows (by program) -/
theorem d_Tp_init_0 : decode (cd m_Tp_init) 0 = .ok (.aload_n 0, 1) := by decide +kernel
theorem d_Tp_init_1 : decode (cd m_Tp_init) 1 = .ok (.invokespecial 3, 3) := by decide +kernel
theorem d_Tp_init_4 : decode (cd m_Tp_init) 4 = .ok (.aload_n 0, 1) := by decide +kernel
theorem d_Tp_init_5 : decode (cd m_Tp_init) 5 = .ok (.sipush 600, 3) := by decide +kernel
theorem d_Tp_init_8 : decode (cd m_Tp_init) 8 = .ok (.newarray .byte, 2) := by decide +kernel
theorem d_Tp_init_10 : decode (cd m_Tp_init) 10 = .ok (.putfield 9, 3) := by decide +kernel
theorem d_Tp_init_13 : decode (cd m_Tp_init) 13 = .ok (.return_, 1) := by decide +kernel
theorem d_Tp_add_0 : decode (cd m_Tp_add) 0 = .ok (.aload_n 0, 1) := by decide +kernel
theorem d_Tp_add_1 : decode (cd m_Tp_add) 1 = .ok (.getfield 15, 3) := by decide +kernel
theorem d_Tp_add_4 : decode (cd m_Tp_add) 4 = .ok (.aload_n 0, 1) := by decide +kernel
theorem d_Tp_add_5 : decode (cd m_Tp_add) 5 = .ok (.getfield 9, 3) := by decide +kernel
theorem d_Tp_add_8 : decode (cd m_Tp_add) 8 = .ok (.arraylength, 1) := by decide +kernel
theorem d_Tp_add_9 : decode (cd m_Tp_add) 9 = .ok (.if_icmp .ge 24, 3) := by decide +kernel
theorem d_Tp_add_12 : decode (cd m_Tp_add) 12 = .ok (.aload_n 0, 1) := by decide +kernel
theorem d_Tp_add_13 : decode (cd m_Tp_add) 13 = .ok (.getfield 9, 3) := by decide +kernel
theorem d_Tp_add_16 : decode (cd m_Tp_add) 16 = .ok (.aload_n 0, 1) := by decide +kernel
theorem d_Tp_add_17 : decode (cd m_Tp_add) 17 = .ok (.getfield 15, 3) := by decide +kernel
theorem d_Tp_add_20 : decode (cd m_Tp_add) 20 = .ok (.iload_n 1, 1) := by decide +kernel
theorem d_Tp_add_21 : decode (cd m_Tp_add) 21 = .ok (.i2b, 1) := by decide +kernel
theorem d_Tp_add_22 : decode (cd m_Tp_add) 22 = .ok (.bastore, 1) := by decide +kernel
theorem d_Tp_add_23 : decode (cd m_Tp_add) 23 = .ok (.aload_n 0, 1) := by decide +kernel
theorem d_Tp_add_24 : decode (cd m_Tp_add) 24 = .ok (.dup, 1) := by decide +kernel
theorem d_Tp_add_25 : decode (cd m_Tp_add) 25 = .ok (.getfield 15, 3) := by decide +kernel
theorem d_Tp_add_28 : decode (cd m_Tp_add) 28 = .ok (.iconst 1, 1) := by decide +kernel
theorem d_Tp_add_29 : decode (cd m_Tp_add) 29 = .ok (.iadd, 1) := by decide +kernel
theorem d_Tp_add_30 : decode (cd m_Tp_add) 30 = .ok (.putfield 15, 3) := by decide +kernel
theorem d_Tp_add_33 : decode (cd m_Tp_add) 33 = .ok (.return_, 1) := by decide +kernel
theorem d_Tp_at_0 : decode (cd m_Tp_at) 0 = .ok (.iload_n 1, 1) := by decide +kernel
theorem d_Tp_at_1 : decode (cd m_Tp_at) 1 = .ok (.ifCond .lt 20, 3) := by decide +kernel
theorem d_Tp_at_4 : decode (cd m_Tp_at) 4 = .ok (.iload_n 1, 1) := by decide +kernel
theorem d_Tp_at_5 : decode (cd m_Tp_at) 5 = .ok (.aload_n 0, 1) := by decide +kernel
theorem d_Tp_at_6 : decode (cd m_Tp_at) 6 = .ok (.getfield 15, 3) := by decide +kernel
theorem d_Tp_at_9 : decode (cd m_Tp_at) 9 = .ok (.if_icmp .ge 12, 3) := by decide +kernel
theorem d_Tp_at_12 : decode (cd m_Tp_at) 12 = .ok (.aload_n 0, 1) := by decide +kernel
theorem d_Tp_at_13 : decode (cd m_Tp_at) 13 = .ok (.getfield 9, 3) := by decide +kernel
theorem d_Tp_at_16 : decode (cd m_Tp_at) 16 = .ok (.iload_n 1, 1) := by decide +kernel
theorem d_Tp_at_17 : decode (cd m_Tp_at) 17 = .ok (.baload, 1) := by decide +kernel
theorem d_Tp_at_18 : decode (cd m_Tp_at) 18 = .ok (.goto 4, 3) := by decide +kernel
theorem d_Tp_at_21 : decode (cd m_Tp_at) 21 = .ok (.iconst 0, 1) := by decide +kernel
theorem d_Tp_at_22 : decode (cd m_Tp_at) 22 = .ok (.ireturn, 1) := by decide +kernel
theorem d_Tp_sortAt_0 : decode (cd m_Tp_sortAt) 0 = .ok (.aload_n 0, 1) := by decide +kernel
theorem d_Tp_sortAt_1 : decode (cd m_Tp_sortAt) 1 = .ok (.iload_n 1, 1) := by decide +kernel
theorem d_Tp_sortAt_2 : decode (cd m_Tp_sortAt) 2 = .ok (.invokevirtual 19, 3) := by decide +kernel
theorem d_Tp_sortAt_5 : decode (cd m_Tp_sortAt) 5 = .ok (.istore_n 2, 1) := by decide +kernel
theorem d_Tp_sortAt_6 : decode (cd m_Tp_sortAt) 6 = .ok (.iload_n 2, 1) := by decide +kernel
theorem d_Tp_sortAt_7 : decode (cd m_Tp_sortAt) 7 = .ok (.bipush 97, 2) := by decide +kernel
theorem d_Tp_sortAt_9 : decode (cd m_Tp_sortAt) 9 = .ok (.if_icmp .lt 11, 3) := by decide +kernel
theorem d_Tp_sortAt_12 : decode (cd m_Tp_sortAt) 12 = .ok (.iload_n 2, 1) := by decide +kernel
theorem d_Tp_sortAt_13 : decode (cd m_Tp_sortAt) 13 = .ok (.bipush 122, 2) := by decide +kernel
theorem d_Tp_sortAt_15 : decode (cd m_Tp_sortAt) 15 = .ok (.if_icmp .gt 5, 3) := by decide +kernel
theorem d_Tp_sortAt_18 : decode (cd m_Tp_sortAt) 18 = .ok (.iconst 1, 1) := by decide +kernel
theorem d_Tp_sortAt_19 : decode (cd m_Tp_sortAt) 19 = .ok (.ireturn, 1) := by decide +kernel
theorem d_Tp_sortAt_20 : decode (cd m_Tp_sortAt) 20 = .ok (.iload_n 2, 1) := by decide +kernel
theorem d_Tp_sortAt_21 : decode (cd m_Tp_sortAt) 21 = .ok (.bipush 65, 2) := by decide +kernel
theorem d_Tp_sortAt_23 : decode (cd m_Tp_sortAt) 23 = .ok (.if_icmp .lt 11, 3) := by decide +kernel
theorem d_Tp_sortAt_26 : decode (cd m_Tp_sortAt) 26 = .ok (.iload_n 2, 1) := by decide +kernel
theorem d_Tp_sortAt_27 : decode (cd m_Tp_sortAt) 27 = .ok (.bipush 90, 2) := by decide +kernel
theorem d_Tp_sortAt_29 : decode (cd m_Tp_sortAt) 29 = .ok (.if_icmp .gt 5, 3) := by decide +kernel
theorem d_Tp_sortAt_32 : decode (cd m_Tp_sortAt) 32 = .ok (.iconst 2, 1) := by decide +kernel
theorem d_Tp_sortAt_33 : decode (cd m_Tp_sortAt) 33 = .ok (.ireturn, 1) := by decide +kernel
theorem d_Tp_sortAt_34 : decode (cd m_Tp_sortAt) 34 = .ok (.iload_n 2, 1) := by decide +kernel
theorem d_Tp_sortAt_35 : decode (cd m_Tp_sortAt) 35 = .ok (.bipush 48, 2) := by decide +kernel
theorem d_Tp_sortAt_37 : decode (cd m_Tp_sortAt) 37 = .ok (.if_icmp .lt 13, 3) := by decide +kernel
theorem d_Tp_sortAt_40 : decode (cd m_Tp_sortAt) 40 = .ok (.iload_n 2, 1) := by decide +kernel
theorem d_Tp_sortAt_41 : decode (cd m_Tp_sortAt) 41 = .ok (.bipush 57, 2) := by decide +kernel
theorem d_Tp_sortAt_43 : decode (cd m_Tp_sortAt) 43 = .ok (.if_icmp .gt 7, 3) := by decide +kernel
theorem d_Tp_sortAt_46 : decode (cd m_Tp_sortAt) 46 = .ok (.iconst 4, 1) := by decide +kernel
theorem d_Tp_sortAt_47 : decode (cd m_Tp_sortAt) 47 = .ok (.goto 4, 3) := by decide +kernel
theorem d_Tp_sortAt_50 : decode (cd m_Tp_sortAt) 50 = .ok (.iconst 0, 1) := by decide +kernel
theorem d_Tp_sortAt_51 : decode (cd m_Tp_sortAt) 51 = .ok (.ireturn, 1) := by decide +kernel
theorem d_Tp_endOfRun_0 : decode (cd m_Tp_endOfRun) 0 = .ok (.iload_n 1, 1) := by decide +kernel
theorem d_Tp_endOfRun_1 : decode (cd m_Tp_endOfRun) 1 = .ok (.istore_n 3, 1) := by decide +kernel
theorem d_Tp_endOfRun_2 : decode (cd m_Tp_endOfRun) 2 = .ok (.iload_n 3, 1) := by decide +kernel
theorem d_Tp_endOfRun_3 : decode (cd m_Tp_endOfRun) 3 = .ok (.aload_n 0, 1) := by decide +kernel
theorem d_Tp_endOfRun_4 : decode (cd m_Tp_endOfRun) 4 = .ok (.getfield 15, 3) := by decide +kernel
theorem d_Tp_endOfRun_7 : decode (cd m_Tp_endOfRun) 7 = .ok (.if_icmp .ge 21, 3) := by decide +kernel
theorem d_Tp_endOfRun_10 : decode (cd m_Tp_endOfRun) 10 = .ok (.aload_n 0, 1) := by decide +kernel
theorem d_Tp_endOfRun_11 : decode (cd m_Tp_endOfRun) 11 = .ok (.iload_n 3, 1) := by decide +kernel
theorem d_Tp_endOfRun_12 : decode (cd m_Tp_endOfRun) 12 = .ok (.invokevirtual 23, 3) := by decide +kernel
theorem d_Tp_endOfRun_15 : decode (cd m_Tp_endOfRun) 15 = .ok (.iload_n 2, 1) := by decide +kernel
theorem d_Tp_endOfRun_16 : decode (cd m_Tp_endOfRun) 16 = .ok (.iand, 1) := by decide +kernel
theorem d_Tp_endOfRun_17 : decode (cd m_Tp_endOfRun) 17 = .ok (.ifCond .ne 5, 3) := by decide +kernel
theorem d_Tp_endOfRun_20 : decode (cd m_Tp_endOfRun) 20 = .ok (.iload_n 3, 1) := by decide +kernel
theorem d_Tp_endOfRun_21 : decode (cd m_Tp_endOfRun) 21 = .ok (.ireturn, 1) := by decide +kernel
theorem d_Tp_endOfRun_22 : decode (cd m_Tp_endOfRun) 22 = .ok (.iinc 3 1, 3) := by decide +kernel
theorem d_Tp_endOfRun_25 : decode (cd m_Tp_endOfRun) 25 = .ok (.goto (-23), 3) := by decide +kernel
theorem d_Tp_endOfRun_28 : decode (cd m_Tp_endOfRun) 28 = .ok (.aload_n 0, 1) := by decide +kernel
theorem d_Tp_endOfRun_29 : decode (cd m_Tp_endOfRun) 29 = .ok (.getfield 15, 3) := by decide +kernel
theorem d_Tp_endOfRun_32 : decode (cd m_Tp_endOfRun) 32 = .ok (.ireturn, 1) := by decide +kernel
theorem d_Tp_spells_0 : decode (cd m_Tp_spells) 0 = .ok (.iload_n 2, 1) := by decide +kernel
theorem d_Tp_spells_1 : decode (cd m_Tp_spells) 1 = .ok (.iload_n 1, 1) := by decide +kernel
theorem d_Tp_spells_2 : decode (cd m_Tp_spells) 2 = .ok (.isub, 1) := by decide +kernel
theorem d_Tp_spells_3 : decode (cd m_Tp_spells) 3 = .ok (.aload_n 3, 1) := by decide +kernel
theorem d_Tp_spells_4 : decode (cd m_Tp_spells) 4 = .ok (.invokevirtual 26, 3) := by decide +kernel
theorem d_Tp_spells_7 : decode (cd m_Tp_spells) 7 = .ok (.if_icmp .eq 5, 3) := by decide +kernel
theorem d_Tp_spells_10 : decode (cd m_Tp_spells) 10 = .ok (.iconst 0, 1) := by decide +kernel
theorem d_Tp_spells_11 : decode (cd m_Tp_spells) 11 = .ok (.ireturn, 1) := by decide +kernel
theorem d_Tp_spells_12 : decode (cd m_Tp_spells) 12 = .ok (.iconst 0, 1) := by decide +kernel
theorem d_Tp_spells_13 : decode (cd m_Tp_spells) 13 = .ok (.istore 4, 2) := by decide +kernel
theorem d_Tp_spells_15 : decode (cd m_Tp_spells) 15 = .ok (.iload 4, 2) := by decide +kernel
theorem d_Tp_spells_17 : decode (cd m_Tp_spells) 17 = .ok (.aload_n 3, 1) := by decide +kernel
theorem d_Tp_spells_18 : decode (cd m_Tp_spells) 18 = .ok (.invokevirtual 26, 3) := by decide +kernel
theorem d_Tp_spells_21 : decode (cd m_Tp_spells) 21 = .ok (.if_icmp .ge 28, 3) := by decide +kernel
theorem d_Tp_spells_24 : decode (cd m_Tp_spells) 24 = .ok (.aload_n 0, 1) := by decide +kernel
theorem d_Tp_spells_25 : decode (cd m_Tp_spells) 25 = .ok (.iload_n 1, 1) := by decide +kernel
theorem d_Tp_spells_26 : decode (cd m_Tp_spells) 26 = .ok (.iload 4, 2) := by decide +kernel
theorem d_Tp_spells_28 : decode (cd m_Tp_spells) 28 = .ok (.iadd, 1) := by decide +kernel
theorem d_Tp_spells_29 : decode (cd m_Tp_spells) 29 = .ok (.invokevirtual 19, 3) := by decide +kernel
theorem d_Tp_spells_32 : decode (cd m_Tp_spells) 32 = .ok (.aload_n 3, 1) := by decide +kernel
theorem d_Tp_spells_33 : decode (cd m_Tp_spells) 33 = .ok (.iload 4, 2) := by decide +kernel
theorem d_Tp_spells_35 : decode (cd m_Tp_spells) 35 = .ok (.invokevirtual 31, 3) := by decide +kernel
theorem d_Tp_spells_38 : decode (cd m_Tp_spells) 38 = .ok (.if_icmp .eq 5, 3) := by decide +kernel
theorem d_Tp_spells_41 : decode (cd m_Tp_spells) 41 = .ok (.iconst 0, 1) := by decide +kernel
theorem d_Tp_spells_42 : decode (cd m_Tp_spells) 42 = .ok (.ireturn, 1) := by decide +kernel
theorem d_Tp_spells_43 : decode (cd m_Tp_spells) 43 = .ok (.iinc 4 1, 3) := by decide +kernel
theorem d_Tp_spells_46 : decode (cd m_Tp_spells) 46 = .ok (.goto (-31), 3) := by decide +kernel
theorem d_Tp_spells_49 : decode (cd m_Tp_spells) 49 = .ok (.iconst 1, 1) := by decide +kernel
theorem d_Tp_spells_50 : decode (cd m_Tp_spells) 50 = .ok (.ireturn, 1) := by decide +kernel
theorem d_Tp_packed_0 : decode (cd m_Tp_packed) 0 = .ok (.lconst 0, 1) := by decide +kernel
theorem d_Tp_packed_1 : decode (cd m_Tp_packed) 1 = .ok (.lstore_n 3, 1) := by decide +kernel
theorem d_Tp_packed_2 : decode (cd m_Tp_packed) 2 = .ok (.iload_n 1, 1) := by decide +kernel
theorem d_Tp_packed_3 : decode (cd m_Tp_packed) 3 = .ok (.istore 5, 2) := by decide +kernel
theorem d_Tp_packed_5 : decode (cd m_Tp_packed) 5 = .ok (.iload 5, 2) := by decide +kernel
theorem d_Tp_packed_7 : decode (cd m_Tp_packed) 7 = .ok (.iload_n 2, 1) := by decide +kernel
theorem d_Tp_packed_8 : decode (cd m_Tp_packed) 8 = .ok (.if_icmp .ge 22, 3) := by decide +kernel
theorem d_Tp_packed_11 : decode (cd m_Tp_packed) 11 = .ok (.lload_n 3, 1) := by decide +kernel
theorem d_Tp_packed_12 : decode (cd m_Tp_packed) 12 = .ok (.bipush 7, 2) := by decide +kernel
theorem d_Tp_packed_14 : decode (cd m_Tp_packed) 14 = .ok (.lshl, 1) := by decide +kernel
theorem d_Tp_packed_15 : decode (cd m_Tp_packed) 15 = .ok (.aload_n 0, 1) := by decide +kernel
theorem d_Tp_packed_16 : decode (cd m_Tp_packed) 16 = .ok (.iload 5, 2) := by decide +kernel
theorem d_Tp_packed_18 : decode (cd m_Tp_packed) 18 = .ok (.invokevirtual 19, 3) := by decide +kernel
theorem d_Tp_packed_21 : decode (cd m_Tp_packed) 21 = .ok (.i2l, 1) := by decide +kernel
theorem d_Tp_packed_22 : decode (cd m_Tp_packed) 22 = .ok (.lor, 1) := by decide +kernel
theorem d_Tp_packed_23 : decode (cd m_Tp_packed) 23 = .ok (.lstore_n 3, 1) := by decide +kernel
theorem d_Tp_packed_24 : decode (cd m_Tp_packed) 24 = .ok (.iinc 5 1, 3) := by decide +kernel
theorem d_Tp_packed_27 : decode (cd m_Tp_packed) 27 = .ok (.goto (-22), 3) := by decide +kernel
theorem d_Tp_packed_30 : decode (cd m_Tp_packed) 30 = .ok (.lload_n 3, 1) := by decide +kernel
theorem d_Tp_packed_31 : decode (cd m_Tp_packed) 31 = .ok (.lreturn, 1) := by decide +kernel
theorem d_Tp_number_0 : decode (cd m_Tp_number) 0 = .ok (.lconst 0, 1) := by decide +kernel
theorem d_Tp_number_1 : decode (cd m_Tp_number) 1 = .ok (.lstore_n 3, 1) := by decide +kernel
theorem d_Tp_number_2 : decode (cd m_Tp_number) 2 = .ok (.iload_n 1, 1) := by decide +kernel
theorem d_Tp_number_3 : decode (cd m_Tp_number) 3 = .ok (.istore 5, 2) := by decide +kernel
theorem d_Tp_number_5 : decode (cd m_Tp_number) 5 = .ok (.iload 5, 2) := by decide +kernel
theorem d_Tp_number_7 : decode (cd m_Tp_number) 7 = .ok (.iload_n 2, 1) := by decide +kernel
theorem d_Tp_number_8 : decode (cd m_Tp_number) 8 = .ok (.if_icmp .ge 27, 3) := by decide +kernel
theorem d_Tp_number_11 : decode (cd m_Tp_number) 11 = .ok (.lload_n 3, 1) := by decide +kernel
theorem d_Tp_number_12 : decode (cd m_Tp_number) 12 = .ok (.ldc2_w 35, 3) := by decide +kernel
theorem d_Tp_number_15 : decode (cd m_Tp_number) 15 = .ok (.lmul, 1) := by decide +kernel
theorem d_Tp_number_16 : decode (cd m_Tp_number) 16 = .ok (.aload_n 0, 1) := by decide +kernel
theorem d_Tp_number_17 : decode (cd m_Tp_number) 17 = .ok (.iload 5, 2) := by decide +kernel
theorem d_Tp_number_19 : decode (cd m_Tp_number) 19 = .ok (.invokevirtual 19, 3) := by decide +kernel
theorem d_Tp_number_22 : decode (cd m_Tp_number) 22 = .ok (.i2l, 1) := by decide +kernel
theorem d_Tp_number_23 : decode (cd m_Tp_number) 23 = .ok (.ladd, 1) := by decide +kernel
theorem d_Tp_number_24 : decode (cd m_Tp_number) 24 = .ok (.ldc2_w 37, 3) := by decide +kernel
theorem d_Tp_number_27 : decode (cd m_Tp_number) 27 = .ok (.lsub, 1) := by decide +kernel
theorem d_Tp_number_28 : decode (cd m_Tp_number) 28 = .ok (.lstore_n 3, 1) := by decide +kernel
theorem d_Tp_number_29 : decode (cd m_Tp_number) 29 = .ok (.iinc 5 1, 3) := by decide +kernel
theorem d_Tp_number_32 : decode (cd m_Tp_number) 32 = .ok (.goto (-27), 3) := by decide +kernel
theorem d_Tp_number_35 : decode (cd m_Tp_number) 35 = .ok (.lload_n 3, 1) := by decide +kernel
theorem d_Tp_number_36 : decode (cd m_Tp_number) 36 = .ok (.lreturn, 1) := by decide +kernel

/-! decode rows (by program) -/
theorem d_Rd_init_0 : decode (cd m_Rd_init) 0 = .ok (.aload_n 0, 1) := by decide +kernel
theorem d_Rd_init_1 : decode (cd m_Rd_init) 1 = .ok (.invokespecial 3, 3) := by decide +kernel
theorem d_Rd_init_4 : decode (cd m_Rd_init) 4 = .ok (.aload_n 0, 1) := by decide +kernel
theorem d_Rd_init_5 : decode (cd m_Rd_init) 5 = .ok (.new 9, 3) := by decide +kernel
theorem d_Rd_init_8 : decode (cd m_Rd_init) 8 = .ok (.dup, 1) := by decide +kernel
theorem d_Rd_init_9 : decode (cd m_Rd_init) 9 = .ok (.invokespecial 11, 3) := by decide +kernel
theorem d_Rd_init_12 : decode (cd m_Rd_init) 12 = .ok (.putfield 12, 3) := by decide +kernel
theorem d_Rd_init_15 : decode (cd m_Rd_init) 15 = .ok (.aload_n 0, 1) := by decide +kernel
theorem d_Rd_init_16 : decode (cd m_Rd_init) 16 = .ok (.new 18, 3) := by decide +kernel
theorem d_Rd_init_19 : decode (cd m_Rd_init) 19 = .ok (.dup, 1) := by decide +kernel
theorem d_Rd_init_20 : decode (cd m_Rd_init) 20 = .ok (.invokespecial 20, 3) := by decide +kernel
theorem d_Rd_init_23 : decode (cd m_Rd_init) 23 = .ok (.putfield 21, 3) := by decide +kernel
theorem d_Rd_init_26 : decode (cd m_Rd_init) 26 = .ok (.aload_n 0, 1) := by decide +kernel
theorem d_Rd_init_27 : decode (cd m_Rd_init) 27 = .ok (.new 25, 3) := by decide +kernel
theorem d_Rd_init_30 : decode (cd m_Rd_init) 30 = .ok (.dup, 1) := by decide +kernel
theorem d_Rd_init_31 : decode (cd m_Rd_init) 31 = .ok (.invokespecial 27, 3) := by decide +kernel
theorem d_Rd_init_34 : decode (cd m_Rd_init) 34 = .ok (.putfield 28, 3) := by decide +kernel
theorem d_Rd_init_37 : decode (cd m_Rd_init) 37 = .ok (.return_, 1) := by decide +kernel
theorem d_Rd_read_0 : decode (cd m_Rd_read) 0 = .ok (.aload_n 0, 1) := by decide +kernel
theorem d_Rd_read_1 : decode (cd m_Rd_read) 1 = .ok (.getfield 12, 3) := by decide +kernel
theorem d_Rd_read_4 : decode (cd m_Rd_read) 4 = .ok (.aload_n 1, 1) := by decide +kernel
theorem d_Rd_read_5 : decode (cd m_Rd_read) 5 = .ok (.invokevirtual 32, 3) := by decide +kernel
theorem d_Rd_read_8 : decode (cd m_Rd_read) 8 = .ok (.aload_n 0, 1) := by decide +kernel
theorem d_Rd_read_9 : decode (cd m_Rd_read) 9 = .ok (.aload_n 2, 1) := by decide +kernel
theorem d_Rd_read_10 : decode (cd m_Rd_read) 10 = .ok (.putfield 36, 3) := by decide +kernel
theorem d_Rd_read_13 : decode (cd m_Rd_read) 13 = .ok (.aload_n 0, 1) := by decide +kernel
theorem d_Rd_read_14 : decode (cd m_Rd_read) 14 = .ok (.getfield 36, 3) := by decide +kernel
theorem d_Rd_read_17 : decode (cd m_Rd_read) 17 = .ok (.invokevirtual 40, 3) := by decide +kernel
theorem d_Rd_read_20 : decode (cd m_Rd_read) 20 = .ok (.aload_n 0, 1) := by decide +kernel
theorem d_Rd_read_21 : decode (cd m_Rd_read) 21 = .ok (.getfield 28, 3) := by decide +kernel
theorem d_Rd_read_24 : decode (cd m_Rd_read) 24 = .ok (.iconst 0, 1) := by decide +kernel
theorem d_Rd_read_25 : decode (cd m_Rd_read) 25 = .ok (.putfield 45, 3) := by decide +kernel
theorem d_Rd_read_28 : decode (cd m_Rd_read) 28 = .ok (.aload_n 0, 1) := by decide +kernel
theorem d_Rd_read_29 : decode (cd m_Rd_read) 29 = .ok (.iconst 0, 1) := by decide +kernel
theorem d_Rd_read_30 : decode (cd m_Rd_read) 30 = .ok (.putfield 49, 3) := by decide +kernel
theorem d_Rd_read_33 : decode (cd m_Rd_read) 33 = .ok (.aload_n 0, 1) := by decide +kernel
theorem d_Rd_read_34 : decode (cd m_Rd_read) 34 = .ok (.iconst 0, 1) := by decide +kernel
theorem d_Rd_read_35 : decode (cd m_Rd_read) 35 = .ok (.putfield 52, 3) := by decide +kernel
theorem d_Rd_read_38 : decode (cd m_Rd_read) 38 = .ok (.aload_n 0, 1) := by decide +kernel
theorem d_Rd_read_39 : decode (cd m_Rd_read) 39 = .ok (.iconst 0, 1) := by decide +kernel
theorem d_Rd_read_40 : decode (cd m_Rd_read) 40 = .ok (.invokevirtual 55, 3) := by decide +kernel
theorem d_Rd_read_43 : decode (cd m_Rd_read) 43 = .ok (.iconst 0, 1) := by decide +kernel
theorem d_Rd_read_44 : decode (cd m_Rd_read) 44 = .ok (.istore_n 3, 1) := by decide +kernel
theorem d_Rd_read_45 : decode (cd m_Rd_read) 45 = .ok (.iload_n 3, 1) := by decide +kernel
theorem d_Rd_read_46 : decode (cd m_Rd_read) 46 = .ok (.aload_n 0, 1) := by decide +kernel
theorem d_Rd_read_47 : decode (cd m_Rd_read) 47 = .ok (.getfield 12, 3) := by decide +kernel
theorem d_Rd_read_50 : decode (cd m_Rd_read) 50 = .ok (.getfield 59, 3) := by decide +kernel
theorem d_Rd_read_53 : decode (cd m_Rd_read) 53 = .ok (.if_icmp .ge 79, 3) := by decide +kernel
theorem d_Rd_read_56 : decode (cd m_Rd_read) 56 = .ok (.aload_n 0, 1) := by decide +kernel
theorem d_Rd_read_57 : decode (cd m_Rd_read) 57 = .ok (.getfield 60, 3) := by decide +kernel
theorem d_Rd_read_60 : decode (cd m_Rd_read) 60 = .ok (.ifCond .eq 72, 3) := by decide +kernel
theorem d_Rd_read_63 : decode (cd m_Rd_read) 63 = .ok (.aload_n 0, 1) := by decide +kernel
theorem d_Rd_read_64 : decode (cd m_Rd_read) 64 = .ok (.getfield 21, 3) := by decide +kernel
theorem d_Rd_read_67 : decode (cd m_Rd_read) 67 = .ok (.aload_n 0, 1) := by decide +kernel
theorem d_Rd_read_68 : decode (cd m_Rd_read) 68 = .ok (.getfield 63, 3) := by decide +kernel
theorem d_Rd_read_71 : decode (cd m_Rd_read) 71 = .ok (.invokevirtual 66, 3) := by decide +kernel
theorem d_Rd_read_74 : decode (cd m_Rd_read) 74 = .ok (.aload_n 0, 1) := by decide +kernel
theorem d_Rd_read_75 : decode (cd m_Rd_read) 75 = .ok (.aload_n 0, 1) := by decide +kernel
theorem d_Rd_read_76 : decode (cd m_Rd_read) 76 = .ok (.getfield 21, 3) := by decide +kernel
theorem d_Rd_read_79 : decode (cd m_Rd_read) 79 = .ok (.getfield 69, 3) := by decide +kernel
theorem d_Rd_read_82 : decode (cd m_Rd_read) 82 = .ok (.invokevirtual 73, 3) := by decide +kernel
theorem d_Rd_read_85 : decode (cd m_Rd_read) 85 = .ok (.ifCond .eq 10, 3) := by decide +kernel
theorem d_Rd_read_88 : decode (cd m_Rd_read) 88 = .ok (.aload_n 0, 1) := by decide +kernel
theorem d_Rd_read_89 : decode (cd m_Rd_read) 89 = .ok (.invokevirtual 77, 3) := by decide +kernel
theorem d_Rd_read_92 : decode (cd m_Rd_read) 92 = .ok (.ifCond .ne 5, 3) := by decide +kernel
theorem d_Rd_read_95 : decode (cd m_Rd_read) 95 = .ok (.iconst 0, 1) := by decide +kernel
theorem d_Rd_read_96 : decode (cd m_Rd_read) 96 = .ok (.ireturn, 1) := by decide +kernel
theorem d_Rd_read_97 : decode (cd m_Rd_read) 97 = .ok (.aload_n 0, 1) := by decide +kernel
theorem d_Rd_read_98 : decode (cd m_Rd_read) 98 = .ok (.getfield 21, 3) := by decide +kernel
theorem d_Rd_read_101 : decode (cd m_Rd_read) 101 = .ok (.getfield 81, 3) := by decide +kernel
theorem d_Rd_read_104 : decode (cd m_Rd_read) 104 = .ok (.ifCond .le 13, 3) := by decide +kernel
theorem d_Rd_read_107 : decode (cd m_Rd_read) 107 = .ok (.aload_n 0, 1) := by decide +kernel
theorem d_Rd_read_108 : decode (cd m_Rd_read) 108 = .ok (.invokevirtual 84, 3) := by decide +kernel
theorem d_Rd_read_111 : decode (cd m_Rd_read) 111 = .ok (.ifCond .eq 13, 3) := by decide +kernel
theorem d_Rd_read_114 : decode (cd m_Rd_read) 114 = .ok (.goto 12, 3) := by decide +kernel
theorem d_Rd_read_117 : decode (cd m_Rd_read) 117 = .ok (.aload_n 0, 1) := by decide +kernel
theorem d_Rd_read_118 : decode (cd m_Rd_read) 118 = .ok (.invokevirtual 87, 3) := by decide +kernel
theorem d_Rd_read_121 : decode (cd m_Rd_read) 121 = .ok (.ifCond .ne 5, 3) := by decide +kernel
theorem d_Rd_read_124 : decode (cd m_Rd_read) 124 = .ok (.iconst 0, 1) := by decide +kernel
theorem d_Rd_read_125 : decode (cd m_Rd_read) 125 = .ok (.ireturn, 1) := by decide +kernel
theorem d_Rd_read_126 : decode (cd m_Rd_read) 126 = .ok (.iinc 3 1, 3) := by decide +kernel
theorem d_Rd_read_129 : decode (cd m_Rd_read) 129 = .ok (.goto (-84), 3) := by decide +kernel
theorem d_Rd_read_132 : decode (cd m_Rd_read) 132 = .ok (.aload_n 0, 1) := by decide +kernel
theorem d_Rd_read_133 : decode (cd m_Rd_read) 133 = .ok (.getfield 49, 3) := by decide +kernel
theorem d_Rd_read_136 : decode (cd m_Rd_read) 136 = .ok (.ifCond .ne 7, 3) := by decide +kernel
theorem d_Rd_read_139 : decode (cd m_Rd_read) 139 = .ok (.aload_n 0, 1) := by decide +kernel
theorem d_Rd_read_140 : decode (cd m_Rd_read) 140 = .ok (.invokevirtual 90, 3) := by decide +kernel
theorem d_Rd_read_143 : decode (cd m_Rd_read) 143 = .ok (.aload_n 0, 1) := by decide +kernel
theorem d_Rd_read_144 : decode (cd m_Rd_read) 144 = .ok (.getfield 49, 3) := by decide +kernel
theorem d_Rd_read_147 : decode (cd m_Rd_read) 147 = .ok (.ifCond .ne 7, 3) := by decide +kernel
theorem d_Rd_read_150 : decode (cd m_Rd_read) 150 = .ok (.iconst 1, 1) := by decide +kernel
theorem d_Rd_read_151 : decode (cd m_Rd_read) 151 = .ok (.goto 4, 3) := by decide +kernel
theorem d_Rd_read_154 : decode (cd m_Rd_read) 154 = .ok (.iconst 0, 1) := by decide +kernel
theorem d_Rd_read_155 : decode (cd m_Rd_read) 155 = .ok (.ireturn, 1) := by decide +kernel
theorem d_Rd_finish_0 : decode (cd m_Rd_finish) 0 = .ok (.aload_n 0, 1) := by decide +kernel
theorem d_Rd_finish_1 : decode (cd m_Rd_finish) 1 = .ok (.getfield 36, 3) := by decide +kernel
theorem d_Rd_finish_4 : decode (cd m_Rd_finish) 4 = .ok (.invokevirtual 93, 3) := by decide +kernel
theorem d_Rd_finish_7 : decode (cd m_Rd_finish) 7 = .ok (.aload_n 0, 1) := by decide +kernel
theorem d_Rd_finish_8 : decode (cd m_Rd_finish) 8 = .ok (.getfield 36, 3) := by decide +kernel
theorem d_Rd_finish_11 : decode (cd m_Rd_finish) 11 = .ok (.invokevirtual 96, 3) := by decide +kernel
theorem d_Rd_finish_14 : decode (cd m_Rd_finish) 14 = .ok (.istore_n 1, 1) := by decide +kernel
theorem d_Rd_finish_15 : decode (cd m_Rd_finish) 15 = .ok (.iload_n 1, 1) := by decide +kernel
theorem d_Rd_finish_16 : decode (cd m_Rd_finish) 16 = .ok (.iconst (-1), 1) := by decide +kernel
theorem d_Rd_finish_17 : decode (cd m_Rd_finish) 17 = .ok (.if_icmp .eq 12, 3) := by decide +kernel
theorem d_Rd_finish_20 : decode (cd m_Rd_finish) 20 = .ok (.aload_n 0, 1) := by decide +kernel
theorem d_Rd_finish_21 : decode (cd m_Rd_finish) 21 = .ok (.iconst 4, 1) := by decide +kernel
theorem d_Rd_finish_22 : decode (cd m_Rd_finish) 22 = .ok (.iload_n 1, 1) := by decide +kernel
theorem d_Rd_finish_23 : decode (cd m_Rd_finish) 23 = .ok (.invokevirtual 100, 3) := by decide +kernel
theorem d_Rd_finish_26 : decode (cd m_Rd_finish) 26 = .ok (.goto 10, 3) := by decide +kernel
theorem d_Rd_finish_29 : decode (cd m_Rd_finish) 29 = .ok (.aload_n 0, 1) := by decide +kernel
theorem d_Rd_finish_30 : decode (cd m_Rd_finish) 30 = .ok (.getfield 36, 3) := by decide +kernel
theorem d_Rd_finish_33 : decode (cd m_Rd_finish) 33 = .ok (.invokevirtual 104, 3) := by decide +kernel
theorem d_Rd_finish_36 : decode (cd m_Rd_finish) 36 = .ok (.return_, 1) := by decide +kernel
theorem d_Rd_moveTo_0 : decode (cd m_Rd_moveTo) 0 = .ok (.iload_n 1, 1) := by decide +kernel
theorem d_Rd_moveTo_1 : decode (cd m_Rd_moveTo) 1 = .ok (.ifCond .lt 58, 3) := by decide +kernel
theorem d_Rd_moveTo_4 : decode (cd m_Rd_moveTo) 4 = .ok (.iload_n 1, 1) := by decide +kernel
theorem d_Rd_moveTo_5 : decode (cd m_Rd_moveTo) 5 = .ok (.aload_n 0, 1) := by decide +kernel
theorem d_Rd_moveTo_6 : decode (cd m_Rd_moveTo) 6 = .ok (.getfield 12, 3) := by decide +kernel
theorem d_Rd_moveTo_9 : decode (cd m_Rd_moveTo) 9 = .ok (.getfield 59, 3) := by decide +kernel
theorem d_Rd_moveTo_12 : decode (cd m_Rd_moveTo) 12 = .ok (.if_icmp .ge 47, 3) := by decide +kernel
theorem d_Rd_moveTo_15 : decode (cd m_Rd_moveTo) 15 = .ok (.aload_n 0, 1) := by decide +kernel
theorem d_Rd_moveTo_16 : decode (cd m_Rd_moveTo) 16 = .ok (.iload_n 1, 1) := by decide +kernel
theorem d_Rd_moveTo_17 : decode (cd m_Rd_moveTo) 17 = .ok (.putfield 107, 3) := by decide +kernel
theorem d_Rd_moveTo_20 : decode (cd m_Rd_moveTo) 20 = .ok (.aload_n 0, 1) := by decide +kernel
theorem d_Rd_moveTo_21 : decode (cd m_Rd_moveTo) 21 = .ok (.aload_n 0, 1) := by decide +kernel
theorem d_Rd_moveTo_22 : decode (cd m_Rd_moveTo) 22 = .ok (.getfield 12, 3) := by decide +kernel
theorem d_Rd_moveTo_25 : decode (cd m_Rd_moveTo) 25 = .ok (.getfield 110, 3) := by decide +kernel
theorem d_Rd_moveTo_28 : decode (cd m_Rd_moveTo) 28 = .ok (.iload_n 1, 1) := by decide +kernel
theorem d_Rd_moveTo_29 : decode (cd m_Rd_moveTo) 29 = .ok (.iaload, 1) := by decide +kernel
theorem d_Rd_moveTo_30 : decode (cd m_Rd_moveTo) 30 = .ok (.putfield 60, 3) := by decide +kernel
theorem d_Rd_moveTo_33 : decode (cd m_Rd_moveTo) 33 = .ok (.aload_n 0, 1) := by decide +kernel
theorem d_Rd_moveTo_34 : decode (cd m_Rd_moveTo) 34 = .ok (.aload_n 0, 1) := by decide +kernel
theorem d_Rd_moveTo_35 : decode (cd m_Rd_moveTo) 35 = .ok (.getfield 12, 3) := by decide +kernel
theorem d_Rd_moveTo_38 : decode (cd m_Rd_moveTo) 38 = .ok (.getfield 114, 3) := by decide +kernel
theorem d_Rd_moveTo_41 : decode (cd m_Rd_moveTo) 41 = .ok (.iload_n 1, 1) := by decide +kernel
theorem d_Rd_moveTo_42 : decode (cd m_Rd_moveTo) 42 = .ok (.iaload, 1) := by decide +kernel
theorem d_Rd_moveTo_43 : decode (cd m_Rd_moveTo) 43 = .ok (.putfield 63, 3) := by decide +kernel
theorem d_Rd_moveTo_46 : decode (cd m_Rd_moveTo) 46 = .ok (.aload_n 0, 1) := by decide +kernel
theorem d_Rd_moveTo_47 : decode (cd m_Rd_moveTo) 47 = .ok (.aload_n 0, 1) := by decide +kernel
theorem d_Rd_moveTo_48 : decode (cd m_Rd_moveTo) 48 = .ok (.getfield 12, 3) := by decide +kernel
theorem d_Rd_moveTo_51 : decode (cd m_Rd_moveTo) 51 = .ok (.getfield 117, 3) := by decide +kernel
theorem d_Rd_moveTo_54 : decode (cd m_Rd_moveTo) 54 = .ok (.iload_n 1, 1) := by decide +kernel
theorem d_Rd_moveTo_55 : decode (cd m_Rd_moveTo) 55 = .ok (.laload, 1) := by decide +kernel
theorem d_Rd_moveTo_56 : decode (cd m_Rd_moveTo) 56 = .ok (.putfield 121, 3) := by decide +kernel
theorem d_Rd_moveTo_59 : decode (cd m_Rd_moveTo) 59 = .ok (.return_, 1) := by decide +kernel
theorem d_Rd_refuse_0 : decode (cd m_Rd_refuse) 0 = .ok (.aload_n 0, 1) := by decide +kernel
theorem d_Rd_refuse_1 : decode (cd m_Rd_refuse) 1 = .ok (.iconst 1, 1) := by decide +kernel
theorem d_Rd_refuse_2 : decode (cd m_Rd_refuse) 2 = .ok (.putfield 49, 3) := by decide +kernel
theorem d_Rd_refuse_5 : decode (cd m_Rd_refuse) 5 = .ok (.aload_n 0, 1) := by decide +kernel
theorem d_Rd_refuse_6 : decode (cd m_Rd_refuse) 6 = .ok (.iload_n 1, 1) := by decide +kernel
theorem d_Rd_refuse_7 : decode (cd m_Rd_refuse) 7 = .ok (.putfield 52, 3) := by decide +kernel
theorem d_Rd_refuse_10 : decode (cd m_Rd_refuse) 10 = .ok (.iconst 0, 1) := by decide +kernel
theorem d_Rd_refuse_11 : decode (cd m_Rd_refuse) 11 = .ok (.ireturn, 1) := by decide +kernel
theorem d_Rd_note_0 : decode (cd m_Rd_note) 0 = .ok (.aload_n 0, 1) := by decide +kernel
theorem d_Rd_note_1 : decode (cd m_Rd_note) 1 = .ok (.getfield 49, 3) := by decide +kernel
theorem d_Rd_note_4 : decode (cd m_Rd_note) 4 = .ok (.ifCond .eq 11, 3) := by decide +kernel
theorem d_Rd_note_7 : decode (cd m_Rd_note) 7 = .ok (.iload_n 2, 1) := by decide +kernel
theorem d_Rd_note_8 : decode (cd m_Rd_note) 8 = .ok (.aload_n 0, 1) := by decide +kernel
theorem d_Rd_note_9 : decode (cd m_Rd_note) 9 = .ok (.getfield 52, 3) := by decide +kernel
theorem d_Rd_note_12 : decode (cd m_Rd_note) 12 = .ok (.if_icmp .ge 13, 3) := by decide +kernel
theorem d_Rd_note_15 : decode (cd m_Rd_note) 15 = .ok (.aload_n 0, 1) := by decide +kernel
theorem d_Rd_note_16 : decode (cd m_Rd_note) 16 = .ok (.iload_n 1, 1) := by decide +kernel
theorem d_Rd_note_17 : decode (cd m_Rd_note) 17 = .ok (.putfield 49, 3) := by decide +kernel
theorem d_Rd_note_20 : decode (cd m_Rd_note) 20 = .ok (.aload_n 0, 1) := by decide +kernel
theorem d_Rd_note_21 : decode (cd m_Rd_note) 21 = .ok (.iload_n 2, 1) := by decide +kernel
theorem d_Rd_note_22 : decode (cd m_Rd_note) 22 = .ok (.putfield 52, 3) := by decide +kernel
theorem d_Rd_note_25 : decode (cd m_Rd_note) 25 = .ok (.return_, 1) := by decide +kernel
theorem d_Rd_take_0 : decode (cd m_Rd_take) 0 = .ok (.aload_n 0, 1) := by decide +kernel
theorem d_Rd_take_1 : decode (cd m_Rd_take) 1 = .ok (.getfield 60, 3) := by decide +kernel
theorem d_Rd_take_4 : decode (cd m_Rd_take) 4 = .ok (.iload_n 1, 1) := by decide +kernel
theorem d_Rd_take_5 : decode (cd m_Rd_take) 5 = .ok (.if_icmp .eq 12, 3) := by decide +kernel
theorem d_Rd_take_8 : decode (cd m_Rd_take) 8 = .ok (.aload_n 0, 1) := by decide +kernel
theorem d_Rd_take_9 : decode (cd m_Rd_take) 9 = .ok (.aload_n 0, 1) := by decide +kernel
theorem d_Rd_take_10 : decode (cd m_Rd_take) 10 = .ok (.getfield 63, 3) := by decide +kernel
theorem d_Rd_take_13 : decode (cd m_Rd_take) 13 = .ok (.invokevirtual 125, 3) := by decide +kernel
theorem d_Rd_take_16 : decode (cd m_Rd_take) 16 = .ok (.ireturn, 1) := by decide +kernel
theorem d_Rd_take_17 : decode (cd m_Rd_take) 17 = .ok (.aload_n 0, 1) := by decide +kernel
theorem d_Rd_take_18 : decode (cd m_Rd_take) 18 = .ok (.aload_n 0, 1) := by decide +kernel
theorem d_Rd_take_19 : decode (cd m_Rd_take) 19 = .ok (.getfield 107, 3) := by decide +kernel
theorem d_Rd_take_22 : decode (cd m_Rd_take) 22 = .ok (.iconst 1, 1) := by decide +kernel
theorem d_Rd_take_23 : decode (cd m_Rd_take) 23 = .ok (.iadd, 1) := by decide +kernel
theorem d_Rd_take_24 : decode (cd m_Rd_take) 24 = .ok (.invokevirtual 55, 3) := by decide +kernel
theorem d_Rd_take_27 : decode (cd m_Rd_take) 27 = .ok (.iconst 1, 1) := by decide +kernel
theorem d_Rd_take_28 : decode (cd m_Rd_take) 28 = .ok (.ireturn, 1) := by decide +kernel
theorem d_Rd_readBody_0 : decode (cd m_Rd_readBody) 0 = .ok (.aload_n 0, 1) := by decide +kernel
theorem d_Rd_readBody_1 : decode (cd m_Rd_readBody) 1 = .ok (.getfield 60, 3) := by decide +kernel
theorem d_Rd_readBody_4 : decode (cd m_Rd_readBody) 4 = .ok (.bipush 8, 2) := by decide +kernel
theorem d_Rd_readBody_6 : decode (cd m_Rd_readBody) 6 = .ok (.if_icmp .ne 5, 3) := by decide +kernel
theorem d_Rd_readBody_9 : decode (cd m_Rd_readBody) 9 = .ok (.iconst 1, 1) := by decide +kernel
theorem d_Rd_readBody_10 : decode (cd m_Rd_readBody) 10 = .ok (.ireturn, 1) := by decide +kernel
theorem d_Rd_readBody_11 : decode (cd m_Rd_readBody) 11 = .ok (.aload_n 0, 1) := by decide +kernel
theorem d_Rd_readBody_12 : decode (cd m_Rd_readBody) 12 = .ok (.getfield 60, 3) := by decide +kernel
theorem d_Rd_readBody_15 : decode (cd m_Rd_readBody) 15 = .ok (.bipush 11, 2) := by decide +kernel
theorem d_Rd_readBody_17 : decode (cd m_Rd_readBody) 17 = .ok (.if_icmp .ne 33, 3) := by decide +kernel
theorem d_Rd_readBody_20 : decode (cd m_Rd_readBody) 20 = .ok (.aload_n 0, 1) := by decide +kernel
theorem d_Rd_readBody_21 : decode (cd m_Rd_readBody) 21 = .ok (.getfield 36, 3) := by decide +kernel
theorem d_Rd_readBody_24 : decode (cd m_Rd_readBody) 24 = .ok (.getfield 129, 3) := by decide +kernel
theorem d_Rd_readBody_27 : decode (cd m_Rd_readBody) 27 = .ok (.getfield 133, 3) := by decide +kernel
theorem d_Rd_readBody_30 : decode (cd m_Rd_readBody) 30 = .ok (.bipush 30, 2) := by decide +kernel
theorem d_Rd_readBody_32 : decode (cd m_Rd_readBody) 32 = .ok (.if_icmp .lt 18, 3) := by decide +kernel
theorem d_Rd_readBody_35 : decode (cd m_Rd_readBody) 35 = .ok (.aload_n 0, 1) := by decide +kernel
theorem d_Rd_readBody_36 : decode (cd m_Rd_readBody) 36 = .ok (.aload_n 0, 1) := by decide +kernel
theorem d_Rd_readBody_37 : decode (cd m_Rd_readBody) 37 = .ok (.getfield 21, 3) := by decide +kernel
theorem d_Rd_readBody_40 : decode (cd m_Rd_readBody) 40 = .ok (.getfield 69, 3) := by decide +kernel
theorem d_Rd_readBody_43 : decode (cd m_Rd_readBody) 43 = .ok (.getfield 136, 3) := by decide +kernel
theorem d_Rd_readBody_46 : decode (cd m_Rd_readBody) 46 = .ok (.invokevirtual 125, 3) := by decide +kernel
theorem d_Rd_readBody_49 : decode (cd m_Rd_readBody) 49 = .ok (.ireturn, 1) := by decide +kernel
theorem d_Rd_readBody_50 : decode (cd m_Rd_readBody) 50 = .ok (.aload_n 0, 1) := by decide +kernel
theorem d_Rd_readBody_51 : decode (cd m_Rd_readBody) 51 = .ok (.bipush 11, 2) := by decide +kernel
theorem d_Rd_readBody_53 : decode (cd m_Rd_readBody) 53 = .ok (.invokevirtual 139, 3) := by decide +kernel
theorem d_Rd_readBody_56 : decode (cd m_Rd_readBody) 56 = .ok (.ifCond .ne 5, 3) := by decide +kernel
theorem d_Rd_readBody_59 : decode (cd m_Rd_readBody) 59 = .ok (.iconst 0, 1) := by decide +kernel
theorem d_Rd_readBody_60 : decode (cd m_Rd_readBody) 60 = .ok (.ireturn, 1) := by decide +kernel
theorem d_Rd_readBody_61 : decode (cd m_Rd_readBody) 61 = .ok (.iconst 0, 1) := by decide +kernel
theorem d_Rd_readBody_62 : decode (cd m_Rd_readBody) 62 = .ok (.istore_n 1, 1) := by decide +kernel
theorem d_Rd_readBody_63 : decode (cd m_Rd_readBody) 63 = .ok (.iload_n 1, 1) := by decide +kernel
theorem d_Rd_readBody_64 : decode (cd m_Rd_readBody) 64 = .ok (.bipush 6, 2) := by decide +kernel
theorem d_Rd_readBody_66 : decode (cd m_Rd_readBody) 66 = .ok (.if_icmp .ge 62, 3) := by decide +kernel
theorem d_Rd_readBody_69 : decode (cd m_Rd_readBody) 69 = .ok (.aload_n 0, 1) := by decide +kernel
theorem d_Rd_readBody_70 : decode (cd m_Rd_readBody) 70 = .ok (.aload_n 0, 1) := by decide +kernel
theorem d_Rd_readBody_71 : decode (cd m_Rd_readBody) 71 = .ok (.getfield 21, 3) := by decide +kernel
theorem d_Rd_readBody_74 : decode (cd m_Rd_readBody) 74 = .ok (.getfield 142, 3) := by decide +kernel
theorem d_Rd_readBody_77 : decode (cd m_Rd_readBody) 77 = .ok (.iload_n 1, 1) := by decide +kernel
theorem d_Rd_readBody_78 : decode (cd m_Rd_readBody) 78 = .ok (.aaload, 1) := by decide +kernel
theorem d_Rd_readBody_79 : decode (cd m_Rd_readBody) 79 = .ok (.invokevirtual 146, 3) := by decide +kernel
theorem d_Rd_readBody_82 : decode (cd m_Rd_readBody) 82 = .ok (.ifCond .ne 5, 3) := by decide +kernel
theorem d_Rd_readBody_85 : decode (cd m_Rd_readBody) 85 = .ok (.iconst 0, 1) := by decide +kernel
theorem d_Rd_readBody_86 : decode (cd m_Rd_readBody) 86 = .ok (.ireturn, 1) := by decide +kernel
theorem d_Rd_readBody_87 : decode (cd m_Rd_readBody) 87 = .ok (.aload_n 0, 1) := by decide +kernel
theorem d_Rd_readBody_88 : decode (cd m_Rd_readBody) 88 = .ok (.getfield 21, 3) := by decide +kernel
theorem d_Rd_readBody_91 : decode (cd m_Rd_readBody) 91 = .ok (.dup, 1) := by decide +kernel
theorem d_Rd_readBody_92 : decode (cd m_Rd_readBody) 92 = .ok (.getfield 81, 3) := by decide +kernel
theorem d_Rd_readBody_95 : decode (cd m_Rd_readBody) 95 = .ok (.iconst 1, 1) := by decide +kernel
theorem d_Rd_readBody_96 : decode (cd m_Rd_readBody) 96 = .ok (.iadd, 1) := by decide +kernel
theorem d_Rd_readBody_97 : decode (cd m_Rd_readBody) 97 = .ok (.putfield 81, 3) := by decide +kernel
theorem d_Rd_readBody_100 : decode (cd m_Rd_readBody) 100 = .ok (.aload_n 0, 1) := by decide +kernel
theorem d_Rd_readBody_101 : decode (cd m_Rd_readBody) 101 = .ok (.getfield 60, 3) := by decide +kernel
theorem d_Rd_readBody_104 : decode (cd m_Rd_readBody) 104 = .ok (.bipush 8, 2) := by decide +kernel
theorem d_Rd_readBody_106 : decode (cd m_Rd_readBody) 106 = .ok (.if_icmp .ne 5, 3) := by decide +kernel
theorem d_Rd_readBody_109 : decode (cd m_Rd_readBody) 109 = .ok (.iconst 1, 1) := by decide +kernel
theorem d_Rd_readBody_110 : decode (cd m_Rd_readBody) 110 = .ok (.ireturn, 1) := by decide +kernel
theorem d_Rd_readBody_111 : decode (cd m_Rd_readBody) 111 = .ok (.aload_n 0, 1) := by decide +kernel
theorem d_Rd_readBody_112 : decode (cd m_Rd_readBody) 112 = .ok (.bipush 7, 2) := by decide +kernel
theorem d_Rd_readBody_114 : decode (cd m_Rd_readBody) 114 = .ok (.invokevirtual 139, 3) := by decide +kernel
theorem d_Rd_readBody_117 : decode (cd m_Rd_readBody) 117 = .ok (.ifCond .ne 5, 3) := by decide +kernel
theorem d_Rd_readBody_120 : decode (cd m_Rd_readBody) 120 = .ok (.iconst 0, 1) := by decide +kernel
theorem d_Rd_readBody_121 : decode (cd m_Rd_readBody) 121 = .ok (.ireturn, 1) := by decide +kernel
theorem d_Rd_readBody_122 : decode (cd m_Rd_readBody) 122 = .ok (.iinc 1 1, 3) := by decide +kernel
theorem d_Rd_readBody_125 : decode (cd m_Rd_readBody) 125 = .ok (.goto (-62), 3) := by decide +kernel
theorem d_Rd_readBody_128 : decode (cd m_Rd_readBody) 128 = .ok (.aload_n 0, 1) := by decide +kernel
theorem d_Rd_readBody_129 : decode (cd m_Rd_readBody) 129 = .ok (.aload_n 0, 1) := by decide +kernel
theorem d_Rd_readBody_130 : decode (cd m_Rd_readBody) 130 = .ok (.getfield 63, 3) := by decide +kernel
theorem d_Rd_readBody_133 : decode (cd m_Rd_readBody) 133 = .ok (.invokevirtual 125, 3) := by decide +kernel
theorem d_Rd_readBody_136 : decode (cd m_Rd_readBody) 136 = .ok (.ireturn, 1) := by decide +kernel
theorem d_Rd_endRule_0 : decode (cd m_Rd_endRule) 0 = .ok (.aload_n 0, 1) := by decide +kernel
theorem d_Rd_endRule_1 : decode (cd m_Rd_endRule) 1 = .ok (.getfield 21, 3) := by decide +kernel
theorem d_Rd_endRule_4 : decode (cd m_Rd_endRule) 4 = .ok (.invokevirtual 149, 3) := by decide +kernel
theorem d_Rd_endRule_7 : decode (cd m_Rd_endRule) 7 = .ok (.istore_n 1, 1) := by decide +kernel
theorem d_Rd_endRule_8 : decode (cd m_Rd_endRule) 8 = .ok (.iload_n 1, 1) := by decide +kernel
theorem d_Rd_endRule_9 : decode (cd m_Rd_endRule) 9 = .ok (.iconst (-1), 1) := by decide +kernel
theorem d_Rd_endRule_10 : decode (cd m_Rd_endRule) 10 = .ok (.if_icmp .eq 9, 3) := by decide +kernel
theorem d_Rd_endRule_13 : decode (cd m_Rd_endRule) 13 = .ok (.aload_n 0, 1) := by decide +kernel
theorem d_Rd_endRule_14 : decode (cd m_Rd_endRule) 14 = .ok (.iconst 3, 1) := by decide +kernel
theorem d_Rd_endRule_15 : decode (cd m_Rd_endRule) 15 = .ok (.iload_n 1, 1) := by decide +kernel
theorem d_Rd_endRule_16 : decode (cd m_Rd_endRule) 16 = .ok (.invokevirtual 100, 3) := by decide +kernel
theorem d_Rd_endRule_19 : decode (cd m_Rd_endRule) 19 = .ok (.aload_n 0, 1) := by decide +kernel
theorem d_Rd_endRule_20 : decode (cd m_Rd_endRule) 20 = .ok (.getfield 36, 3) := by decide +kernel
theorem d_Rd_endRule_23 : decode (cd m_Rd_endRule) 23 = .ok (.aload_n 0, 1) := by decide +kernel
theorem d_Rd_endRule_24 : decode (cd m_Rd_endRule) 24 = .ok (.getfield 21, 3) := by decide +kernel
theorem d_Rd_endRule_27 : decode (cd m_Rd_endRule) 27 = .ok (.invokevirtual 152, 3) := by decide +kernel
theorem d_Rd_endRule_30 : decode (cd m_Rd_endRule) 30 = .ok (.aload_n 0, 1) := by decide +kernel
theorem d_Rd_endRule_31 : decode (cd m_Rd_endRule) 31 = .ok (.bipush 8, 2) := by decide +kernel
theorem d_Rd_endRule_33 : decode (cd m_Rd_endRule) 33 = .ok (.invokevirtual 139, 3) := by decide +kernel
theorem d_Rd_endRule_36 : decode (cd m_Rd_endRule) 36 = .ok (.ireturn, 1) := by decide +kernel
theorem d_Rd_endFact_0 : decode (cd m_Rd_endFact) 0 = .ok (.aload_n 0, 1) := by decide +kernel
theorem d_Rd_endFact_1 : decode (cd m_Rd_endFact) 1 = .ok (.getfield 21, 3) := by decide +kernel
theorem d_Rd_endFact_4 : decode (cd m_Rd_endFact) 4 = .ok (.invokevirtual 156, 3) := by decide +kernel
theorem d_Rd_endFact_7 : decode (cd m_Rd_endFact) 7 = .ok (.istore_n 1, 1) := by decide +kernel
theorem d_Rd_endFact_8 : decode (cd m_Rd_endFact) 8 = .ok (.iload_n 1, 1) := by decide +kernel
theorem d_Rd_endFact_9 : decode (cd m_Rd_endFact) 9 = .ok (.iconst (-1), 1) := by decide +kernel
theorem d_Rd_endFact_10 : decode (cd m_Rd_endFact) 10 = .ok (.if_icmp .eq 9, 3) := by decide +kernel
theorem d_Rd_endFact_13 : decode (cd m_Rd_endFact) 13 = .ok (.aload_n 0, 1) := by decide +kernel
theorem d_Rd_endFact_14 : decode (cd m_Rd_endFact) 14 = .ok (.iload_n 1, 1) := by decide +kernel
theorem d_Rd_endFact_15 : decode (cd m_Rd_endFact) 15 = .ok (.invokevirtual 125, 3) := by decide +kernel
theorem d_Rd_endFact_18 : decode (cd m_Rd_endFact) 18 = .ok (.ireturn, 1) := by decide +kernel
theorem d_Rd_endFact_19 : decode (cd m_Rd_endFact) 19 = .ok (.aload_n 0, 1) := by decide +kernel
theorem d_Rd_endFact_20 : decode (cd m_Rd_endFact) 20 = .ok (.getfield 28, 3) := by decide +kernel
theorem d_Rd_endFact_23 : decode (cd m_Rd_endFact) 23 = .ok (.aload_n 0, 1) := by decide +kernel
theorem d_Rd_endFact_24 : decode (cd m_Rd_endFact) 24 = .ok (.getfield 21, 3) := by decide +kernel
theorem d_Rd_endFact_27 : decode (cd m_Rd_endFact) 27 = .ok (.getfield 69, 3) := by decide +kernel
theorem d_Rd_endFact_30 : decode (cd m_Rd_endFact) 30 = .ok (.invokevirtual 159, 3) := by decide +kernel
theorem d_Rd_endFact_33 : decode (cd m_Rd_endFact) 33 = .ok (.ifCond .eq 20, 3) := by decide +kernel
theorem d_Rd_endFact_36 : decode (cd m_Rd_endFact) 36 = .ok (.aload_n 0, 1) := by decide +kernel
theorem d_Rd_endFact_37 : decode (cd m_Rd_endFact) 37 = .ok (.getfield 36, 3) := by decide +kernel
theorem d_Rd_endFact_40 : decode (cd m_Rd_endFact) 40 = .ok (.aload_n 0, 1) := by decide +kernel
theorem d_Rd_endFact_41 : decode (cd m_Rd_endFact) 41 = .ok (.getfield 21, 3) := by decide +kernel
theorem d_Rd_endFact_44 : decode (cd m_Rd_endFact) 44 = .ok (.getfield 69, 3) := by decide +kernel
theorem d_Rd_endFact_47 : decode (cd m_Rd_endFact) 47 = .ok (.getfield 162, 3) := by decide +kernel
theorem d_Rd_endFact_50 : decode (cd m_Rd_endFact) 50 = .ok (.invokevirtual 165, 3) := by decide +kernel
theorem d_Rd_endFact_53 : decode (cd m_Rd_endFact) 53 = .ok (.aload_n 0, 1) := by decide +kernel
theorem d_Rd_endFact_54 : decode (cd m_Rd_endFact) 54 = .ok (.bipush 8, 2) := by decide +kernel
theorem d_Rd_endFact_56 : decode (cd m_Rd_endFact) 56 = .ok (.invokevirtual 139, 3) := by decide +kernel
theorem d_Rd_endFact_59 : decode (cd m_Rd_endFact) 59 = .ok (.ireturn, 1) := by decide +kernel
theorem d_Rd_readLiteral_0 : decode (cd m_Rd_readLiteral) 0 = .ok (.aload_n 0, 1) := by decide +kernel
theorem d_Rd_readLiteral_1 : decode (cd m_Rd_readLiteral) 1 = .ok (.getfield 60, 3) := by decide +kernel
theorem d_Rd_readLiteral_4 : decode (cd m_Rd_readLiteral) 4 = .ok (.bipush 9, 2) := by decide +kernel
theorem d_Rd_readLiteral_6 : decode (cd m_Rd_readLiteral) 6 = .ok (.if_icmp .ne 28, 3) := by decide +kernel
theorem d_Rd_readLiteral_9 : decode (cd m_Rd_readLiteral) 9 = .ok (.aload_n 1, 1) := by decide +kernel
theorem d_Rd_readLiteral_10 : decode (cd m_Rd_readLiteral) 10 = .ok (.iconst 1, 1) := by decide +kernel
theorem d_Rd_readLiteral_11 : decode (cd m_Rd_readLiteral) 11 = .ok (.aload_n 0, 1) := by decide +kernel
theorem d_Rd_readLiteral_12 : decode (cd m_Rd_readLiteral) 12 = .ok (.getfield 63, 3) := by decide +kernel
theorem d_Rd_readLiteral_15 : decode (cd m_Rd_readLiteral) 15 = .ok (.invokevirtual 168, 3) := by decide +kernel
theorem d_Rd_readLiteral_18 : decode (cd m_Rd_readLiteral) 18 = .ok (.aload_n 0, 1) := by decide +kernel
theorem d_Rd_readLiteral_19 : decode (cd m_Rd_readLiteral) 19 = .ok (.aload_n 0, 1) := by decide +kernel
theorem d_Rd_readLiteral_20 : decode (cd m_Rd_readLiteral) 20 = .ok (.getfield 107, 3) := by decide +kernel
theorem d_Rd_readLiteral_23 : decode (cd m_Rd_readLiteral) 23 = .ok (.iconst 1, 1) := by decide +kernel
theorem d_Rd_readLiteral_24 : decode (cd m_Rd_readLiteral) 24 = .ok (.iadd, 1) := by decide +kernel
theorem d_Rd_readLiteral_25 : decode (cd m_Rd_readLiteral) 25 = .ok (.invokevirtual 55, 3) := by decide +kernel
theorem d_Rd_readLiteral_28 : decode (cd m_Rd_readLiteral) 28 = .ok (.aload_n 0, 1) := by decide +kernel
theorem d_Rd_readLiteral_29 : decode (cd m_Rd_readLiteral) 29 = .ok (.aload_n 1, 1) := by decide +kernel
theorem d_Rd_readLiteral_30 : decode (cd m_Rd_readLiteral) 30 = .ok (.invokevirtual 73, 3) := by decide +kernel
theorem d_Rd_readLiteral_33 : decode (cd m_Rd_readLiteral) 33 = .ok (.ireturn, 1) := by decide +kernel
theorem d_Rd_readLiteral_34 : decode (cd m_Rd_readLiteral) 34 = .ok (.aload_n 0, 1) := by decide +kernel
theorem d_Rd_readLiteral_35 : decode (cd m_Rd_readLiteral) 35 = .ok (.getfield 60, 3) := by decide +kernel
theorem d_Rd_readLiteral_38 : decode (cd m_Rd_readLiteral) 38 = .ok (.iconst 2, 1) := by decide +kernel
theorem d_Rd_readLiteral_39 : decode (cd m_Rd_readLiteral) 39 = .ok (.if_icmp .ne 58, 3) := by decide +kernel
theorem d_Rd_readLiteral_42 : decode (cd m_Rd_readLiteral) 42 = .ok (.aload_n 0, 1) := by decide +kernel
theorem d_Rd_readLiteral_43 : decode (cd m_Rd_readLiteral) 43 = .ok (.invokevirtual 170, 3) := by decide +kernel
theorem d_Rd_readLiteral_46 : decode (cd m_Rd_readLiteral) 46 = .ok (.ifCond .eq 51, 3) := by decide +kernel
theorem d_Rd_readLiteral_49 : decode (cd m_Rd_readLiteral) 49 = .ok (.aload_n 0, 1) := by decide +kernel
theorem d_Rd_readLiteral_50 : decode (cd m_Rd_readLiteral) 50 = .ok (.getfield 21, 3) := by decide +kernel
theorem d_Rd_readLiteral_53 : decode (cd m_Rd_readLiteral) 53 = .ok (.getfield 173, 3) := by decide +kernel
theorem d_Rd_readLiteral_56 : decode (cd m_Rd_readLiteral) 56 = .ok (.iconst 3, 1) := by decide +kernel
theorem d_Rd_readLiteral_57 : decode (cd m_Rd_readLiteral) 57 = .ok (.if_icmp .lt 12, 3) := by decide +kernel
theorem d_Rd_readLiteral_60 : decode (cd m_Rd_readLiteral) 60 = .ok (.aload_n 0, 1) := by decide +kernel
theorem d_Rd_readLiteral_61 : decode (cd m_Rd_readLiteral) 61 = .ok (.aload_n 0, 1) := by decide +kernel
theorem d_Rd_readLiteral_62 : decode (cd m_Rd_readLiteral) 62 = .ok (.getfield 63, 3) := by decide +kernel
theorem d_Rd_readLiteral_65 : decode (cd m_Rd_readLiteral) 65 = .ok (.invokevirtual 125, 3) := by decide +kernel
theorem d_Rd_readLiteral_68 : decode (cd m_Rd_readLiteral) 68 = .ok (.ireturn, 1) := by decide +kernel
theorem d_Rd_readLiteral_69 : decode (cd m_Rd_readLiteral) 69 = .ok (.aload_n 0, 1) := by decide +kernel
theorem d_Rd_readLiteral_70 : decode (cd m_Rd_readLiteral) 70 = .ok (.getfield 21, 3) := by decide +kernel
theorem d_Rd_readLiteral_73 : decode (cd m_Rd_readLiteral) 73 = .ok (.dup, 1) := by decide +kernel
theorem d_Rd_readLiteral_74 : decode (cd m_Rd_readLiteral) 74 = .ok (.getfield 173, 3) := by decide +kernel
theorem d_Rd_readLiteral_77 : decode (cd m_Rd_readLiteral) 77 = .ok (.iconst 1, 1) := by decide +kernel
theorem d_Rd_readLiteral_78 : decode (cd m_Rd_readLiteral) 78 = .ok (.iadd, 1) := by decide +kernel
theorem d_Rd_readLiteral_79 : decode (cd m_Rd_readLiteral) 79 = .ok (.putfield 173, 3) := by decide +kernel
theorem d_Rd_readLiteral_82 : decode (cd m_Rd_readLiteral) 82 = .ok (.aload_n 1, 1) := by decide +kernel
theorem d_Rd_readLiteral_83 : decode (cd m_Rd_readLiteral) 83 = .ok (.iconst 0, 1) := by decide +kernel
theorem d_Rd_readLiteral_84 : decode (cd m_Rd_readLiteral) 84 = .ok (.aload_n 0, 1) := by decide +kernel
theorem d_Rd_readLiteral_85 : decode (cd m_Rd_readLiteral) 85 = .ok (.getfield 63, 3) := by decide +kernel
theorem d_Rd_readLiteral_88 : decode (cd m_Rd_readLiteral) 88 = .ok (.invokevirtual 168, 3) := by decide +kernel
theorem d_Rd_readLiteral_91 : decode (cd m_Rd_readLiteral) 91 = .ok (.aload_n 0, 1) := by decide +kernel
theorem d_Rd_readLiteral_92 : decode (cd m_Rd_readLiteral) 92 = .ok (.aload_n 1, 1) := by decide +kernel
theorem d_Rd_readLiteral_93 : decode (cd m_Rd_readLiteral) 93 = .ok (.invokevirtual 73, 3) := by decide +kernel
theorem d_Rd_readLiteral_96 : decode (cd m_Rd_readLiteral) 96 = .ok (.ireturn, 1) := by decide +kernel
theorem d_Rd_readLiteral_97 : decode (cd m_Rd_readLiteral) 97 = .ok (.aload_n 0, 1) := by decide +kernel
theorem d_Rd_readLiteral_98 : decode (cd m_Rd_readLiteral) 98 = .ok (.aload_n 1, 1) := by decide +kernel
theorem d_Rd_readLiteral_99 : decode (cd m_Rd_readLiteral) 99 = .ok (.invokevirtual 176, 3) := by decide +kernel
theorem d_Rd_readLiteral_102 : decode (cd m_Rd_readLiteral) 102 = .ok (.ireturn, 1) := by decide +kernel
theorem d_Rd_isOpenNext_0 : decode (cd m_Rd_isOpenNext) 0 = .ok (.aload_n 0, 1) := by decide +kernel
theorem d_Rd_isOpenNext_1 : decode (cd m_Rd_isOpenNext) 1 = .ok (.getfield 107, 3) := by decide +kernel
theorem d_Rd_isOpenNext_4 : decode (cd m_Rd_isOpenNext) 4 = .ok (.iconst 1, 1) := by decide +kernel
theorem d_Rd_isOpenNext_5 : decode (cd m_Rd_isOpenNext) 5 = .ok (.iadd, 1) := by decide +kernel
theorem d_Rd_isOpenNext_6 : decode (cd m_Rd_isOpenNext) 6 = .ok (.aload_n 0, 1) := by decide +kernel
theorem d_Rd_isOpenNext_7 : decode (cd m_Rd_isOpenNext) 7 = .ok (.getfield 12, 3) := by decide +kernel
theorem d_Rd_isOpenNext_10 : decode (cd m_Rd_isOpenNext) 10 = .ok (.getfield 59, 3) := by decide +kernel
theorem d_Rd_isOpenNext_13 : decode (cd m_Rd_isOpenNext) 13 = .ok (.if_icmp .ge 25, 3) := by decide +kernel
theorem d_Rd_isOpenNext_16 : decode (cd m_Rd_isOpenNext) 16 = .ok (.aload_n 0, 1) := by decide +kernel
theorem d_Rd_isOpenNext_17 : decode (cd m_Rd_isOpenNext) 17 = .ok (.getfield 12, 3) := by decide +kernel
theorem d_Rd_isOpenNext_20 : decode (cd m_Rd_isOpenNext) 20 = .ok (.getfield 110, 3) := by decide +kernel
theorem d_Rd_isOpenNext_23 : decode (cd m_Rd_isOpenNext) 23 = .ok (.aload_n 0, 1) := by decide +kernel
theorem d_Rd_isOpenNext_24 : decode (cd m_Rd_isOpenNext) 24 = .ok (.getfield 107, 3) := by decide +kernel
theorem d_Rd_isOpenNext_27 : decode (cd m_Rd_isOpenNext) 27 = .ok (.iconst 1, 1) := by decide +kernel
theorem d_Rd_isOpenNext_28 : decode (cd m_Rd_isOpenNext) 28 = .ok (.iadd, 1) := by decide +kernel
theorem d_Rd_isOpenNext_29 : decode (cd m_Rd_isOpenNext) 29 = .ok (.iaload, 1) := by decide +kernel
theorem d_Rd_isOpenNext_30 : decode (cd m_Rd_isOpenNext) 30 = .ok (.iconst 5, 1) := by decide +kernel
theorem d_Rd_isOpenNext_31 : decode (cd m_Rd_isOpenNext) 31 = .ok (.if_icmp .ne 7, 3) := by decide +kernel
theorem d_Rd_isOpenNext_34 : decode (cd m_Rd_isOpenNext) 34 = .ok (.iconst 1, 1) := by decide +kernel
theorem d_Rd_isOpenNext_35 : decode (cd m_Rd_isOpenNext) 35 = .ok (.goto 4, 3) := by decide +kernel
theorem d_Rd_isOpenNext_38 : decode (cd m_Rd_isOpenNext) 38 = .ok (.iconst 0, 1) := by decide +kernel
theorem d_Rd_isOpenNext_39 : decode (cd m_Rd_isOpenNext) 39 = .ok (.ireturn, 1) := by decide +kernel
theorem d_Rd_readTest_0 : decode (cd m_Rd_readTest) 0 = .ok (.aload_n 0, 1) := by decide +kernel
theorem d_Rd_readTest_1 : decode (cd m_Rd_readTest) 1 = .ok (.getfield 60, 3) := by decide +kernel
theorem d_Rd_readTest_4 : decode (cd m_Rd_readTest) 4 = .ok (.iconst 3, 1) := by decide +kernel
theorem d_Rd_readTest_5 : decode (cd m_Rd_readTest) 5 = .ok (.if_icmp .ne 7, 3) := by decide +kernel
theorem d_Rd_readTest_8 : decode (cd m_Rd_readTest) 8 = .ok (.iconst 1, 1) := by decide +kernel
theorem d_Rd_readTest_9 : decode (cd m_Rd_readTest) 9 = .ok (.goto 4, 3) := by decide +kernel
theorem d_Rd_readTest_12 : decode (cd m_Rd_readTest) 12 = .ok (.iconst 0, 1) := by decide +kernel
theorem d_Rd_readTest_13 : decode (cd m_Rd_readTest) 13 = .ok (.istore_n 2, 1) := by decide +kernel
theorem d_Rd_readTest_14 : decode (cd m_Rd_readTest) 14 = .ok (.aload_n 1, 1) := by decide +kernel
theorem d_Rd_readTest_15 : decode (cd m_Rd_readTest) 15 = .ok (.iconst 2, 1) := by decide +kernel
theorem d_Rd_readTest_16 : decode (cd m_Rd_readTest) 16 = .ok (.aload_n 0, 1) := by decide +kernel
theorem d_Rd_readTest_17 : decode (cd m_Rd_readTest) 17 = .ok (.getfield 63, 3) := by decide +kernel
theorem d_Rd_readTest_20 : decode (cd m_Rd_readTest) 20 = .ok (.invokevirtual 168, 3) := by decide +kernel
theorem d_Rd_readTest_23 : decode (cd m_Rd_readTest) 23 = .ok (.aload_n 0, 1) := by decide +kernel
theorem d_Rd_readTest_24 : decode (cd m_Rd_readTest) 24 = .ok (.aload_n 1, 1) := by decide +kernel
theorem d_Rd_readTest_25 : decode (cd m_Rd_readTest) 25 = .ok (.invokevirtual 179, 3) := by decide +kernel
theorem d_Rd_readTest_28 : decode (cd m_Rd_readTest) 28 = .ok (.ifCond .ne 5, 3) := by decide +kernel
theorem d_Rd_readTest_31 : decode (cd m_Rd_readTest) 31 = .ok (.iconst 0, 1) := by decide +kernel
theorem d_Rd_readTest_32 : decode (cd m_Rd_readTest) 32 = .ok (.ireturn, 1) := by decide +kernel
theorem d_Rd_readTest_33 : decode (cd m_Rd_readTest) 33 = .ok (.iload_n 2, 1) := by decide +kernel
theorem d_Rd_readTest_34 : decode (cd m_Rd_readTest) 34 = .ok (.ifCond .eq 56, 3) := by decide +kernel
theorem d_Rd_readTest_37 : decode (cd m_Rd_readTest) 37 = .ok (.aload_n 0, 1) := by decide +kernel
theorem d_Rd_readTest_38 : decode (cd m_Rd_readTest) 38 = .ok (.getfield 60, 3) := by decide +kernel
theorem d_Rd_readTest_41 : decode (cd m_Rd_readTest) 41 = .ok (.bipush 16, 2) := by decide +kernel
theorem d_Rd_readTest_43 : decode (cd m_Rd_readTest) 43 = .ok (.if_icmp .ne 47, 3) := by decide +kernel
theorem d_Rd_readTest_46 : decode (cd m_Rd_readTest) 46 = .ok (.aload_n 1, 1) := by decide +kernel
theorem d_Rd_readTest_47 : decode (cd m_Rd_readTest) 47 = .ok (.iconst 3, 1) := by decide +kernel
theorem d_Rd_readTest_48 : decode (cd m_Rd_readTest) 48 = .ok (.putfield 182, 3) := by decide +kernel
theorem d_Rd_readTest_51 : decode (cd m_Rd_readTest) 51 = .ok (.aload_n 0, 1) := by decide +kernel
theorem d_Rd_readTest_52 : decode (cd m_Rd_readTest) 52 = .ok (.aload_n 0, 1) := by decide +kernel
theorem d_Rd_readTest_53 : decode (cd m_Rd_readTest) 53 = .ok (.getfield 107, 3) := by decide +kernel
theorem d_Rd_readTest_56 : decode (cd m_Rd_readTest) 56 = .ok (.iconst 1, 1) := by decide +kernel
theorem d_Rd_readTest_57 : decode (cd m_Rd_readTest) 57 = .ok (.iadd, 1) := by decide +kernel
theorem d_Rd_readTest_58 : decode (cd m_Rd_readTest) 58 = .ok (.invokevirtual 55, 3) := by decide +kernel
theorem d_Rd_readTest_61 : decode (cd m_Rd_readTest) 61 = .ok (.aload_n 0, 1) := by decide +kernel
theorem d_Rd_readTest_62 : decode (cd m_Rd_readTest) 62 = .ok (.aload_n 1, 1) := by decide +kernel
theorem d_Rd_readTest_63 : decode (cd m_Rd_readTest) 63 = .ok (.invokevirtual 179, 3) := by decide +kernel
theorem d_Rd_readTest_66 : decode (cd m_Rd_readTest) 66 = .ok (.ifCond .eq 22, 3) := by decide +kernel
theorem d_Rd_readTest_69 : decode (cd m_Rd_readTest) 69 = .ok (.aload_n 0, 1) := by decide +kernel
theorem d_Rd_readTest_70 : decode (cd m_Rd_readTest) 70 = .ok (.invokevirtual 183, 3) := by decide +kernel
theorem d_Rd_readTest_73 : decode (cd m_Rd_readTest) 73 = .ok (.ifCond .eq 15, 3) := by decide +kernel
theorem d_Rd_readTest_76 : decode (cd m_Rd_readTest) 76 = .ok (.aload_n 0, 1) := by decide +kernel
theorem d_Rd_readTest_77 : decode (cd m_Rd_readTest) 77 = .ok (.aload_n 1, 1) := by decide +kernel
theorem d_Rd_readTest_78 : decode (cd m_Rd_readTest) 78 = .ok (.invokevirtual 179, 3) := by decide +kernel
theorem d_Rd_readTest_81 : decode (cd m_Rd_readTest) 81 = .ok (.ifCond .eq 7, 3) := by decide +kernel
theorem d_Rd_readTest_84 : decode (cd m_Rd_readTest) 84 = .ok (.iconst 1, 1) := by decide +kernel
theorem d_Rd_readTest_85 : decode (cd m_Rd_readTest) 85 = .ok (.goto 4, 3) := by decide +kernel
theorem d_Rd_readTest_88 : decode (cd m_Rd_readTest) 88 = .ok (.iconst 0, 1) := by decide +kernel
theorem d_Rd_readTest_89 : decode (cd m_Rd_readTest) 89 = .ok (.ireturn, 1) := by decide +kernel
theorem d_Rd_readTest_90 : decode (cd m_Rd_readTest) 90 = .ok (.aload_n 0, 1) := by decide +kernel
theorem d_Rd_readTest_91 : decode (cd m_Rd_readTest) 91 = .ok (.getfield 60, 3) := by decide +kernel
theorem d_Rd_readTest_94 : decode (cd m_Rd_readTest) 94 = .ok (.bipush 12, 2) := by decide +kernel
theorem d_Rd_readTest_96 : decode (cd m_Rd_readTest) 96 = .ok (.if_icmp .eq 21, 3) := by decide +kernel
theorem d_Rd_readTest_99 : decode (cd m_Rd_readTest) 99 = .ok (.aload_n 0, 1) := by decide +kernel
theorem d_Rd_readTest_100 : decode (cd m_Rd_readTest) 100 = .ok (.getfield 60, 3) := by decide +kernel
theorem d_Rd_readTest_103 : decode (cd m_Rd_readTest) 103 = .ok (.bipush 13, 2) := by decide +kernel
theorem d_Rd_readTest_105 : decode (cd m_Rd_readTest) 105 = .ok (.if_icmp .eq 12, 3) := by decide +kernel
theorem d_Rd_readTest_108 : decode (cd m_Rd_readTest) 108 = .ok (.aload_n 0, 1) := by decide +kernel
theorem d_Rd_readTest_109 : decode (cd m_Rd_readTest) 109 = .ok (.aload_n 0, 1) := by decide +kernel
theorem d_Rd_readTest_110 : decode (cd m_Rd_readTest) 110 = .ok (.getfield 63, 3) := by decide +kernel
theorem d_Rd_readTest_113 : decode (cd m_Rd_readTest) 113 = .ok (.invokevirtual 125, 3) := by decide +kernel
theorem d_Rd_readTest_116 : decode (cd m_Rd_readTest) 116 = .ok (.ireturn, 1) := by decide +kernel
theorem d_Rd_readTest_117 : decode (cd m_Rd_readTest) 117 = .ok (.aload_n 1, 1) := by decide +kernel
theorem d_Rd_readTest_118 : decode (cd m_Rd_readTest) 118 = .ok (.aload_n 0, 1) := by decide +kernel
theorem d_Rd_readTest_119 : decode (cd m_Rd_readTest) 119 = .ok (.getfield 60, 3) := by decide +kernel
theorem d_Rd_readTest_122 : decode (cd m_Rd_readTest) 122 = .ok (.bipush 12, 2) := by decide +kernel
theorem d_Rd_readTest_124 : decode (cd m_Rd_readTest) 124 = .ok (.if_icmp .ne 7, 3) := by decide +kernel
theorem d_Rd_readTest_127 : decode (cd m_Rd_readTest) 127 = .ok (.iconst 1, 1) := by decide +kernel
theorem d_Rd_readTest_128 : decode (cd m_Rd_readTest) 128 = .ok (.goto 4, 3) := by decide +kernel
theorem d_Rd_readTest_131 : decode (cd m_Rd_readTest) 131 = .ok (.iconst 0, 1) := by decide +kernel
theorem d_Rd_readTest_132 : decode (cd m_Rd_readTest) 132 = .ok (.putfield 186, 3) := by decide +kernel
theorem d_Rd_readTest_135 : decode (cd m_Rd_readTest) 135 = .ok (.aload_n 0, 1) := by decide +kernel
theorem d_Rd_readTest_136 : decode (cd m_Rd_readTest) 136 = .ok (.aload_n 0, 1) := by decide +kernel
theorem d_Rd_readTest_137 : decode (cd m_Rd_readTest) 137 = .ok (.getfield 107, 3) := by decide +kernel
theorem d_Rd_readTest_140 : decode (cd m_Rd_readTest) 140 = .ok (.iconst 1, 1) := by decide +kernel
theorem d_Rd_readTest_141 : decode (cd m_Rd_readTest) 141 = .ok (.iadd, 1) := by decide +kernel
theorem d_Rd_readTest_142 : decode (cd m_Rd_readTest) 142 = .ok (.invokevirtual 55, 3) := by decide +kernel
theorem d_Rd_readTest_145 : decode (cd m_Rd_readTest) 145 = .ok (.aload_n 0, 1) := by decide +kernel
theorem d_Rd_readTest_146 : decode (cd m_Rd_readTest) 146 = .ok (.aload_n 1, 1) := by decide +kernel
theorem d_Rd_readTest_147 : decode (cd m_Rd_readTest) 147 = .ok (.invokevirtual 179, 3) := by decide +kernel
theorem d_Rd_readTest_150 : decode (cd m_Rd_readTest) 150 = .ok (.ireturn, 1) := by decide +kernel
theorem d_Rd_readOperation_0 : decode (cd m_Rd_readOperation) 0 = .ok (.aload_n 0, 1) := by decide +kernel
theorem d_Rd_readOperation_1 : decode (cd m_Rd_readOperation) 1 = .ok (.aload_n 0, 1) := by decide +kernel
theorem d_Rd_readOperation_2 : decode (cd m_Rd_readOperation) 2 = .ok (.getfield 60, 3) := by decide +kernel
theorem d_Rd_readOperation_5 : decode (cd m_Rd_readOperation) 5 = .ok (.bipush 14, 2) := by decide +kernel
theorem d_Rd_readOperation_7 : decode (cd m_Rd_readOperation) 7 = .ok (.if_icmp .ne 8, 3) := by decide +kernel
theorem d_Rd_readOperation_10 : decode (cd m_Rd_readOperation) 10 = .ok (.bipush 14, 2) := by decide +kernel
theorem d_Rd_readOperation_12 : decode (cd m_Rd_readOperation) 12 = .ok (.goto 5, 3) := by decide +kernel
theorem d_Rd_readOperation_15 : decode (cd m_Rd_readOperation) 15 = .ok (.bipush 15, 2) := by decide +kernel
theorem d_Rd_readOperation_17 : decode (cd m_Rd_readOperation) 17 = .ok (.invokevirtual 139, 3) := by decide +kernel
theorem d_Rd_readOperation_20 : decode (cd m_Rd_readOperation) 20 = .ok (.ireturn, 1) := by decide +kernel
theorem d_Rd_readAtom_0 : decode (cd m_Rd_readAtom) 0 = .ok (.aload_n 0, 1) := by decide +kernel
theorem d_Rd_readAtom_1 : decode (cd m_Rd_readAtom) 1 = .ok (.getfield 63, 3) := by decide +kernel
theorem d_Rd_readAtom_4 : decode (cd m_Rd_readAtom) 4 = .ok (.istore_n 2, 1) := by decide +kernel
theorem d_Rd_readAtom_5 : decode (cd m_Rd_readAtom) 5 = .ok (.aload_n 0, 1) := by decide +kernel
theorem d_Rd_readAtom_6 : decode (cd m_Rd_readAtom) 6 = .ok (.getfield 60, 3) := by decide +kernel
theorem d_Rd_readAtom_9 : decode (cd m_Rd_readAtom) 9 = .ok (.iconst 2, 1) := by decide +kernel
theorem d_Rd_readAtom_10 : decode (cd m_Rd_readAtom) 10 = .ok (.if_icmp .eq 12, 3) := by decide +kernel
theorem d_Rd_readAtom_13 : decode (cd m_Rd_readAtom) 13 = .ok (.aload_n 0, 1) := by decide +kernel
theorem d_Rd_readAtom_14 : decode (cd m_Rd_readAtom) 14 = .ok (.aload_n 0, 1) := by decide +kernel
theorem d_Rd_readAtom_15 : decode (cd m_Rd_readAtom) 15 = .ok (.getfield 63, 3) := by decide +kernel
theorem d_Rd_readAtom_18 : decode (cd m_Rd_readAtom) 18 = .ok (.invokevirtual 125, 3) := by decide +kernel
theorem d_Rd_readAtom_21 : decode (cd m_Rd_readAtom) 21 = .ok (.ireturn, 1) := by decide +kernel
theorem d_Rd_readAtom_22 : decode (cd m_Rd_readAtom) 22 = .ok (.aload_n 1, 1) := by decide +kernel
theorem d_Rd_readAtom_23 : decode (cd m_Rd_readAtom) 23 = .ok (.aload_n 0, 1) := by decide +kernel
theorem d_Rd_readAtom_24 : decode (cd m_Rd_readAtom) 24 = .ok (.getfield 36, 3) := by decide +kernel
theorem d_Rd_readAtom_27 : decode (cd m_Rd_readAtom) 27 = .ok (.aload_n 0, 1) := by decide +kernel
theorem d_Rd_readAtom_28 : decode (cd m_Rd_readAtom) 28 = .ok (.getfield 121, 3) := by decide +kernel
theorem d_Rd_readAtom_31 : decode (cd m_Rd_readAtom) 31 = .ok (.invokevirtual 190, 3) := by decide +kernel
theorem d_Rd_readAtom_34 : decode (cd m_Rd_readAtom) 34 = .ok (.putfield 162, 3) := by decide +kernel
theorem d_Rd_readAtom_37 : decode (cd m_Rd_readAtom) 37 = .ok (.aload_n 1, 1) := by decide +kernel
theorem d_Rd_readAtom_38 : decode (cd m_Rd_readAtom) 38 = .ok (.getfield 162, 3) := by decide +kernel
theorem d_Rd_readAtom_41 : decode (cd m_Rd_readAtom) 41 = .ok (.iconst (-1), 1) := by decide +kernel
theorem d_Rd_readAtom_42 : decode (cd m_Rd_readAtom) 42 = .ok (.if_icmp .ne 12, 3) := by decide +kernel
theorem d_Rd_readAtom_45 : decode (cd m_Rd_readAtom) 45 = .ok (.aload_n 0, 1) := by decide +kernel
theorem d_Rd_readAtom_46 : decode (cd m_Rd_readAtom) 46 = .ok (.aload_n 0, 1) := by decide +kernel
theorem d_Rd_readAtom_47 : decode (cd m_Rd_readAtom) 47 = .ok (.getfield 63, 3) := by decide +kernel
theorem d_Rd_readAtom_50 : decode (cd m_Rd_readAtom) 50 = .ok (.invokevirtual 125, 3) := by decide +kernel
theorem d_Rd_readAtom_53 : decode (cd m_Rd_readAtom) 53 = .ok (.ireturn, 1) := by decide +kernel
theorem d_Rd_readAtom_54 : decode (cd m_Rd_readAtom) 54 = .ok (.aload_n 0, 1) := by decide +kernel
theorem d_Rd_readAtom_55 : decode (cd m_Rd_readAtom) 55 = .ok (.aload_n 0, 1) := by decide +kernel
theorem d_Rd_readAtom_56 : decode (cd m_Rd_readAtom) 56 = .ok (.getfield 107, 3) := by decide +kernel
theorem d_Rd_readAtom_59 : decode (cd m_Rd_readAtom) 59 = .ok (.iconst 1, 1) := by decide +kernel
theorem d_Rd_readAtom_60 : decode (cd m_Rd_readAtom) 60 = .ok (.iadd, 1) := by decide +kernel
theorem d_Rd_readAtom_61 : decode (cd m_Rd_readAtom) 61 = .ok (.invokevirtual 55, 3) := by decide +kernel
theorem d_Rd_readAtom_64 : decode (cd m_Rd_readAtom) 64 = .ok (.aload_n 0, 1) := by decide +kernel
theorem d_Rd_readAtom_65 : decode (cd m_Rd_readAtom) 65 = .ok (.iconst 5, 1) := by decide +kernel
theorem d_Rd_readAtom_66 : decode (cd m_Rd_readAtom) 66 = .ok (.invokevirtual 139, 3) := by decide +kernel
theorem d_Rd_readAtom_69 : decode (cd m_Rd_readAtom) 69 = .ok (.ifCond .ne 5, 3) := by decide +kernel
theorem d_Rd_readAtom_72 : decode (cd m_Rd_readAtom) 72 = .ok (.iconst 0, 1) := by decide +kernel
theorem d_Rd_readAtom_73 : decode (cd m_Rd_readAtom) 73 = .ok (.ireturn, 1) := by decide +kernel
theorem d_Rd_readAtom_74 : decode (cd m_Rd_readAtom) 74 = .ok (.iconst 0, 1) := by decide +kernel
theorem d_Rd_readAtom_75 : decode (cd m_Rd_readAtom) 75 = .ok (.istore_n 3, 1) := by decide +kernel
theorem d_Rd_readAtom_76 : decode (cd m_Rd_readAtom) 76 = .ok (.iload_n 3, 1) := by decide +kernel
theorem d_Rd_readAtom_77 : decode (cd m_Rd_readAtom) 77 = .ok (.iconst 4, 1) := by decide +kernel
theorem d_Rd_readAtom_78 : decode (cd m_Rd_readAtom) 78 = .ok (.if_icmp .ge 108, 3) := by decide +kernel
theorem d_Rd_readAtom_81 : decode (cd m_Rd_readAtom) 81 = .ok (.aload_n 0, 1) := by decide +kernel
theorem d_Rd_readAtom_82 : decode (cd m_Rd_readAtom) 82 = .ok (.getfield 60, 3) := by decide +kernel
theorem d_Rd_readAtom_85 : decode (cd m_Rd_readAtom) 85 = .ok (.bipush 17, 2) := by decide +kernel
theorem d_Rd_readAtom_87 : decode (cd m_Rd_readAtom) 87 = .ok (.if_icmp .ne 11, 3) := by decide +kernel
theorem d_Rd_readAtom_90 : decode (cd m_Rd_readAtom) 90 = .ok (.aload_n 0, 1) := by decide +kernel
theorem d_Rd_readAtom_91 : decode (cd m_Rd_readAtom) 91 = .ok (.aload_n 1, 1) := by decide +kernel
theorem d_Rd_readAtom_92 : decode (cd m_Rd_readAtom) 92 = .ok (.invokevirtual 194, 3) := by decide +kernel
theorem d_Rd_readAtom_95 : decode (cd m_Rd_readAtom) 95 = .ok (.goto 25, 3) := by decide +kernel
theorem d_Rd_readAtom_98 : decode (cd m_Rd_readAtom) 98 = .ok (.aload_n 0, 1) := by decide +kernel
theorem d_Rd_readAtom_99 : decode (cd m_Rd_readAtom) 99 = .ok (.getfield 60, 3) := by decide +kernel
theorem d_Rd_readAtom_102 : decode (cd m_Rd_readAtom) 102 = .ok (.bipush 10, 2) := by decide +kernel
theorem d_Rd_readAtom_104 : decode (cd m_Rd_readAtom) 104 = .ok (.if_icmp .ne 11, 3) := by decide +kernel
theorem d_Rd_readAtom_107 : decode (cd m_Rd_readAtom) 107 = .ok (.aload_n 0, 1) := by decide +kernel
theorem d_Rd_readAtom_108 : decode (cd m_Rd_readAtom) 108 = .ok (.aload_n 1, 1) := by decide +kernel
theorem d_Rd_readAtom_109 : decode (cd m_Rd_readAtom) 109 = .ok (.invokevirtual 197, 3) := by decide +kernel
theorem d_Rd_readAtom_112 : decode (cd m_Rd_readAtom) 112 = .ok (.goto 8, 3) := by decide +kernel
theorem d_Rd_readAtom_115 : decode (cd m_Rd_readAtom) 115 = .ok (.aload_n 0, 1) := by decide +kernel
theorem d_Rd_readAtom_116 : decode (cd m_Rd_readAtom) 116 = .ok (.aload_n 1, 1) := by decide +kernel
theorem d_Rd_readAtom_117 : decode (cd m_Rd_readAtom) 117 = .ok (.invokevirtual 179, 3) := by decide +kernel
theorem d_Rd_readAtom_120 : decode (cd m_Rd_readAtom) 120 = .ok (.istore 4, 2) := by decide +kernel
theorem d_Rd_readAtom_122 : decode (cd m_Rd_readAtom) 122 = .ok (.iload 4, 2) := by decide +kernel
theorem d_Rd_readAtom_124 : decode (cd m_Rd_readAtom) 124 = .ok (.ifCond .ne 5, 3) := by decide +kernel
theorem d_Rd_readAtom_127 : decode (cd m_Rd_readAtom) 127 = .ok (.iconst 0, 1) := by decide +kernel
theorem d_Rd_readAtom_128 : decode (cd m_Rd_readAtom) 128 = .ok (.ireturn, 1) := by decide +kernel
theorem d_Rd_readAtom_129 : decode (cd m_Rd_readAtom) 129 = .ok (.aload_n 0, 1) := by decide +kernel
theorem d_Rd_readAtom_130 : decode (cd m_Rd_readAtom) 130 = .ok (.getfield 60, 3) := by decide +kernel
theorem d_Rd_readAtom_133 : decode (cd m_Rd_readAtom) 133 = .ok (.bipush 6, 2) := by decide +kernel
theorem d_Rd_readAtom_135 : decode (cd m_Rd_readAtom) 135 = .ok (.if_icmp .ne 34, 3) := by decide +kernel
theorem d_Rd_readAtom_138 : decode (cd m_Rd_readAtom) 138 = .ok (.aload_n 0, 1) := by decide +kernel
theorem d_Rd_readAtom_139 : decode (cd m_Rd_readAtom) 139 = .ok (.getfield 36, 3) := by decide +kernel
theorem d_Rd_readAtom_142 : decode (cd m_Rd_readAtom) 142 = .ok (.aload_n 1, 1) := by decide +kernel
theorem d_Rd_readAtom_143 : decode (cd m_Rd_readAtom) 143 = .ok (.getfield 162, 3) := by decide +kernel
theorem d_Rd_readAtom_146 : decode (cd m_Rd_readAtom) 146 = .ok (.aload_n 1, 1) := by decide +kernel
theorem d_Rd_readAtom_147 : decode (cd m_Rd_readAtom) 147 = .ok (.getfield 200, 3) := by decide +kernel
theorem d_Rd_readAtom_150 : decode (cd m_Rd_readAtom) 150 = .ok (.invokevirtual 201, 3) := by decide +kernel
theorem d_Rd_readAtom_153 : decode (cd m_Rd_readAtom) 153 = .ok (.ifCond .ne 9, 3) := by decide +kernel
theorem d_Rd_readAtom_156 : decode (cd m_Rd_readAtom) 156 = .ok (.aload_n 0, 1) := by decide +kernel
theorem d_Rd_readAtom_157 : decode (cd m_Rd_readAtom) 157 = .ok (.iconst 2, 1) := by decide +kernel
theorem d_Rd_readAtom_158 : decode (cd m_Rd_readAtom) 158 = .ok (.iload_n 2, 1) := by decide +kernel
theorem d_Rd_readAtom_159 : decode (cd m_Rd_readAtom) 159 = .ok (.invokevirtual 100, 3) := by decide +kernel
theorem d_Rd_readAtom_162 : decode (cd m_Rd_readAtom) 162 = .ok (.aload_n 0, 1) := by decide +kernel
theorem d_Rd_readAtom_163 : decode (cd m_Rd_readAtom) 163 = .ok (.bipush 6, 2) := by decide +kernel
theorem d_Rd_readAtom_165 : decode (cd m_Rd_readAtom) 165 = .ok (.invokevirtual 139, 3) := by decide +kernel
theorem d_Rd_readAtom_168 : decode (cd m_Rd_readAtom) 168 = .ok (.ireturn, 1) := by decide +kernel
theorem d_Rd_readAtom_169 : decode (cd m_Rd_readAtom) 169 = .ok (.aload_n 0, 1) := by decide +kernel
theorem d_Rd_readAtom_170 : decode (cd m_Rd_readAtom) 170 = .ok (.bipush 7, 2) := by decide +kernel
theorem d_Rd_readAtom_172 : decode (cd m_Rd_readAtom) 172 = .ok (.invokevirtual 139, 3) := by decide +kernel
theorem d_Rd_readAtom_175 : decode (cd m_Rd_readAtom) 175 = .ok (.ifCond .ne 5, 3) := by decide +kernel
theorem d_Rd_readAtom_178 : decode (cd m_Rd_readAtom) 178 = .ok (.iconst 0, 1) := by decide +kernel
theorem d_Rd_readAtom_179 : decode (cd m_Rd_readAtom) 179 = .ok (.ireturn, 1) := by decide +kernel
theorem d_Rd_readAtom_180 : decode (cd m_Rd_readAtom) 180 = .ok (.iinc 3 1, 3) := by decide +kernel
theorem d_Rd_readAtom_183 : decode (cd m_Rd_readAtom) 183 = .ok (.goto (-107), 3) := by decide +kernel
theorem d_Rd_readAtom_186 : decode (cd m_Rd_readAtom) 186 = .ok (.aload_n 0, 1) := by decide +kernel
theorem d_Rd_readAtom_187 : decode (cd m_Rd_readAtom) 187 = .ok (.aload_n 0, 1) := by decide +kernel
theorem d_Rd_readAtom_188 : decode (cd m_Rd_readAtom) 188 = .ok (.getfield 63, 3) := by decide +kernel
theorem d_Rd_readAtom_191 : decode (cd m_Rd_readAtom) 191 = .ok (.invokevirtual 125, 3) := by decide +kernel
theorem d_Rd_readAtom_194 : decode (cd m_Rd_readAtom) 194 = .ok (.ireturn, 1) := by decide +kernel
theorem d_Rd_readTotal_0 : decode (cd m_Rd_readTotal) 0 = .ok (.aload_n 1, 1) := by decide +kernel
theorem d_Rd_readTotal_1 : decode (cd m_Rd_readTotal) 1 = .ok (.getfield 182, 3) := by decide +kernel
theorem d_Rd_readTotal_4 : decode (cd m_Rd_readTotal) 4 = .ok (.iconst 4, 1) := by decide +kernel
theorem d_Rd_readTotal_5 : decode (cd m_Rd_readTotal) 5 = .ok (.if_icmp .ne 13, 3) := by decide +kernel
theorem d_Rd_readTotal_8 : decode (cd m_Rd_readTotal) 8 = .ok (.aload_n 0, 1) := by decide +kernel
theorem d_Rd_readTotal_9 : decode (cd m_Rd_readTotal) 9 = .ok (.getfield 21, 3) := by decide +kernel
theorem d_Rd_readTotal_12 : decode (cd m_Rd_readTotal) 12 = .ok (.getfield 205, 3) := by decide +kernel
theorem d_Rd_readTotal_15 : decode (cd m_Rd_readTotal) 15 = .ok (.ifCond .le 12, 3) := by decide +kernel
theorem d_Rd_readTotal_18 : decode (cd m_Rd_readTotal) 18 = .ok (.aload_n 0, 1) := by decide +kernel
theorem d_Rd_readTotal_19 : decode (cd m_Rd_readTotal) 19 = .ok (.aload_n 0, 1) := by decide +kernel
theorem d_Rd_readTotal_20 : decode (cd m_Rd_readTotal) 20 = .ok (.getfield 63, 3) := by decide +kernel
theorem d_Rd_readTotal_23 : decode (cd m_Rd_readTotal) 23 = .ok (.invokevirtual 125, 3) := by decide +kernel
theorem d_Rd_readTotal_26 : decode (cd m_Rd_readTotal) 26 = .ok (.ireturn, 1) := by decide +kernel
theorem d_Rd_readTotal_27 : decode (cd m_Rd_readTotal) 27 = .ok (.aload_n 0, 1) := by decide +kernel
theorem d_Rd_readTotal_28 : decode (cd m_Rd_readTotal) 28 = .ok (.getfield 21, 3) := by decide +kernel
theorem d_Rd_readTotal_31 : decode (cd m_Rd_readTotal) 31 = .ok (.aload_n 0, 1) := by decide +kernel
theorem d_Rd_readTotal_32 : decode (cd m_Rd_readTotal) 32 = .ok (.getfield 121, 3) := by decide +kernel
theorem d_Rd_readTotal_35 : decode (cd m_Rd_readTotal) 35 = .ok (.l2i, 1) := by decide +kernel
theorem d_Rd_readTotal_36 : decode (cd m_Rd_readTotal) 36 = .ok (.putfield 205, 3) := by decide +kernel
theorem d_Rd_readTotal_39 : decode (cd m_Rd_readTotal) 39 = .ok (.aload_n 0, 1) := by decide +kernel
theorem d_Rd_readTotal_40 : decode (cd m_Rd_readTotal) 40 = .ok (.getfield 21, 3) := by decide +kernel
theorem d_Rd_readTotal_43 : decode (cd m_Rd_readTotal) 43 = .ok (.aload_n 0, 1) := by decide +kernel
theorem d_Rd_readTotal_44 : decode (cd m_Rd_readTotal) 44 = .ok (.getfield 63, 3) := by decide +kernel
theorem d_Rd_readTotal_47 : decode (cd m_Rd_readTotal) 47 = .ok (.putfield 208, 3) := by decide +kernel
theorem d_Rd_readTotal_50 : decode (cd m_Rd_readTotal) 50 = .ok (.aload_n 0, 1) := by decide +kernel
theorem d_Rd_readTotal_51 : decode (cd m_Rd_readTotal) 51 = .ok (.aload_n 0, 1) := by decide +kernel
theorem d_Rd_readTotal_52 : decode (cd m_Rd_readTotal) 52 = .ok (.getfield 107, 3) := by decide +kernel
theorem d_Rd_readTotal_55 : decode (cd m_Rd_readTotal) 55 = .ok (.iconst 1, 1) := by decide +kernel
theorem d_Rd_readTotal_56 : decode (cd m_Rd_readTotal) 56 = .ok (.iadd, 1) := by decide +kernel
theorem d_Rd_readTotal_57 : decode (cd m_Rd_readTotal) 57 = .ok (.invokevirtual 55, 3) := by decide +kernel
theorem d_Rd_readTotal_60 : decode (cd m_Rd_readTotal) 60 = .ok (.aload_n 0, 1) := by decide +kernel
theorem d_Rd_readTotal_61 : decode (cd m_Rd_readTotal) 61 = .ok (.iconst 5, 1) := by decide +kernel
theorem d_Rd_readTotal_62 : decode (cd m_Rd_readTotal) 62 = .ok (.invokevirtual 139, 3) := by decide +kernel
theorem d_Rd_readTotal_65 : decode (cd m_Rd_readTotal) 65 = .ok (.ifCond .ne 5, 3) := by decide +kernel
theorem d_Rd_readTotal_68 : decode (cd m_Rd_readTotal) 68 = .ok (.iconst 0, 1) := by decide +kernel
theorem d_Rd_readTotal_69 : decode (cd m_Rd_readTotal) 69 = .ok (.ireturn, 1) := by decide +kernel
theorem d_Rd_readTotal_70 : decode (cd m_Rd_readTotal) 70 = .ok (.aload_n 0, 1) := by decide +kernel
theorem d_Rd_readTotal_71 : decode (cd m_Rd_readTotal) 71 = .ok (.getfield 60, 3) := by decide +kernel
theorem d_Rd_readTotal_74 : decode (cd m_Rd_readTotal) 74 = .ok (.iconst 3, 1) := by decide +kernel
theorem d_Rd_readTotal_75 : decode (cd m_Rd_readTotal) 75 = .ok (.if_icmp .eq 12, 3) := by decide +kernel
theorem d_Rd_readTotal_78 : decode (cd m_Rd_readTotal) 78 = .ok (.aload_n 0, 1) := by decide +kernel
theorem d_Rd_readTotal_79 : decode (cd m_Rd_readTotal) 79 = .ok (.aload_n 0, 1) := by decide +kernel
theorem d_Rd_readTotal_80 : decode (cd m_Rd_readTotal) 80 = .ok (.getfield 63, 3) := by decide +kernel
theorem d_Rd_readTotal_83 : decode (cd m_Rd_readTotal) 83 = .ok (.invokevirtual 125, 3) := by decide +kernel
theorem d_Rd_readTotal_86 : decode (cd m_Rd_readTotal) 86 = .ok (.ireturn, 1) := by decide +kernel
theorem d_Rd_readTotal_87 : decode (cd m_Rd_readTotal) 87 = .ok (.aload_n 0, 1) := by decide +kernel
theorem d_Rd_readTotal_88 : decode (cd m_Rd_readTotal) 88 = .ok (.aload_n 1, 1) := by decide +kernel
theorem d_Rd_readTotal_89 : decode (cd m_Rd_readTotal) 89 = .ok (.invokevirtual 179, 3) := by decide +kernel
theorem d_Rd_readTotal_92 : decode (cd m_Rd_readTotal) 92 = .ok (.ifCond .eq 16, 3) := by decide +kernel
theorem d_Rd_readTotal_95 : decode (cd m_Rd_readTotal) 95 = .ok (.aload_n 0, 1) := by decide +kernel
theorem d_Rd_readTotal_96 : decode (cd m_Rd_readTotal) 96 = .ok (.bipush 6, 2) := by decide +kernel
theorem d_Rd_readTotal_98 : decode (cd m_Rd_readTotal) 98 = .ok (.invokevirtual 139, 3) := by decide +kernel
theorem d_Rd_readTotal_101 : decode (cd m_Rd_readTotal) 101 = .ok (.ifCond .eq 7, 3) := by decide +kernel
theorem d_Rd_readTotal_104 : decode (cd m_Rd_readTotal) 104 = .ok (.iconst 1, 1) := by decide +kernel
theorem d_Rd_readTotal_105 : decode (cd m_Rd_readTotal) 105 = .ok (.goto 4, 3) := by decide +kernel
theorem d_Rd_readTotal_108 : decode (cd m_Rd_readTotal) 108 = .ok (.iconst 0, 1) := by decide +kernel
theorem d_Rd_readTotal_109 : decode (cd m_Rd_readTotal) 109 = .ok (.ireturn, 1) := by decide +kernel
theorem d_Rd_readAnything_0 : decode (cd m_Rd_readAnything) 0 = .ok (.aload_n 1, 1) := by decide +kernel
theorem d_Rd_readAnything_1 : decode (cd m_Rd_readAnything) 1 = .ok (.getfield 182, 3) := by decide +kernel
theorem d_Rd_readAnything_4 : decode (cd m_Rd_readAnything) 4 = .ok (.ifCond .ne 17, 3) := by decide +kernel
theorem d_Rd_readAnything_7 : decode (cd m_Rd_readAnything) 7 = .ok (.aload_n 0, 1) := by decide +kernel
theorem d_Rd_readAnything_8 : decode (cd m_Rd_readAnything) 8 = .ok (.getfield 21, 3) := by decide +kernel
theorem d_Rd_readAnything_11 : decode (cd m_Rd_readAnything) 11 = .ok (.getfield 205, 3) := by decide +kernel
theorem d_Rd_readAnything_14 : decode (cd m_Rd_readAnything) 14 = .ok (.ifCond .le 7, 3) := by decide +kernel
theorem d_Rd_readAnything_17 : decode (cd m_Rd_readAnything) 17 = .ok (.iconst 1, 1) := by decide +kernel
theorem d_Rd_readAnything_18 : decode (cd m_Rd_readAnything) 18 = .ok (.goto 4, 3) := by decide +kernel
theorem d_Rd_readAnything_21 : decode (cd m_Rd_readAnything) 21 = .ok (.iconst 0, 1) := by decide +kernel
theorem d_Rd_readAnything_22 : decode (cd m_Rd_readAnything) 22 = .ok (.istore_n 2, 1) := by decide +kernel
theorem d_Rd_readAnything_23 : decode (cd m_Rd_readAnything) 23 = .ok (.aload_n 1, 1) := by decide +kernel
theorem d_Rd_readAnything_24 : decode (cd m_Rd_readAnything) 24 = .ok (.getfield 182, 3) := by decide +kernel
theorem d_Rd_readAnything_27 : decode (cd m_Rd_readAnything) 27 = .ok (.iconst 4, 1) := by decide +kernel
theorem d_Rd_readAnything_28 : decode (cd m_Rd_readAnything) 28 = .ok (.if_icmp .eq 7, 3) := by decide +kernel
theorem d_Rd_readAnything_31 : decode (cd m_Rd_readAnything) 31 = .ok (.iload_n 2, 1) := by decide +kernel
theorem d_Rd_readAnything_32 : decode (cd m_Rd_readAnything) 32 = .ok (.ifCond .eq 12, 3) := by decide +kernel
theorem d_Rd_readAnything_35 : decode (cd m_Rd_readAnything) 35 = .ok (.aload_n 0, 1) := by decide +kernel
theorem d_Rd_readAnything_36 : decode (cd m_Rd_readAnything) 36 = .ok (.aload_n 0, 1) := by decide +kernel
theorem d_Rd_readAnything_37 : decode (cd m_Rd_readAnything) 37 = .ok (.getfield 63, 3) := by decide +kernel
theorem d_Rd_readAnything_40 : decode (cd m_Rd_readAnything) 40 = .ok (.invokevirtual 125, 3) := by decide +kernel
theorem d_Rd_readAnything_43 : decode (cd m_Rd_readAnything) 43 = .ok (.ireturn, 1) := by decide +kernel
theorem d_Rd_readAnything_44 : decode (cd m_Rd_readAnything) 44 = .ok (.aload_n 1, 1) := by decide +kernel
theorem d_Rd_readAnything_45 : decode (cd m_Rd_readAnything) 45 = .ok (.ldc2_w 211, 3) := by decide +kernel
theorem d_Rd_readAnything_48 : decode (cd m_Rd_readAnything) 48 = .ok (.invokevirtual 213, 3) := by decide +kernel
theorem d_Rd_readAnything_51 : decode (cd m_Rd_readAnything) 51 = .ok (.aload_n 0, 1) := by decide +kernel
theorem d_Rd_readAnything_52 : decode (cd m_Rd_readAnything) 52 = .ok (.aload_n 0, 1) := by decide +kernel
theorem d_Rd_readAnything_53 : decode (cd m_Rd_readAnything) 53 = .ok (.getfield 107, 3) := by decide +kernel
theorem d_Rd_readAnything_56 : decode (cd m_Rd_readAnything) 56 = .ok (.iconst 1, 1) := by decide +kernel
theorem d_Rd_readAnything_57 : decode (cd m_Rd_readAnything) 57 = .ok (.iadd, 1) := by decide +kernel
theorem d_Rd_readAnything_58 : decode (cd m_Rd_readAnything) 58 = .ok (.invokevirtual 55, 3) := by decide +kernel
theorem d_Rd_readAnything_61 : decode (cd m_Rd_readAnything) 61 = .ok (.iconst 1, 1) := by decide +kernel
theorem d_Rd_readAnything_62 : decode (cd m_Rd_readAnything) 62 = .ok (.ireturn, 1) := by decide +kernel
theorem d_Rd_readTerm_0 : decode (cd m_Rd_readTerm) 0 = .ok (.aload_n 0, 1) := by decide +kernel
theorem d_Rd_readTerm_1 : decode (cd m_Rd_readTerm) 1 = .ok (.getfield 60, 3) := by decide +kernel
theorem d_Rd_readTerm_4 : decode (cd m_Rd_readTerm) 4 = .ok (.bipush 14, 2) := by decide +kernel
theorem d_Rd_readTerm_6 : decode (cd m_Rd_readTerm) 6 = .ok (.if_icmp .ne 7, 3) := by decide +kernel
theorem d_Rd_readTerm_9 : decode (cd m_Rd_readTerm) 9 = .ok (.iconst 1, 1) := by decide +kernel
theorem d_Rd_readTerm_10 : decode (cd m_Rd_readTerm) 10 = .ok (.goto 4, 3) := by decide +kernel
theorem d_Rd_readTerm_13 : decode (cd m_Rd_readTerm) 13 = .ok (.iconst 0, 1) := by decide +kernel
theorem d_Rd_readTerm_14 : decode (cd m_Rd_readTerm) 14 = .ok (.istore_n 2, 1) := by decide +kernel
theorem d_Rd_readTerm_15 : decode (cd m_Rd_readTerm) 15 = .ok (.iload_n 2, 1) := by decide +kernel
theorem d_Rd_readTerm_16 : decode (cd m_Rd_readTerm) 16 = .ok (.ifCond .eq 13, 3) := by decide +kernel
theorem d_Rd_readTerm_19 : decode (cd m_Rd_readTerm) 19 = .ok (.aload_n 0, 1) := by decide +kernel
theorem d_Rd_readTerm_20 : decode (cd m_Rd_readTerm) 20 = .ok (.aload_n 0, 1) := by decide +kernel
theorem d_Rd_readTerm_21 : decode (cd m_Rd_readTerm) 21 = .ok (.getfield 107, 3) := by decide +kernel
theorem d_Rd_readTerm_24 : decode (cd m_Rd_readTerm) 24 = .ok (.iconst 1, 1) := by decide +kernel
theorem d_Rd_readTerm_25 : decode (cd m_Rd_readTerm) 25 = .ok (.iadd, 1) := by decide +kernel
theorem d_Rd_readTerm_26 : decode (cd m_Rd_readTerm) 26 = .ok (.invokevirtual 55, 3) := by decide +kernel
theorem d_Rd_readTerm_29 : decode (cd m_Rd_readTerm) 29 = .ok (.aload_n 0, 1) := by decide +kernel
theorem d_Rd_readTerm_30 : decode (cd m_Rd_readTerm) 30 = .ok (.getfield 60, 3) := by decide +kernel
theorem d_Rd_readTerm_33 : decode (cd m_Rd_readTerm) 33 = .ok (.iconst 4, 1) := by decide +kernel
theorem d_Rd_readTerm_34 : decode (cd m_Rd_readTerm) 34 = .ok (.if_icmp .ne 26, 3) := by decide +kernel
theorem d_Rd_readTerm_37 : decode (cd m_Rd_readTerm) 37 = .ok (.aload_n 1, 1) := by decide +kernel
theorem d_Rd_readTerm_38 : decode (cd m_Rd_readTerm) 38 = .ok (.iload_n 2, 1) := by decide +kernel
theorem d_Rd_readTerm_39 : decode (cd m_Rd_readTerm) 39 = .ok (.ifCond .eq 11, 3) := by decide +kernel
theorem d_Rd_readTerm_42 : decode (cd m_Rd_readTerm) 42 = .ok (.aload_n 0, 1) := by decide +kernel
theorem d_Rd_readTerm_43 : decode (cd m_Rd_readTerm) 43 = .ok (.getfield 121, 3) := by decide +kernel
theorem d_Rd_readTerm_46 : decode (cd m_Rd_readTerm) 46 = .ok (.lneg, 1) := by decide +kernel
theorem d_Rd_readTerm_47 : decode (cd m_Rd_readTerm) 47 = .ok (.goto 7, 3) := by decide +kernel
theorem d_Rd_readTerm_50 : decode (cd m_Rd_readTerm) 50 = .ok (.aload_n 0, 1) := by decide +kernel
theorem d_Rd_readTerm_51 : decode (cd m_Rd_readTerm) 51 = .ok (.getfield 121, 3) := by decide +kernel
theorem d_Rd_readTerm_54 : decode (cd m_Rd_readTerm) 54 = .ok (.invokevirtual 213, 3) := by decide +kernel
theorem d_Rd_readTerm_57 : decode (cd m_Rd_readTerm) 57 = .ok (.goto 94, 3) := by decide +kernel
theorem d_Rd_readTerm_60 : decode (cd m_Rd_readTerm) 60 = .ok (.aload_n 0, 1) := by decide +kernel
theorem d_Rd_readTerm_61 : decode (cd m_Rd_readTerm) 61 = .ok (.getfield 60, 3) := by decide +kernel
theorem d_Rd_readTerm_64 : decode (cd m_Rd_readTerm) 64 = .ok (.iconst 2, 1) := by decide +kernel
theorem d_Rd_readTerm_65 : decode (cd m_Rd_readTerm) 65 = .ok (.if_icmp .ne 22, 3) := by decide +kernel
theorem d_Rd_readTerm_68 : decode (cd m_Rd_readTerm) 68 = .ok (.iload_n 2, 1) := by decide +kernel

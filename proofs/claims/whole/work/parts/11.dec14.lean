/-! decode rows (by program) -/
theorem d_M_canAsk_121 : decode (cd m_M_canAsk) 121 = .ok (.iconst 4, 1) := by decide +kernel
theorem d_M_canAsk_122 : decode (cd m_M_canAsk) 122 = .ok (.iload_n 1, 1) := by decide +kernel
theorem d_M_canAsk_123 : decode (cd m_M_canAsk) 123 = .ok (.imul, 1) := by decide +kernel
theorem d_M_canAsk_124 : decode (cd m_M_canAsk) 124 = .ok (.iload_n 2, 1) := by decide +kernel
theorem d_M_canAsk_125 : decode (cd m_M_canAsk) 125 = .ok (.iadd, 1) := by decide +kernel
theorem d_M_canAsk_126 : decode (cd m_M_canAsk) 126 = .ok (.iaload, 1) := by decide +kernel
theorem d_M_canAsk_127 : decode (cd m_M_canAsk) 127 = .ok (.iconst 2, 1) := by decide +kernel
theorem d_M_canAsk_128 : decode (cd m_M_canAsk) 128 = .ok (.if_icmp .eq 14, 3) := by decide +kernel
theorem d_M_canAsk_131 : decode (cd m_M_canAsk) 131 = .ok (.aload_n 0, 1) := by decide +kernel
theorem d_M_canAsk_132 : decode (cd m_M_canAsk) 132 = .ok (.iload_n 1, 1) := by decide +kernel
theorem d_M_canAsk_133 : decode (cd m_M_canAsk) 133 = .ok (.iload_n 2, 1) := by decide +kernel
theorem d_M_canAsk_134 : decode (cd m_M_canAsk) 134 = .ok (.invokevirtual 323, 3) := by decide +kernel
theorem d_M_canAsk_137 : decode (cd m_M_canAsk) 137 = .ok (.ifCond .ne 5, 3) := by decide +kernel
theorem d_M_canAsk_140 : decode (cd m_M_canAsk) 140 = .ok (.iconst 0, 1) := by decide +kernel
theorem d_M_canAsk_141 : decode (cd m_M_canAsk) 141 = .ok (.ireturn, 1) := by decide +kernel
theorem d_M_canAsk_142 : decode (cd m_M_canAsk) 142 = .ok (.iinc 2 1, 3) := by decide +kernel
theorem d_M_canAsk_145 : decode (cd m_M_canAsk) 145 = .ok (.goto (-38), 3) := by decide +kernel
theorem d_M_canAsk_148 : decode (cd m_M_canAsk) 148 = .ok (.iconst 1, 1) := by decide +kernel
theorem d_M_canAsk_149 : decode (cd m_M_canAsk) 149 = .ok (.ireturn, 1) := by decide +kernel
theorem d_M_nextLiteral_0 : decode (cd m_M_nextLiteral) 0 = .ok (.iconst (-1), 1) := by decide +kernel
theorem d_M_nextLiteral_1 : decode (cd m_M_nextLiteral) 1 = .ok (.istore_n 2, 1) := by decide +kernel
theorem d_M_nextLiteral_2 : decode (cd m_M_nextLiteral) 2 = .ok (.iconst 0, 1) := by decide +kernel
theorem d_M_nextLiteral_3 : decode (cd m_M_nextLiteral) 3 = .ok (.istore_n 3, 1) := by decide +kernel
theorem d_M_nextLiteral_4 : decode (cd m_M_nextLiteral) 4 = .ok (.iload_n 3, 1) := by decide +kernel
theorem d_M_nextLiteral_5 : decode (cd m_M_nextLiteral) 5 = .ok (.aload_n 0, 1) := by decide +kernel
theorem d_M_nextLiteral_6 : decode (cd m_M_nextLiteral) 6 = .ok (.getfield 56, 3) := by decide +kernel
theorem d_M_nextLiteral_9 : decode (cd m_M_nextLiteral) 9 = .ok (.iload_n 1, 1) := by decide +kernel
theorem d_M_nextLiteral_10 : decode (cd m_M_nextLiteral) 10 = .ok (.iaload, 1) := by decide +kernel
theorem d_M_nextLiteral_11 : decode (cd m_M_nextLiteral) 11 = .ok (.if_icmp .ge 47, 3) := by decide +kernel
theorem d_M_nextLiteral_14 : decode (cd m_M_nextLiteral) 14 = .ok (.aload_n 0, 1) := by decide +kernel
theorem d_M_nextLiteral_15 : decode (cd m_M_nextLiteral) 15 = .ok (.getfield 123, 3) := by decide +kernel
theorem d_M_nextLiteral_18 : decode (cd m_M_nextLiteral) 18 = .ok (.iload_n 3, 1) := by decide +kernel
theorem d_M_nextLiteral_19 : decode (cd m_M_nextLiteral) 19 = .ok (.baload, 1) := by decide +kernel
theorem d_M_nextLiteral_20 : decode (cd m_M_nextLiteral) 20 = .ok (.ifCond .ne 32, 3) := by decide +kernel
theorem d_M_nextLiteral_23 : decode (cd m_M_nextLiteral) 23 = .ok (.aload_n 0, 1) := by decide +kernel
theorem d_M_nextLiteral_24 : decode (cd m_M_nextLiteral) 24 = .ok (.getfield 62, 3) := by decide +kernel
theorem d_M_nextLiteral_27 : decode (cd m_M_nextLiteral) 27 = .ok (.bipush 6, 2) := by decide +kernel
theorem d_M_nextLiteral_29 : decode (cd m_M_nextLiteral) 29 = .ok (.iload_n 1, 1) := by decide +kernel
theorem d_M_nextLiteral_30 : decode (cd m_M_nextLiteral) 30 = .ok (.imul, 1) := by decide +kernel
theorem d_M_nextLiteral_31 : decode (cd m_M_nextLiteral) 31 = .ok (.iload_n 3, 1) := by decide +kernel
theorem d_M_nextLiteral_32 : decode (cd m_M_nextLiteral) 32 = .ok (.iadd, 1) := by decide +kernel
theorem d_M_nextLiteral_33 : decode (cd m_M_nextLiteral) 33 = .ok (.iaload, 1) := by decide +kernel
theorem d_M_nextLiteral_34 : decode (cd m_M_nextLiteral) 34 = .ok (.ifCond .eq 18, 3) := by decide +kernel
theorem d_M_nextLiteral_37 : decode (cd m_M_nextLiteral) 37 = .ok (.aload_n 0, 1) := by decide +kernel
theorem d_M_nextLiteral_38 : decode (cd m_M_nextLiteral) 38 = .ok (.bipush 6, 2) := by decide +kernel
theorem d_M_nextLiteral_40 : decode (cd m_M_nextLiteral) 40 = .ok (.iload_n 1, 1) := by decide +kernel
theorem d_M_nextLiteral_41 : decode (cd m_M_nextLiteral) 41 = .ok (.imul, 1) := by decide +kernel
theorem d_M_nextLiteral_42 : decode (cd m_M_nextLiteral) 42 = .ok (.iload_n 3, 1) := by decide +kernel
theorem d_M_nextLiteral_43 : decode (cd m_M_nextLiteral) 43 = .ok (.iadd, 1) := by decide +kernel
theorem d_M_nextLiteral_44 : decode (cd m_M_nextLiteral) 44 = .ok (.invokevirtual 326, 3) := by decide +kernel
theorem d_M_nextLiteral_47 : decode (cd m_M_nextLiteral) 47 = .ok (.ifCond .eq 5, 3) := by decide +kernel
theorem d_M_nextLiteral_50 : decode (cd m_M_nextLiteral) 50 = .ok (.iload_n 3, 1) := by decide +kernel
theorem d_M_nextLiteral_51 : decode (cd m_M_nextLiteral) 51 = .ok (.ireturn, 1) := by decide +kernel
theorem d_M_nextLiteral_52 : decode (cd m_M_nextLiteral) 52 = .ok (.iinc 3 1, 3) := by decide +kernel
theorem d_M_nextLiteral_55 : decode (cd m_M_nextLiteral) 55 = .ok (.goto (-51), 3) := by decide +kernel
theorem d_M_nextLiteral_58 : decode (cd m_M_nextLiteral) 58 = .ok (.iconst 0, 1) := by decide +kernel
theorem d_M_nextLiteral_59 : decode (cd m_M_nextLiteral) 59 = .ok (.istore_n 3, 1) := by decide +kernel
theorem d_M_nextLiteral_60 : decode (cd m_M_nextLiteral) 60 = .ok (.iload_n 3, 1) := by decide +kernel
theorem d_M_nextLiteral_61 : decode (cd m_M_nextLiteral) 61 = .ok (.aload_n 0, 1) := by decide +kernel
theorem d_M_nextLiteral_62 : decode (cd m_M_nextLiteral) 62 = .ok (.getfield 56, 3) := by decide +kernel
theorem d_M_nextLiteral_65 : decode (cd m_M_nextLiteral) 65 = .ok (.iload_n 1, 1) := by decide +kernel
theorem d_M_nextLiteral_66 : decode (cd m_M_nextLiteral) 66 = .ok (.iaload, 1) := by decide +kernel
theorem d_M_nextLiteral_67 : decode (cd m_M_nextLiteral) 67 = .ok (.if_icmp .ge 71, 3) := by decide +kernel
theorem d_M_nextLiteral_70 : decode (cd m_M_nextLiteral) 70 = .ok (.aload_n 0, 1) := by decide +kernel
theorem d_M_nextLiteral_71 : decode (cd m_M_nextLiteral) 71 = .ok (.getfield 123, 3) := by decide +kernel
theorem d_M_nextLiteral_74 : decode (cd m_M_nextLiteral) 74 = .ok (.iload_n 3, 1) := by decide +kernel
theorem d_M_nextLiteral_75 : decode (cd m_M_nextLiteral) 75 = .ok (.baload, 1) := by decide +kernel
theorem d_M_nextLiteral_76 : decode (cd m_M_nextLiteral) 76 = .ok (.ifCond .ne 56, 3) := by decide +kernel
theorem d_M_nextLiteral_79 : decode (cd m_M_nextLiteral) 79 = .ok (.aload_n 0, 1) := by decide +kernel
theorem d_M_nextLiteral_80 : decode (cd m_M_nextLiteral) 80 = .ok (.getfield 62, 3) := by decide +kernel
theorem d_M_nextLiteral_83 : decode (cd m_M_nextLiteral) 83 = .ok (.bipush 6, 2) := by decide +kernel
theorem d_M_nextLiteral_85 : decode (cd m_M_nextLiteral) 85 = .ok (.iload_n 1, 1) := by decide +kernel
theorem d_M_nextLiteral_86 : decode (cd m_M_nextLiteral) 86 = .ok (.imul, 1) := by decide +kernel
theorem d_M_nextLiteral_87 : decode (cd m_M_nextLiteral) 87 = .ok (.iload_n 3, 1) := by decide +kernel
theorem d_M_nextLiteral_88 : decode (cd m_M_nextLiteral) 88 = .ok (.iadd, 1) := by decide +kernel
theorem d_M_nextLiteral_89 : decode (cd m_M_nextLiteral) 89 = .ok (.iaload, 1) := by decide +kernel
theorem d_M_nextLiteral_90 : decode (cd m_M_nextLiteral) 90 = .ok (.ifCond .eq 6, 3) := by decide +kernel
theorem d_M_nextLiteral_93 : decode (cd m_M_nextLiteral) 93 = .ok (.goto 39, 3) := by decide +kernel
theorem d_M_nextLiteral_96 : decode (cd m_M_nextLiteral) 96 = .ok (.iload_n 2, 1) := by decide +kernel
theorem d_M_nextLiteral_97 : decode (cd m_M_nextLiteral) 97 = .ok (.iconst (-1), 1) := by decide +kernel
theorem d_M_nextLiteral_98 : decode (cd m_M_nextLiteral) 98 = .ok (.if_icmp .eq 32, 3) := by decide +kernel
theorem d_M_nextLiteral_101 : decode (cd m_M_nextLiteral) 101 = .ok (.aload_n 0, 1) := by decide +kernel
theorem d_M_nextLiteral_102 : decode (cd m_M_nextLiteral) 102 = .ok (.bipush 6, 2) := by decide +kernel
theorem d_M_nextLiteral_104 : decode (cd m_M_nextLiteral) 104 = .ok (.iload_n 1, 1) := by decide +kernel
theorem d_M_nextLiteral_105 : decode (cd m_M_nextLiteral) 105 = .ok (.imul, 1) := by decide +kernel
theorem d_M_nextLiteral_106 : decode (cd m_M_nextLiteral) 106 = .ok (.iload_n 3, 1) := by decide +kernel
theorem d_M_nextLiteral_107 : decode (cd m_M_nextLiteral) 107 = .ok (.iadd, 1) := by decide +kernel
theorem d_M_nextLiteral_108 : decode (cd m_M_nextLiteral) 108 = .ok (.invokevirtual 329, 3) := by decide +kernel
theorem d_M_nextLiteral_111 : decode (cd m_M_nextLiteral) 111 = .ok (.invokestatic 332, 3) := by decide +kernel
theorem d_M_nextLiteral_114 : decode (cd m_M_nextLiteral) 114 = .ok (.aload_n 0, 1) := by decide +kernel
theorem d_M_nextLiteral_115 : decode (cd m_M_nextLiteral) 115 = .ok (.bipush 6, 2) := by decide +kernel
theorem d_M_nextLiteral_117 : decode (cd m_M_nextLiteral) 117 = .ok (.iload_n 1, 1) := by decide +kernel
theorem d_M_nextLiteral_118 : decode (cd m_M_nextLiteral) 118 = .ok (.imul, 1) := by decide +kernel
theorem d_M_nextLiteral_119 : decode (cd m_M_nextLiteral) 119 = .ok (.iload_n 2, 1) := by decide +kernel
theorem d_M_nextLiteral_120 : decode (cd m_M_nextLiteral) 120 = .ok (.iadd, 1) := by decide +kernel
theorem d_M_nextLiteral_121 : decode (cd m_M_nextLiteral) 121 = .ok (.invokevirtual 329, 3) := by decide +kernel
theorem d_M_nextLiteral_124 : decode (cd m_M_nextLiteral) 124 = .ok (.invokestatic 332, 3) := by decide +kernel
theorem d_M_nextLiteral_127 : decode (cd m_M_nextLiteral) 127 = .ok (.if_icmp .le 5, 3) := by decide +kernel
theorem d_M_nextLiteral_130 : decode (cd m_M_nextLiteral) 130 = .ok (.iload_n 3, 1) := by decide +kernel
theorem d_M_nextLiteral_131 : decode (cd m_M_nextLiteral) 131 = .ok (.istore_n 2, 1) := by decide +kernel
theorem d_M_nextLiteral_132 : decode (cd m_M_nextLiteral) 132 = .ok (.iinc 3 1, 3) := by decide +kernel
theorem d_M_nextLiteral_135 : decode (cd m_M_nextLiteral) 135 = .ok (.goto (-75), 3) := by decide +kernel
theorem d_M_nextLiteral_138 : decode (cd m_M_nextLiteral) 138 = .ok (.iload_n 2, 1) := by decide +kernel
theorem d_M_nextLiteral_139 : decode (cd m_M_nextLiteral) 139 = .ok (.ireturn, 1) := by decide +kernel
theorem d_M_plan_0 : decode (cd m_M_plan) 0 = .ok (.iconst 0, 1) := by decide +kernel
theorem d_M_plan_1 : decode (cd m_M_plan) 1 = .ok (.istore_n 2, 1) := by decide +kernel
theorem d_M_plan_2 : decode (cd m_M_plan) 2 = .ok (.iload_n 2, 1) := by decide +kernel
theorem d_M_plan_3 : decode (cd m_M_plan) 3 = .ok (.bipush 9, 2) := by decide +kernel
theorem d_M_plan_5 : decode (cd m_M_plan) 5 = .ok (.if_icmp .ge 16, 3) := by decide +kernel
theorem d_M_plan_8 : decode (cd m_M_plan) 8 = .ok (.aload_n 0, 1) := by decide +kernel
theorem d_M_plan_9 : decode (cd m_M_plan) 9 = .ok (.getfield 120, 3) := by decide +kernel
theorem d_M_plan_12 : decode (cd m_M_plan) 12 = .ok (.iload_n 2, 1) := by decide +kernel
theorem d_M_plan_13 : decode (cd m_M_plan) 13 = .ok (.iconst 0, 1) := by decide +kernel
theorem d_M_plan_14 : decode (cd m_M_plan) 14 = .ok (.bastore, 1) := by decide +kernel
theorem d_M_plan_15 : decode (cd m_M_plan) 15 = .ok (.iinc 2 1, 3) := by decide +kernel
theorem d_M_plan_18 : decode (cd m_M_plan) 18 = .ok (.goto (-16), 3) := by decide +kernel
theorem d_M_plan_21 : decode (cd m_M_plan) 21 = .ok (.iconst 0, 1) := by decide +kernel
theorem d_M_plan_22 : decode (cd m_M_plan) 22 = .ok (.istore_n 2, 1) := by decide +kernel
theorem d_M_plan_23 : decode (cd m_M_plan) 23 = .ok (.iload_n 2, 1) := by decide +kernel
theorem d_M_plan_24 : decode (cd m_M_plan) 24 = .ok (.bipush 6, 2) := by decide +kernel
theorem d_M_plan_26 : decode (cd m_M_plan) 26 = .ok (.if_icmp .ge 16, 3) := by decide +kernel
theorem d_M_plan_29 : decode (cd m_M_plan) 29 = .ok (.aload_n 0, 1) := by decide +kernel
theorem d_M_plan_30 : decode (cd m_M_plan) 30 = .ok (.getfield 123, 3) := by decide +kernel
theorem d_M_plan_33 : decode (cd m_M_plan) 33 = .ok (.iload_n 2, 1) := by decide +kernel
theorem d_M_plan_34 : decode (cd m_M_plan) 34 = .ok (.iconst 0, 1) := by decide +kernel
theorem d_M_plan_35 : decode (cd m_M_plan) 35 = .ok (.bastore, 1) := by decide +kernel
theorem d_M_plan_36 : decode (cd m_M_plan) 36 = .ok (.iinc 2 1, 3) := by decide +kernel
theorem d_M_plan_39 : decode (cd m_M_plan) 39 = .ok (.goto (-16), 3) := by decide +kernel
theorem d_M_plan_42 : decode (cd m_M_plan) 42 = .ok (.iconst 0, 1) := by decide +kernel
theorem d_M_plan_43 : decode (cd m_M_plan) 43 = .ok (.istore_n 2, 1) := by decide +kernel
theorem d_M_plan_44 : decode (cd m_M_plan) 44 = .ok (.iconst 0, 1) := by decide +kernel
theorem d_M_plan_45 : decode (cd m_M_plan) 45 = .ok (.istore_n 3, 1) := by decide +kernel
theorem d_M_plan_46 : decode (cd m_M_plan) 46 = .ok (.iload_n 3, 1) := by decide +kernel
theorem d_M_plan_47 : decode (cd m_M_plan) 47 = .ok (.aload_n 0, 1) := by decide +kernel
theorem d_M_plan_48 : decode (cd m_M_plan) 48 = .ok (.getfield 56, 3) := by decide +kernel
theorem d_M_plan_51 : decode (cd m_M_plan) 51 = .ok (.iload_n 1, 1) := by decide +kernel
theorem d_M_plan_52 : decode (cd m_M_plan) 52 = .ok (.iaload, 1) := by decide +kernel
theorem d_M_plan_53 : decode (cd m_M_plan) 53 = .ok (.if_icmp .ge 188, 3) := by decide +kernel
theorem d_M_plan_56 : decode (cd m_M_plan) 56 = .ok (.aload_n 0, 1) := by decide +kernel
theorem d_M_plan_57 : decode (cd m_M_plan) 57 = .ok (.iload_n 1, 1) := by decide +kernel
theorem d_M_plan_58 : decode (cd m_M_plan) 58 = .ok (.invokevirtual 335, 3) := by decide +kernel
theorem d_M_plan_61 : decode (cd m_M_plan) 61 = .ok (.istore 4, 2) := by decide +kernel
theorem d_M_plan_63 : decode (cd m_M_plan) 63 = .ok (.bipush 6, 2) := by decide +kernel
theorem d_M_plan_65 : decode (cd m_M_plan) 65 = .ok (.iload_n 1, 1) := by decide +kernel
theorem d_M_plan_66 : decode (cd m_M_plan) 66 = .ok (.imul, 1) := by decide +kernel
theorem d_M_plan_67 : decode (cd m_M_plan) 67 = .ok (.iload 4, 2) := by decide +kernel
theorem d_M_plan_69 : decode (cd m_M_plan) 69 = .ok (.iadd, 1) := by decide +kernel
theorem d_M_plan_70 : decode (cd m_M_plan) 70 = .ok (.istore 5, 2) := by decide +kernel
theorem d_M_plan_72 : decode (cd m_M_plan) 72 = .ok (.aload_n 0, 1) := by decide +kernel
theorem d_M_plan_73 : decode (cd m_M_plan) 73 = .ok (.getfield 123, 3) := by decide +kernel
theorem d_M_plan_76 : decode (cd m_M_plan) 76 = .ok (.iload 4, 2) := by decide +kernel
theorem d_M_plan_78 : decode (cd m_M_plan) 78 = .ok (.iconst 1, 1) := by decide +kernel
theorem d_M_plan_79 : decode (cd m_M_plan) 79 = .ok (.bastore, 1) := by decide +kernel
theorem d_M_plan_80 : decode (cd m_M_plan) 80 = .ok (.aload_n 0, 1) := by decide +kernel
theorem d_M_plan_81 : decode (cd m_M_plan) 81 = .ok (.getfield 111, 3) := by decide +kernel
theorem d_M_plan_84 : decode (cd m_M_plan) 84 = .ok (.iload_n 3, 1) := by decide +kernel
theorem d_M_plan_85 : decode (cd m_M_plan) 85 = .ok (.iload 4, 2) := by decide +kernel
theorem d_M_plan_87 : decode (cd m_M_plan) 87 = .ok (.iastore, 1) := by decide +kernel
theorem d_M_plan_88 : decode (cd m_M_plan) 88 = .ok (.aload_n 0, 1) := by decide +kernel
theorem d_M_plan_89 : decode (cd m_M_plan) 89 = .ok (.getfield 114, 3) := by decide +kernel
theorem d_M_plan_92 : decode (cd m_M_plan) 92 = .ok (.iload_n 3, 1) := by decide +kernel
theorem d_M_plan_93 : decode (cd m_M_plan) 93 = .ok (.aload_n 0, 1) := by decide +kernel
theorem d_M_plan_94 : decode (cd m_M_plan) 94 = .ok (.iload 5, 2) := by decide +kernel
theorem d_M_plan_96 : decode (cd m_M_plan) 96 = .ok (.invokevirtual 296, 3) := by decide +kernel
theorem d_M_plan_99 : decode (cd m_M_plan) 99 = .ok (.ifCond .eq 12, 3) := by decide +kernel
theorem d_M_plan_102 : decode (cd m_M_plan) 102 = .ok (.aload_n 0, 1) := by decide +kernel
theorem d_M_plan_103 : decode (cd m_M_plan) 103 = .ok (.iload 5, 2) := by decide +kernel
theorem d_M_plan_105 : decode (cd m_M_plan) 105 = .ok (.invokevirtual 329, 3) := by decide +kernel
theorem d_M_plan_108 : decode (cd m_M_plan) 108 = .ok (.goto 4, 3) := by decide +kernel
theorem d_M_plan_111 : decode (cd m_M_plan) 111 = .ok (.iconst 0, 1) := by decide +kernel
theorem d_M_plan_112 : decode (cd m_M_plan) 112 = .ok (.iastore, 1) := by decide +kernel
theorem d_M_plan_113 : decode (cd m_M_plan) 113 = .ok (.aload_n 0, 1) := by decide +kernel
theorem d_M_plan_114 : decode (cd m_M_plan) 114 = .ok (.iload 5, 2) := by decide +kernel
theorem d_M_plan_116 : decode (cd m_M_plan) 116 = .ok (.invokevirtual 296, 3) := by decide +kernel
theorem d_M_plan_119 : decode (cd m_M_plan) 119 = .ok (.ifCond .eq 13, 3) := by decide +kernel
theorem d_M_plan_122 : decode (cd m_M_plan) 122 = .ok (.aload_n 0, 1) := by decide +kernel
theorem d_M_plan_123 : decode (cd m_M_plan) 123 = .ok (.getfield 102, 3) := by decide +kernel
theorem d_M_plan_126 : decode (cd m_M_plan) 126 = .ok (.iload 5, 2) := by decide +kernel
theorem d_M_plan_128 : decode (cd m_M_plan) 128 = .ok (.iaload, 1) := by decide +kernel
theorem d_M_plan_129 : decode (cd m_M_plan) 129 = .ok (.goto 19, 3) := by decide +kernel
theorem d_M_plan_132 : decode (cd m_M_plan) 132 = .ok (.aload_n 0, 1) := by decide +kernel
theorem d_M_plan_133 : decode (cd m_M_plan) 133 = .ok (.getfield 62, 3) := by decide +kernel
theorem d_M_plan_136 : decode (cd m_M_plan) 136 = .ok (.iload 5, 2) := by decide +kernel
theorem d_M_plan_138 : decode (cd m_M_plan) 138 = .ok (.iaload, 1) := by decide +kernel
theorem d_M_plan_139 : decode (cd m_M_plan) 139 = .ok (.iconst 3, 1) := by decide +kernel
theorem d_M_plan_140 : decode (cd m_M_plan) 140 = .ok (.if_icmp .ne 7, 3) := by decide +kernel
theorem d_M_plan_143 : decode (cd m_M_plan) 143 = .ok (.iconst 3, 1) := by decide +kernel
theorem d_M_plan_144 : decode (cd m_M_plan) 144 = .ok (.goto 4, 3) := by decide +kernel
theorem d_M_plan_147 : decode (cd m_M_plan) 147 = .ok (.iconst 2, 1) := by decide +kernel
theorem d_M_plan_148 : decode (cd m_M_plan) 148 = .ok (.istore 6, 2) := by decide +kernel
theorem d_M_plan_150 : decode (cd m_M_plan) 150 = .ok (.iconst 0, 1) := by decide +kernel
theorem d_M_plan_151 : decode (cd m_M_plan) 151 = .ok (.istore 7, 2) := by decide +kernel
theorem d_M_plan_153 : decode (cd m_M_plan) 153 = .ok (.iload 7, 2) := by decide +kernel
theorem d_M_plan_155 : decode (cd m_M_plan) 155 = .ok (.iload 6, 2) := by decide +kernel
theorem d_M_plan_157 : decode (cd m_M_plan) 157 = .ok (.if_icmp .ge 71, 3) := by decide +kernel
theorem d_M_plan_160 : decode (cd m_M_plan) 160 = .ok (.aload_n 0, 1) := by decide +kernel
theorem d_M_plan_161 : decode (cd m_M_plan) 161 = .ok (.getfield 68, 3) := by decide +kernel
theorem d_M_plan_164 : decode (cd m_M_plan) 164 = .ok (.iconst 4, 1) := by decide +kernel
theorem d_M_plan_165 : decode (cd m_M_plan) 165 = .ok (.iload 5, 2) := by decide +kernel
theorem d_M_plan_167 : decode (cd m_M_plan) 167 = .ok (.imul, 1) := by decide +kernel
theorem d_M_plan_168 : decode (cd m_M_plan) 168 = .ok (.iload 7, 2) := by decide +kernel
theorem d_M_plan_170 : decode (cd m_M_plan) 170 = .ok (.iadd, 1) := by decide +kernel
theorem d_M_plan_171 : decode (cd m_M_plan) 171 = .ok (.iaload, 1) := by decide +kernel
theorem d_M_plan_172 : decode (cd m_M_plan) 172 = .ok (.iconst 1, 1) := by decide +kernel
theorem d_M_plan_173 : decode (cd m_M_plan) 173 = .ok (.if_icmp .ne 49, 3) := by decide +kernel
theorem d_M_plan_176 : decode (cd m_M_plan) 176 = .ok (.aload_n 0, 1) := by decide +kernel
theorem d_M_plan_177 : decode (cd m_M_plan) 177 = .ok (.getfield 120, 3) := by decide +kernel
theorem d_M_plan_180 : decode (cd m_M_plan) 180 = .ok (.aload_n 0, 1) := by decide +kernel
theorem d_M_plan_181 : decode (cd m_M_plan) 181 = .ok (.getfield 71, 3) := by decide +kernel
theorem d_M_plan_184 : decode (cd m_M_plan) 184 = .ok (.iconst 4, 1) := by decide +kernel
theorem d_M_plan_185 : decode (cd m_M_plan) 185 = .ok (.iload 5, 2) := by decide +kernel
theorem d_M_plan_187 : decode (cd m_M_plan) 187 = .ok (.imul, 1) := by decide +kernel
theorem d_M_plan_188 : decode (cd m_M_plan) 188 = .ok (.iload 7, 2) := by decide +kernel
theorem d_M_plan_190 : decode (cd m_M_plan) 190 = .ok (.iadd, 1) := by decide +kernel
theorem d_M_plan_191 : decode (cd m_M_plan) 191 = .ok (.laload, 1) := by decide +kernel
theorem d_M_plan_192 : decode (cd m_M_plan) 192 = .ok (.l2i, 1) := by decide +kernel
theorem d_M_plan_193 : decode (cd m_M_plan) 193 = .ok (.baload, 1) := by decide +kernel
theorem d_M_plan_194 : decode (cd m_M_plan) 194 = .ok (.ifCond .eq 6, 3) := by decide +kernel
theorem d_M_plan_197 : decode (cd m_M_plan) 197 = .ok (.goto 25, 3) := by decide +kernel
theorem d_M_plan_200 : decode (cd m_M_plan) 200 = .ok (.aload_n 0, 1) := by decide +kernel
theorem d_M_plan_201 : decode (cd m_M_plan) 201 = .ok (.getfield 120, 3) := by decide +kernel
theorem d_M_plan_204 : decode (cd m_M_plan) 204 = .ok (.aload_n 0, 1) := by decide +kernel
theorem d_M_plan_205 : decode (cd m_M_plan) 205 = .ok (.getfield 71, 3) := by decide +kernel
theorem d_M_plan_208 : decode (cd m_M_plan) 208 = .ok (.iconst 4, 1) := by decide +kernel
theorem d_M_plan_209 : decode (cd m_M_plan) 209 = .ok (.iload 5, 2) := by decide +kernel
theorem d_M_plan_211 : decode (cd m_M_plan) 211 = .ok (.imul, 1) := by decide +kernel
theorem d_M_plan_212 : decode (cd m_M_plan) 212 = .ok (.iload 7, 2) := by decide +kernel
theorem d_M_plan_214 : decode (cd m_M_plan) 214 = .ok (.iadd, 1) := by decide +kernel
theorem d_M_plan_215 : decode (cd m_M_plan) 215 = .ok (.laload, 1) := by decide +kernel
theorem d_M_plan_216 : decode (cd m_M_plan) 216 = .ok (.l2i, 1) := by decide +kernel
theorem d_M_plan_217 : decode (cd m_M_plan) 217 = .ok (.iconst 1, 1) := by decide +kernel
theorem d_M_plan_218 : decode (cd m_M_plan) 218 = .ok (.bastore, 1) := by decide +kernel
theorem d_M_plan_219 : decode (cd m_M_plan) 219 = .ok (.iinc 2 1, 3) := by decide +kernel
theorem d_M_plan_222 : decode (cd m_M_plan) 222 = .ok (.iinc 7 1, 3) := by decide +kernel
theorem d_M_plan_225 : decode (cd m_M_plan) 225 = .ok (.goto (-72), 3) := by decide +kernel
theorem d_M_plan_228 : decode (cd m_M_plan) 228 = .ok (.aload_n 0, 1) := by decide +kernel
theorem d_M_plan_229 : decode (cd m_M_plan) 229 = .ok (.getfield 117, 3) := by decide +kernel
theorem d_M_plan_232 : decode (cd m_M_plan) 232 = .ok (.iload_n 3, 1) := by decide +kernel
theorem d_M_plan_233 : decode (cd m_M_plan) 233 = .ok (.iload_n 2, 1) := by decide +kernel
theorem d_M_plan_234 : decode (cd m_M_plan) 234 = .ok (.iastore, 1) := by decide +kernel
theorem d_M_plan_235 : decode (cd m_M_plan) 235 = .ok (.iinc 3 1, 3) := by decide +kernel
theorem d_M_plan_238 : decode (cd m_M_plan) 238 = .ok (.goto (-192), 3) := by decide +kernel
theorem d_M_plan_241 : decode (cd m_M_plan) 241 = .ok (.return_, 1) := by decide +kernel
theorem d_M_predicates_0 : decode (cd m_M_predicates) 0 = .ok (.aload_n 0, 1) := by decide +kernel
theorem d_M_predicates_1 : decode (cd m_M_predicates) 1 = .ok (.iconst 0, 1) := by decide +kernel
theorem d_M_predicates_2 : decode (cd m_M_predicates) 2 = .ok (.putfield 126, 3) := by decide +kernel
theorem d_M_predicates_5 : decode (cd m_M_predicates) 5 = .ok (.aload_n 0, 1) := by decide +kernel
theorem d_M_predicates_6 : decode (cd m_M_predicates) 6 = .ok (.getfield 26, 3) := by decide +kernel
theorem d_M_predicates_9 : decode (cd m_M_predicates) 9 = .ok (.aload_n 0, 1) := by decide +kernel
theorem d_M_predicates_10 : decode (cd m_M_predicates) 10 = .ok (.getfield 308, 3) := by decide +kernel
theorem d_M_predicates_13 : decode (cd m_M_predicates) 13 = .ok (.iaload, 1) := by decide +kernel
theorem d_M_predicates_14 : decode (cd m_M_predicates) 14 = .ok (.ireturn, 1) := by decide +kernel
theorem d_M_letters_0 : decode (cd m_M_letters) 0 = .ok (.iconst 0, 1) := by decide +kernel
theorem d_M_letters_1 : decode (cd m_M_letters) 1 = .ok (.istore_n 2, 1) := by decide +kernel
theorem d_M_letters_2 : decode (cd m_M_letters) 2 = .ok (.lload_n 0, 1) := by decide +kernel
theorem d_M_letters_3 : decode (cd m_M_letters) 3 = .ok (.lstore_n 3, 1) := by decide +kernel
theorem d_M_letters_4 : decode (cd m_M_letters) 4 = .ok (.lload_n 3, 1) := by decide +kernel
theorem d_M_letters_5 : decode (cd m_M_letters) 5 = .ok (.lconst 0, 1) := by decide +kernel
theorem d_M_letters_6 : decode (cd m_M_letters) 6 = .ok (.lcmp, 1) := by decide +kernel
theorem d_M_letters_7 : decode (cd m_M_letters) 7 = .ok (.ifCond .le 14, 3) := by decide +kernel
theorem d_M_letters_10 : decode (cd m_M_letters) 10 = .ok (.iinc 2 1, 3) := by decide +kernel
theorem d_M_letters_13 : decode (cd m_M_letters) 13 = .ok (.lload_n 3, 1) := by decide +kernel
theorem d_M_letters_14 : decode (cd m_M_letters) 14 = .ok (.bipush 8, 2) := by decide +kernel
theorem d_M_letters_16 : decode (cd m_M_letters) 16 = .ok (.lshr, 1) := by decide +kernel
theorem d_M_letters_17 : decode (cd m_M_letters) 17 = .ok (.lstore_n 3, 1) := by decide +kernel
theorem d_M_letters_18 : decode (cd m_M_letters) 18 = .ok (.goto (-14), 3) := by decide +kernel
theorem d_M_letters_21 : decode (cd m_M_letters) 21 = .ok (.iload_n 2, 1) := by decide +kernel
theorem d_M_letters_22 : decode (cd m_M_letters) 22 = .ok (.ireturn, 1) := by decide +kernel
theorem d_M_predicate_0 : decode (cd m_M_predicate) 0 = .ok (.aload_n 0, 1) := by decide +kernel
theorem d_M_predicate_1 : decode (cd m_M_predicate) 1 = .ok (.iconst 0, 1) := by decide +kernel
theorem d_M_predicate_2 : decode (cd m_M_predicate) 2 = .ok (.putfield 126, 3) := by decide +kernel
theorem d_M_predicate_5 : decode (cd m_M_predicate) 5 = .ok (.iload_n 1, 1) := by decide +kernel
theorem d_M_predicate_6 : decode (cd m_M_predicate) 6 = .ok (.ifCond .lt 16, 3) := by decide +kernel
theorem d_M_predicate_9 : decode (cd m_M_predicate) 9 = .ok (.iload_n 1, 1) := by decide +kernel
theorem d_M_predicate_10 : decode (cd m_M_predicate) 10 = .ok (.aload_n 0, 1) := by decide +kernel
theorem d_M_predicate_11 : decode (cd m_M_predicate) 11 = .ok (.getfield 26, 3) := by decide +kernel
theorem d_M_predicate_14 : decode (cd m_M_predicate) 14 = .ok (.aload_n 0, 1) := by decide +kernel
theorem d_M_predicate_15 : decode (cd m_M_predicate) 15 = .ok (.getfield 308, 3) := by decide +kernel
theorem d_M_predicate_18 : decode (cd m_M_predicate) 18 = .ok (.iaload, 1) := by decide +kernel
theorem d_M_predicate_19 : decode (cd m_M_predicate) 19 = .ok (.if_icmp .lt 5, 3) := by decide +kernel
theorem d_M_predicate_22 : decode (cd m_M_predicate) 22 = .ok (.iconst (-1), 1) := by decide +kernel
theorem d_M_predicate_23 : decode (cd m_M_predicate) 23 = .ok (.ireturn, 1) := by decide +kernel
theorem d_M_predicate_24 : decode (cd m_M_predicate) 24 = .ok (.iconst 0, 1) := by decide +kernel
theorem d_M_predicate_25 : decode (cd m_M_predicate) 25 = .ok (.istore_n 3, 1) := by decide +kernel
theorem d_M_predicate_26 : decode (cd m_M_predicate) 26 = .ok (.aload_n 0, 1) := by decide +kernel
theorem d_M_predicate_27 : decode (cd m_M_predicate) 27 = .ok (.getfield 29, 3) := by decide +kernel
theorem d_M_predicate_30 : decode (cd m_M_predicate) 30 = .ok (.bipush 16, 2) := by decide +kernel
theorem d_M_predicate_32 : decode (cd m_M_predicate) 32 = .ok (.aload_n 0, 1) := by decide +kernel
theorem d_M_predicate_33 : decode (cd m_M_predicate) 33 = .ok (.getfield 308, 3) := by decide +kernel
theorem d_M_predicate_36 : decode (cd m_M_predicate) 36 = .ok (.imul, 1) := by decide +kernel
theorem d_M_predicate_37 : decode (cd m_M_predicate) 37 = .ok (.iload_n 1, 1) := by decide +kernel
theorem d_M_predicate_38 : decode (cd m_M_predicate) 38 = .ok (.iadd, 1) := by decide +kernel
theorem d_M_predicate_39 : decode (cd m_M_predicate) 39 = .ok (.laload, 1) := by decide +kernel
theorem d_M_predicate_40 : decode (cd m_M_predicate) 40 = .ok (.lstore 4, 2) := by decide +kernel
theorem d_M_predicate_42 : decode (cd m_M_predicate) 42 = .ok (.lload 4, 2) := by decide +kernel
theorem d_M_predicate_44 : decode (cd m_M_predicate) 44 = .ok (.invokestatic 338, 3) := by decide +kernel
theorem d_M_predicate_47 : decode (cd m_M_predicate) 47 = .ok (.istore 6, 2) := by decide +kernel
theorem d_M_predicate_49 : decode (cd m_M_predicate) 49 = .ok (.iload_n 2, 1) := by decide +kernel
theorem d_M_predicate_50 : decode (cd m_M_predicate) 50 = .ok (.bipush 100, 2) := by decide +kernel
theorem d_M_predicate_52 : decode (cd m_M_predicate) 52 = .ok (.if_icmp .lt 33, 3) := by decide +kernel
theorem d_M_predicate_55 : decode (cd m_M_predicate) 55 = .ok (.iload_n 2, 1) := by decide +kernel
theorem d_M_predicate_56 : decode (cd m_M_predicate) 56 = .ok (.bipush 100, 2) := by decide +kernel
theorem d_M_predicate_58 : decode (cd m_M_predicate) 58 = .ok (.iload 6, 2) := by decide +kernel
theorem d_M_predicate_60 : decode (cd m_M_predicate) 60 = .ok (.iadd, 1) := by decide +kernel
theorem d_M_predicate_61 : decode (cd m_M_predicate) 61 = .ok (.if_icmp .ge 24, 3) := by decide +kernel
theorem d_M_predicate_64 : decode (cd m_M_predicate) 64 = .ok (.lload 4, 2) := by decide +kernel
theorem d_M_predicate_66 : decode (cd m_M_predicate) 66 = .ok (.bipush 8, 2) := by decide +kernel
theorem d_M_predicate_68 : decode (cd m_M_predicate) 68 = .ok (.iload 6, 2) := by decide +kernel
theorem d_M_predicate_70 : decode (cd m_M_predicate) 70 = .ok (.iconst 1, 1) := by decide +kernel
theorem d_M_predicate_71 : decode (cd m_M_predicate) 71 = .ok (.isub, 1) := by decide +kernel
theorem d_M_predicate_72 : decode (cd m_M_predicate) 72 = .ok (.iload_n 2, 1) := by decide +kernel
theorem d_M_predicate_73 : decode (cd m_M_predicate) 73 = .ok (.isub, 1) := by decide +kernel
theorem d_M_predicate_74 : decode (cd m_M_predicate) 74 = .ok (.bipush 100, 2) := by decide +kernel
theorem d_M_predicate_76 : decode (cd m_M_predicate) 76 = .ok (.iadd, 1) := by decide +kernel
theorem d_M_predicate_77 : decode (cd m_M_predicate) 77 = .ok (.imul, 1) := by decide +kernel
theorem d_M_predicate_78 : decode (cd m_M_predicate) 78 = .ok (.lshr, 1) := by decide +kernel
theorem d_M_predicate_79 : decode (cd m_M_predicate) 79 = .ok (.ldc2_w 133, 3) := by decide +kernel
theorem d_M_predicate_82 : decode (cd m_M_predicate) 82 = .ok (.land, 1) := by decide +kernel
theorem d_M_predicate_83 : decode (cd m_M_predicate) 83 = .ok (.l2i, 1) := by decide +kernel
theorem d_M_predicate_84 : decode (cd m_M_predicate) 84 = .ok (.ireturn, 1) := by decide +kernel
theorem d_M_predicate_85 : decode (cd m_M_predicate) 85 = .ok (.iload_n 2, 1) := by decide +kernel
theorem d_M_predicate_86 : decode (cd m_M_predicate) 86 = .ok (.tableswitch 185 0 4 #[34, 49, 64, 122, 182], 34) := by decide +kernel
theorem d_M_predicate_120 : decode (cd m_M_predicate) 120 = .ok (.aload_n 0, 1) := by decide +kernel
theorem d_M_predicate_121 : decode (cd m_M_predicate) 121 = .ok (.getfield 32, 3) := by decide +kernel
theorem d_M_predicate_124 : decode (cd m_M_predicate) 124 = .ok (.bipush 16, 2) := by decide +kernel
theorem d_M_predicate_126 : decode (cd m_M_predicate) 126 = .ok (.aload_n 0, 1) := by decide +kernel
theorem d_M_predicate_127 : decode (cd m_M_predicate) 127 = .ok (.getfield 308, 3) := by decide +kernel
theorem d_M_predicate_130 : decode (cd m_M_predicate) 130 = .ok (.imul, 1) := by decide +kernel
theorem d_M_predicate_131 : decode (cd m_M_predicate) 131 = .ok (.iload_n 1, 1) := by decide +kernel
theorem d_M_predicate_132 : decode (cd m_M_predicate) 132 = .ok (.iadd, 1) := by decide +kernel
theorem d_M_predicate_133 : decode (cd m_M_predicate) 133 = .ok (.iaload, 1) := by decide +kernel
theorem d_M_predicate_134 : decode (cd m_M_predicate) 134 = .ok (.ireturn, 1) := by decide +kernel
theorem d_M_predicate_135 : decode (cd m_M_predicate) 135 = .ok (.aload_n 0, 1) := by decide +kernel
theorem d_M_predicate_136 : decode (cd m_M_predicate) 136 = .ok (.getfield 35, 3) := by decide +kernel
theorem d_M_predicate_139 : decode (cd m_M_predicate) 139 = .ok (.bipush 16, 2) := by decide +kernel
theorem d_M_predicate_141 : decode (cd m_M_predicate) 141 = .ok (.aload_n 0, 1) := by decide +kernel
theorem d_M_predicate_142 : decode (cd m_M_predicate) 142 = .ok (.getfield 308, 3) := by decide +kernel
theorem d_M_predicate_145 : decode (cd m_M_predicate) 145 = .ok (.imul, 1) := by decide +kernel
theorem d_M_predicate_146 : decode (cd m_M_predicate) 146 = .ok (.iload_n 1, 1) := by decide +kernel
theorem d_M_predicate_147 : decode (cd m_M_predicate) 147 = .ok (.iadd, 1) := by decide +kernel
theorem d_M_predicate_148 : decode (cd m_M_predicate) 148 = .ok (.iaload, 1) := by decide +kernel
theorem d_M_predicate_149 : decode (cd m_M_predicate) 149 = .ok (.ireturn, 1) := by decide +kernel
theorem d_M_predicate_150 : decode (cd m_M_predicate) 150 = .ok (.bipush 30, 2) := by decide +kernel
theorem d_M_predicate_152 : decode (cd m_M_predicate) 152 = .ok (.aload_n 0, 1) := by decide +kernel
theorem d_M_predicate_153 : decode (cd m_M_predicate) 153 = .ok (.getfield 308, 3) := by decide +kernel
theorem d_M_predicate_156 : decode (cd m_M_predicate) 156 = .ok (.imul, 1) := by decide +kernel
theorem d_M_predicate_157 : decode (cd m_M_predicate) 157 = .ok (.istore 7, 2) := by decide +kernel
theorem d_M_predicate_159 : decode (cd m_M_predicate) 159 = .ok (.iload 7, 2) := by decide +kernel
theorem d_M_predicate_161 : decode (cd m_M_predicate) 161 = .ok (.bipush 30, 2) := by decide +kernel
theorem d_M_predicate_163 : decode (cd m_M_predicate) 163 = .ok (.aload_n 0, 1) := by decide +kernel
theorem d_M_predicate_164 : decode (cd m_M_predicate) 164 = .ok (.getfield 308, 3) := by decide +kernel
theorem d_M_predicate_167 : decode (cd m_M_predicate) 167 = .ok (.imul, 1) := by decide +kernel
theorem d_M_predicate_168 : decode (cd m_M_predicate) 168 = .ok (.aload_n 0, 1) := by decide +kernel
theorem d_M_predicate_169 : decode (cd m_M_predicate) 169 = .ok (.getfield 38, 3) := by decide +kernel
theorem d_M_predicate_172 : decode (cd m_M_predicate) 172 = .ok (.aload_n 0, 1) := by decide +kernel
theorem d_M_predicate_173 : decode (cd m_M_predicate) 173 = .ok (.getfield 308, 3) := by decide +kernel
theorem d_M_predicate_176 : decode (cd m_M_predicate) 176 = .ok (.iaload, 1) := by decide +kernel
theorem d_M_predicate_177 : decode (cd m_M_predicate) 177 = .ok (.iadd, 1) := by decide +kernel
theorem d_M_predicate_178 : decode (cd m_M_predicate) 178 = .ok (.if_icmp .ge 28, 3) := by decide +kernel
theorem d_M_predicate_181 : decode (cd m_M_predicate) 181 = .ok (.iload_n 3, 1) := by decide +kernel
theorem d_M_predicate_182 : decode (cd m_M_predicate) 182 = .ok (.aload_n 0, 1) := by decide +kernel
theorem d_M_predicate_183 : decode (cd m_M_predicate) 183 = .ok (.getfield 41, 3) := by decide +kernel
theorem d_M_predicate_186 : decode (cd m_M_predicate) 186 = .ok (.iload 7, 2) := by decide +kernel
theorem d_M_predicate_188 : decode (cd m_M_predicate) 188 = .ok (.iaload, 1) := by decide +kernel
theorem d_M_predicate_189 : decode (cd m_M_predicate) 189 = .ok (.iload_n 1, 1) := by decide +kernel
theorem d_M_predicate_190 : decode (cd m_M_predicate) 190 = .ok (.if_icmp .ne 7, 3) := by decide +kernel
theorem d_M_predicate_193 : decode (cd m_M_predicate) 193 = .ok (.iconst 1, 1) := by decide +kernel
theorem d_M_predicate_194 : decode (cd m_M_predicate) 194 = .ok (.goto 4, 3) := by decide +kernel
theorem d_M_predicate_197 : decode (cd m_M_predicate) 197 = .ok (.iconst 0, 1) := by decide +kernel
theorem d_M_predicate_198 : decode (cd m_M_predicate) 198 = .ok (.iadd, 1) := by decide +kernel
theorem d_M_predicate_199 : decode (cd m_M_predicate) 199 = .ok (.istore_n 3, 1) := by decide +kernel
theorem d_M_predicate_200 : decode (cd m_M_predicate) 200 = .ok (.iinc 7 1, 3) := by decide +kernel
theorem d_M_predicate_203 : decode (cd m_M_predicate) 203 = .ok (.goto (-44), 3) := by decide +kernel
theorem d_M_predicate_206 : decode (cd m_M_predicate) 206 = .ok (.iload_n 3, 1) := by decide +kernel
theorem d_M_predicate_207 : decode (cd m_M_predicate) 207 = .ok (.ireturn, 1) := by decide +kernel
theorem d_M_predicate_208 : decode (cd m_M_predicate) 208 = .ok (.sipush 200, 3) := by decide +kernel
theorem d_M_predicate_211 : decode (cd m_M_predicate) 211 = .ok (.aload_n 0, 1) := by decide +kernel
theorem d_M_predicate_212 : decode (cd m_M_predicate) 212 = .ok (.getfield 308, 3) := by decide +kernel
theorem d_M_predicate_215 : decode (cd m_M_predicate) 215 = .ok (.imul, 1) := by decide +kernel
theorem d_M_predicate_216 : decode (cd m_M_predicate) 216 = .ok (.istore 7, 2) := by decide +kernel
theorem d_M_predicate_218 : decode (cd m_M_predicate) 218 = .ok (.iload 7, 2) := by decide +kernel
theorem d_M_predicate_220 : decode (cd m_M_predicate) 220 = .ok (.sipush 200, 3) := by decide +kernel
theorem d_M_predicate_223 : decode (cd m_M_predicate) 223 = .ok (.aload_n 0, 1) := by decide +kernel
theorem d_M_predicate_224 : decode (cd m_M_predicate) 224 = .ok (.getfield 308, 3) := by decide +kernel
theorem d_M_predicate_227 : decode (cd m_M_predicate) 227 = .ok (.imul, 1) := by decide +kernel
theorem d_M_predicate_228 : decode (cd m_M_predicate) 228 = .ok (.aload_n 0, 1) := by decide +kernel
theorem d_M_predicate_229 : decode (cd m_M_predicate) 229 = .ok (.getfield 74, 3) := by decide +kernel
theorem d_M_predicate_232 : decode (cd m_M_predicate) 232 = .ok (.aload_n 0, 1) := by decide +kernel
theorem d_M_predicate_233 : decode (cd m_M_predicate) 233 = .ok (.getfield 308, 3) := by decide +kernel
theorem d_M_predicate_236 : decode (cd m_M_predicate) 236 = .ok (.iaload, 1) := by decide +kernel
theorem d_M_predicate_237 : decode (cd m_M_predicate) 237 = .ok (.iadd, 1) := by decide +kernel
theorem d_M_predicate_238 : decode (cd m_M_predicate) 238 = .ok (.if_icmp .ge 28, 3) := by decide +kernel
theorem d_M_predicate_241 : decode (cd m_M_predicate) 241 = .ok (.iload_n 3, 1) := by decide +kernel
theorem d_M_predicate_242 : decode (cd m_M_predicate) 242 = .ok (.aload_n 0, 1) := by decide +kernel
theorem d_M_predicate_243 : decode (cd m_M_predicate) 243 = .ok (.getfield 77, 3) := by decide +kernel
theorem d_M_predicate_246 : decode (cd m_M_predicate) 246 = .ok (.iload 7, 2) := by decide +kernel
theorem d_M_predicate_248 : decode (cd m_M_predicate) 248 = .ok (.iaload, 1) := by decide +kernel
theorem d_M_predicate_249 : decode (cd m_M_predicate) 249 = .ok (.iload_n 1, 1) := by decide +kernel
theorem d_M_predicate_250 : decode (cd m_M_predicate) 250 = .ok (.if_icmp .ne 7, 3) := by decide +kernel
theorem d_M_predicate_253 : decode (cd m_M_predicate) 253 = .ok (.iconst 1, 1) := by decide +kernel
theorem d_M_predicate_254 : decode (cd m_M_predicate) 254 = .ok (.goto 4, 3) := by decide +kernel
theorem d_M_predicate_257 : decode (cd m_M_predicate) 257 = .ok (.iconst 0, 1) := by decide +kernel
theorem d_M_predicate_258 : decode (cd m_M_predicate) 258 = .ok (.iadd, 1) := by decide +kernel
theorem d_M_predicate_259 : decode (cd m_M_predicate) 259 = .ok (.istore_n 3, 1) := by decide +kernel
theorem d_M_predicate_260 : decode (cd m_M_predicate) 260 = .ok (.iinc 7 1, 3) := by decide +kernel
theorem d_M_predicate_263 : decode (cd m_M_predicate) 263 = .ok (.goto (-45), 3) := by decide +kernel
theorem d_M_predicate_266 : decode (cd m_M_predicate) 266 = .ok (.iload_n 3, 1) := by decide +kernel
theorem d_M_predicate_267 : decode (cd m_M_predicate) 267 = .ok (.ireturn, 1) := by decide +kernel
theorem d_M_predicate_268 : decode (cd m_M_predicate) 268 = .ok (.iload 6, 2) := by decide +kernel
theorem d_M_predicate_270 : decode (cd m_M_predicate) 270 = .ok (.ireturn, 1) := by decide +kernel
theorem d_M_predicate_271 : decode (cd m_M_predicate) 271 = .ok (.iconst (-1), 1) := by decide +kernel
theorem d_M_predicate_272 : decode (cd m_M_predicate) 272 = .ok (.ireturn, 1) := by decide +kernel
theorem d_M_hangs_0 : decode (cd m_M_hangs) 0 = .ok (.aload_n 0, 1) := by decide +kernel
theorem d_M_hangs_1 : decode (cd m_M_hangs) 1 = .ok (.iconst 0, 1) := by decide +kernel
theorem d_M_hangs_2 : decode (cd m_M_hangs) 2 = .ok (.putfield 126, 3) := by decide +kernel
theorem d_M_hangs_5 : decode (cd m_M_hangs) 5 = .ok (.iload_n 1, 1) := by decide +kernel
theorem d_M_hangs_6 : decode (cd m_M_hangs) 6 = .ok (.ifCond .lt 51, 3) := by decide +kernel
theorem d_M_hangs_9 : decode (cd m_M_hangs) 9 = .ok (.iload_n 1, 1) := by decide +kernel
theorem d_M_hangs_10 : decode (cd m_M_hangs) 10 = .ok (.aload_n 0, 1) := by decide +kernel
theorem d_M_hangs_11 : decode (cd m_M_hangs) 11 = .ok (.getfield 26, 3) := by decide +kernel
theorem d_M_hangs_14 : decode (cd m_M_hangs) 14 = .ok (.aload_n 0, 1) := by decide +kernel
theorem d_M_hangs_15 : decode (cd m_M_hangs) 15 = .ok (.getfield 308, 3) := by decide +kernel
theorem d_M_hangs_18 : decode (cd m_M_hangs) 18 = .ok (.iaload, 1) := by decide +kernel
theorem d_M_hangs_19 : decode (cd m_M_hangs) 19 = .ok (.if_icmp .ge 38, 3) := by decide +kernel
theorem d_M_hangs_22 : decode (cd m_M_hangs) 22 = .ok (.iload_n 2, 1) := by decide +kernel
theorem d_M_hangs_23 : decode (cd m_M_hangs) 23 = .ok (.ifCond .lt 34, 3) := by decide +kernel
theorem d_M_hangs_26 : decode (cd m_M_hangs) 26 = .ok (.iload_n 2, 1) := by decide +kernel
theorem d_M_hangs_27 : decode (cd m_M_hangs) 27 = .ok (.aload_n 0, 1) := by decide +kernel
theorem d_M_hangs_28 : decode (cd m_M_hangs) 28 = .ok (.getfield 26, 3) := by decide +kernel
theorem d_M_hangs_31 : decode (cd m_M_hangs) 31 = .ok (.aload_n 0, 1) := by decide +kernel
theorem d_M_hangs_32 : decode (cd m_M_hangs) 32 = .ok (.getfield 308, 3) := by decide +kernel
theorem d_M_hangs_35 : decode (cd m_M_hangs) 35 = .ok (.iaload, 1) := by decide +kernel
theorem d_M_hangs_36 : decode (cd m_M_hangs) 36 = .ok (.if_icmp .ge 21, 3) := by decide +kernel
theorem d_M_hangs_39 : decode (cd m_M_hangs) 39 = .ok (.aload_n 0, 1) := by decide +kernel
theorem d_M_hangs_40 : decode (cd m_M_hangs) 40 = .ok (.getfield 108, 3) := by decide +kernel
theorem d_M_hangs_43 : decode (cd m_M_hangs) 43 = .ok (.bipush 16, 2) := by decide +kernel
theorem d_M_hangs_45 : decode (cd m_M_hangs) 45 = .ok (.iload_n 1, 1) := by decide +kernel
theorem d_M_hangs_46 : decode (cd m_M_hangs) 46 = .ok (.imul, 1) := by decide +kernel
theorem d_M_hangs_47 : decode (cd m_M_hangs) 47 = .ok (.iload_n 2, 1) := by decide +kernel
theorem d_M_hangs_48 : decode (cd m_M_hangs) 48 = .ok (.iadd, 1) := by decide +kernel
theorem d_M_hangs_49 : decode (cd m_M_hangs) 49 = .ok (.baload, 1) := by decide +kernel
theorem d_M_hangs_50 : decode (cd m_M_hangs) 50 = .ok (.ifCond .eq 7, 3) := by decide +kernel
theorem d_M_hangs_53 : decode (cd m_M_hangs) 53 = .ok (.iconst 1, 1) := by decide +kernel
theorem d_M_hangs_54 : decode (cd m_M_hangs) 54 = .ok (.goto 4, 3) := by decide +kernel
theorem d_M_hangs_57 : decode (cd m_M_hangs) 57 = .ok (.iconst 0, 1) := by decide +kernel
theorem d_M_hangs_58 : decode (cd m_M_hangs) 58 = .ok (.ireturn, 1) := by decide +kernel
theorem d_M_rule_0 : decode (cd m_M_rule) 0 = .ok (.iload_n 1, 1) := by decide +kernel
theorem d_M_rule_1 : decode (cd m_M_rule) 1 = .ok (.ifCond .lt 25, 3) := by decide +kernel
theorem d_M_rule_4 : decode (cd m_M_rule) 4 = .ok (.iload_n 1, 1) := by decide +kernel
theorem d_M_rule_5 : decode (cd m_M_rule) 5 = .ok (.aload_n 0, 1) := by decide +kernel
theorem d_M_rule_6 : decode (cd m_M_rule) 6 = .ok (.getfield 38, 3) := by decide +kernel
theorem d_M_rule_9 : decode (cd m_M_rule) 9 = .ok (.aload_n 0, 1) := by decide +kernel
theorem d_M_rule_10 : decode (cd m_M_rule) 10 = .ok (.getfield 308, 3) := by decide +kernel
theorem d_M_rule_13 : decode (cd m_M_rule) 13 = .ok (.iaload, 1) := by decide +kernel
theorem d_M_rule_14 : decode (cd m_M_rule) 14 = .ok (.if_icmp .ge 12, 3) := by decide +kernel
theorem d_M_rule_17 : decode (cd m_M_rule) 17 = .ok (.iload_n 2, 1) := by decide +kernel
theorem d_M_rule_18 : decode (cd m_M_rule) 18 = .ok (.ifCond .lt 8, 3) := by decide +kernel
theorem d_M_rule_21 : decode (cd m_M_rule) 21 = .ok (.iload_n 2, 1) := by decide +kernel
theorem d_M_rule_22 : decode (cd m_M_rule) 22 = .ok (.iconst 4, 1) := by decide +kernel
theorem d_M_rule_23 : decode (cd m_M_rule) 23 = .ok (.if_icmp .le 9, 3) := by decide +kernel
theorem d_M_rule_26 : decode (cd m_M_rule) 26 = .ok (.aload_n 0, 1) := by decide +kernel
theorem d_M_rule_27 : decode (cd m_M_rule) 27 = .ok (.iconst 1, 1) := by decide +kernel
theorem d_M_rule_28 : decode (cd m_M_rule) 28 = .ok (.invokevirtual 317, 3) := by decide +kernel
theorem d_M_rule_31 : decode (cd m_M_rule) 31 = .ok (.ireturn, 1) := by decide +kernel
theorem d_M_rule_32 : decode (cd m_M_rule) 32 = .ok (.aload_n 0, 1) := by decide +kernel
theorem d_M_rule_33 : decode (cd m_M_rule) 33 = .ok (.iconst 0, 1) := by decide +kernel
theorem d_M_rule_34 : decode (cd m_M_rule) 34 = .ok (.putfield 126, 3) := by decide +kernel
theorem d_M_rule_37 : decode (cd m_M_rule) 37 = .ok (.bipush 30, 2) := by decide +kernel
theorem d_M_rule_39 : decode (cd m_M_rule) 39 = .ok (.aload_n 0, 1) := by decide +kernel
theorem d_M_rule_40 : decode (cd m_M_rule) 40 = .ok (.getfield 308, 3) := by decide +kernel
theorem d_M_rule_43 : decode (cd m_M_rule) 43 = .ok (.imul, 1) := by decide +kernel
theorem d_M_rule_44 : decode (cd m_M_rule) 44 = .ok (.iload_n 1, 1) := by decide +kernel
theorem d_M_rule_45 : decode (cd m_M_rule) 45 = .ok (.iadd, 1) := by decide +kernel
theorem d_M_rule_46 : decode (cd m_M_rule) 46 = .ok (.istore_n 3, 1) := by decide +kernel
theorem d_M_rule_47 : decode (cd m_M_rule) 47 = .ok (.iconst 0, 1) := by decide +kernel
theorem d_M_rule_48 : decode (cd m_M_rule) 48 = .ok (.istore 4, 2) := by decide +kernel
theorem d_M_rule_50 : decode (cd m_M_rule) 50 = .ok (.bipush 6, 2) := by decide +kernel
theorem d_M_rule_52 : decode (cd m_M_rule) 52 = .ok (.iload_n 3, 1) := by decide +kernel
theorem d_M_rule_53 : decode (cd m_M_rule) 53 = .ok (.imul, 1) := by decide +kernel
theorem d_M_rule_54 : decode (cd m_M_rule) 54 = .ok (.istore 5, 2) := by decide +kernel
theorem d_M_rule_56 : decode (cd m_M_rule) 56 = .ok (.iload 5, 2) := by decide +kernel
theorem d_M_rule_58 : decode (cd m_M_rule) 58 = .ok (.bipush 6, 2) := by decide +kernel
theorem d_M_rule_60 : decode (cd m_M_rule) 60 = .ok (.iload_n 3, 1) := by decide +kernel
theorem d_M_rule_61 : decode (cd m_M_rule) 61 = .ok (.imul, 1) := by decide +kernel
theorem d_M_rule_62 : decode (cd m_M_rule) 62 = .ok (.aload_n 0, 1) := by decide +kernel
theorem d_M_rule_63 : decode (cd m_M_rule) 63 = .ok (.getfield 56, 3) := by decide +kernel
theorem d_M_rule_66 : decode (cd m_M_rule) 66 = .ok (.iload_n 3, 1) := by decide +kernel
theorem d_M_rule_67 : decode (cd m_M_rule) 67 = .ok (.iaload, 1) := by decide +kernel
theorem d_M_rule_68 : decode (cd m_M_rule) 68 = .ok (.iadd, 1) := by decide +kernel
theorem d_M_rule_69 : decode (cd m_M_rule) 69 = .ok (.if_icmp .ge 49, 3) := by decide +kernel
theorem d_M_rule_72 : decode (cd m_M_rule) 72 = .ok (.iload 4, 2) := by decide +kernel
theorem d_M_rule_74 : decode (cd m_M_rule) 74 = .ok (.aload_n 0, 1) := by decide +kernel
theorem d_M_rule_75 : decode (cd m_M_rule) 75 = .ok (.getfield 62, 3) := by decide +kernel
theorem d_M_rule_78 : decode (cd m_M_rule) 78 = .ok (.iload 5, 2) := by decide +kernel
theorem d_M_rule_80 : decode (cd m_M_rule) 80 = .ok (.iaload, 1) := by decide +kernel
theorem d_M_rule_81 : decode (cd m_M_rule) 81 = .ok (.ifCond .ne 27, 3) := by decide +kernel
theorem d_M_rule_84 : decode (cd m_M_rule) 84 = .ok (.aload_n 0, 1) := by decide +kernel
theorem d_M_rule_85 : decode (cd m_M_rule) 85 = .ok (.aload_n 0, 1) := by decide +kernel
theorem d_M_rule_86 : decode (cd m_M_rule) 86 = .ok (.getfield 41, 3) := by decide +kernel
theorem d_M_rule_89 : decode (cd m_M_rule) 89 = .ok (.iload_n 3, 1) := by decide +kernel
theorem d_M_rule_90 : decode (cd m_M_rule) 90 = .ok (.iaload, 1) := by decide +kernel
theorem d_M_rule_91 : decode (cd m_M_rule) 91 = .ok (.aload_n 0, 1) := by decide +kernel
theorem d_M_rule_92 : decode (cd m_M_rule) 92 = .ok (.getfield 65, 3) := by decide +kernel
theorem d_M_rule_95 : decode (cd m_M_rule) 95 = .ok (.iload 5, 2) := by decide +kernel
theorem d_M_rule_97 : decode (cd m_M_rule) 97 = .ok (.iaload, 1) := by decide +kernel
theorem d_M_rule_98 : decode (cd m_M_rule) 98 = .ok (.invokevirtual 302, 3) := by decide +kernel
theorem d_M_rule_101 : decode (cd m_M_rule) 101 = .ok (.ifCond .eq 7, 3) := by decide +kernel
theorem d_M_rule_104 : decode (cd m_M_rule) 104 = .ok (.iconst 1, 1) := by decide +kernel
theorem d_M_rule_105 : decode (cd m_M_rule) 105 = .ok (.goto 4, 3) := by decide +kernel
theorem d_M_rule_108 : decode (cd m_M_rule) 108 = .ok (.iconst 0, 1) := by decide +kernel
theorem d_M_rule_109 : decode (cd m_M_rule) 109 = .ok (.iadd, 1) := by decide +kernel
theorem d_M_rule_110 : decode (cd m_M_rule) 110 = .ok (.istore 4, 2) := by decide +kernel
theorem d_M_rule_112 : decode (cd m_M_rule) 112 = .ok (.iinc 5 1, 3) := by decide +kernel
theorem d_M_rule_115 : decode (cd m_M_rule) 115 = .ok (.goto (-59), 3) := by decide +kernel
theorem d_M_rule_118 : decode (cd m_M_rule) 118 = .ok (.iload_n 2, 1) := by decide +kernel
theorem d_M_rule_119 : decode (cd m_M_rule) 119 = .ok (.tableswitch 72 0 3 #[29, 36, 43, 50], 29) := by decide +kernel
theorem d_M_rule_148 : decode (cd m_M_rule) 148 = .ok (.aload_n 0, 1) := by decide +kernel
theorem d_M_rule_149 : decode (cd m_M_rule) 149 = .ok (.getfield 41, 3) := by decide +kernel
theorem d_M_rule_152 : decode (cd m_M_rule) 152 = .ok (.iload_n 3, 1) := by decide +kernel
theorem d_M_rule_153 : decode (cd m_M_rule) 153 = .ok (.iaload, 1) := by decide +kernel
theorem d_M_rule_154 : decode (cd m_M_rule) 154 = .ok (.ireturn, 1) := by decide +kernel
theorem d_M_rule_155 : decode (cd m_M_rule) 155 = .ok (.aload_n 0, 1) := by decide +kernel
theorem d_M_rule_156 : decode (cd m_M_rule) 156 = .ok (.getfield 56, 3) := by decide +kernel
theorem d_M_rule_159 : decode (cd m_M_rule) 159 = .ok (.iload_n 3, 1) := by decide +kernel
theorem d_M_rule_160 : decode (cd m_M_rule) 160 = .ok (.iaload, 1) := by decide +kernel
theorem d_M_rule_161 : decode (cd m_M_rule) 161 = .ok (.ireturn, 1) := by decide +kernel
theorem d_M_rule_162 : decode (cd m_M_rule) 162 = .ok (.aload_n 0, 1) := by decide +kernel
theorem d_M_rule_163 : decode (cd m_M_rule) 163 = .ok (.getfield 59, 3) := by decide +kernel
theorem d_M_rule_166 : decode (cd m_M_rule) 166 = .ok (.iload_n 3, 1) := by decide +kernel
theorem d_M_rule_167 : decode (cd m_M_rule) 167 = .ok (.iaload, 1) := by decide +kernel
theorem d_M_rule_168 : decode (cd m_M_rule) 168 = .ok (.ireturn, 1) := by decide +kernel
theorem d_M_rule_169 : decode (cd m_M_rule) 169 = .ok (.aload_n 0, 1) := by decide +kernel
theorem d_M_rule_170 : decode (cd m_M_rule) 170 = .ok (.getfield 50, 3) := by decide +kernel
theorem d_M_rule_173 : decode (cd m_M_rule) 173 = .ok (.iload_n 3, 1) := by decide +kernel
theorem d_M_rule_174 : decode (cd m_M_rule) 174 = .ok (.iaload, 1) := by decide +kernel
theorem d_M_rule_175 : decode (cd m_M_rule) 175 = .ok (.ifCond .le 14, 3) := by decide +kernel
theorem d_M_rule_178 : decode (cd m_M_rule) 178 = .ok (.aload_n 0, 1) := by decide +kernel
theorem d_M_rule_179 : decode (cd m_M_rule) 179 = .ok (.getfield 50, 3) := by decide +kernel
theorem d_M_rule_182 : decode (cd m_M_rule) 182 = .ok (.iload_n 3, 1) := by decide +kernel
theorem d_M_rule_183 : decode (cd m_M_rule) 183 = .ok (.iaload, 1) := by decide +kernel
theorem d_M_rule_184 : decode (cd m_M_rule) 184 = .ok (.iconst 1, 1) := by decide +kernel
theorem d_M_rule_185 : decode (cd m_M_rule) 185 = .ok (.isub, 1) := by decide +kernel
theorem d_M_rule_186 : decode (cd m_M_rule) 186 = .ok (.goto 4, 3) := by decide +kernel
theorem d_M_rule_189 : decode (cd m_M_rule) 189 = .ok (.iconst 0, 1) := by decide +kernel
theorem d_M_rule_190 : decode (cd m_M_rule) 190 = .ok (.ireturn, 1) := by decide +kernel
theorem d_M_rule_191 : decode (cd m_M_rule) 191 = .ok (.iload 4, 2) := by decide +kernel
theorem d_M_rule_193 : decode (cd m_M_rule) 193 = .ok (.ireturn, 1) := by decide +kernel
theorem d_M_literal_0 : decode (cd m_M_literal) 0 = .ok (.iload_n 1, 1) := by decide +kernel
theorem d_M_literal_1 : decode (cd m_M_literal) 1 = .ok (.ifCond .lt 47, 3) := by decide +kernel
theorem d_M_literal_4 : decode (cd m_M_literal) 4 = .ok (.iload_n 1, 1) := by decide +kernel
theorem d_M_literal_5 : decode (cd m_M_literal) 5 = .ok (.aload_n 0, 1) := by decide +kernel
theorem d_M_literal_6 : decode (cd m_M_literal) 6 = .ok (.getfield 38, 3) := by decide +kernel
theorem d_M_literal_9 : decode (cd m_M_literal) 9 = .ok (.aload_n 0, 1) := by decide +kernel
theorem d_M_literal_10 : decode (cd m_M_literal) 10 = .ok (.getfield 308, 3) := by decide +kernel
theorem d_M_literal_13 : decode (cd m_M_literal) 13 = .ok (.iaload, 1) := by decide +kernel
theorem d_M_literal_14 : decode (cd m_M_literal) 14 = .ok (.if_icmp .ge 34, 3) := by decide +kernel
theorem d_M_literal_17 : decode (cd m_M_literal) 17 = .ok (.iload_n 2, 1) := by decide +kernel
theorem d_M_literal_18 : decode (cd m_M_literal) 18 = .ok (.ifCond .lt 30, 3) := by decide +kernel
theorem d_M_literal_21 : decode (cd m_M_literal) 21 = .ok (.iload_n 2, 1) := by decide +kernel
theorem d_M_literal_22 : decode (cd m_M_literal) 22 = .ok (.aload_n 0, 1) := by decide +kernel
theorem d_M_literal_23 : decode (cd m_M_literal) 23 = .ok (.getfield 56, 3) := by decide +kernel
theorem d_M_literal_26 : decode (cd m_M_literal) 26 = .ok (.bipush 30, 2) := by decide +kernel
theorem d_M_literal_28 : decode (cd m_M_literal) 28 = .ok (.aload_n 0, 1) := by decide +kernel
theorem d_M_literal_29 : decode (cd m_M_literal) 29 = .ok (.getfield 308, 3) := by decide +kernel
theorem d_M_literal_32 : decode (cd m_M_literal) 32 = .ok (.imul, 1) := by decide +kernel
theorem d_M_literal_33 : decode (cd m_M_literal) 33 = .ok (.iload_n 1, 1) := by decide +kernel
theorem d_M_literal_34 : decode (cd m_M_literal) 34 = .ok (.iadd, 1) := by decide +kernel
theorem d_M_literal_35 : decode (cd m_M_literal) 35 = .ok (.iaload, 1) := by decide +kernel
theorem d_M_literal_36 : decode (cd m_M_literal) 36 = .ok (.if_icmp .ge 12, 3) := by decide +kernel
theorem d_M_literal_39 : decode (cd m_M_literal) 39 = .ok (.iload_n 3, 1) := by decide +kernel
theorem d_M_literal_40 : decode (cd m_M_literal) 40 = .ok (.ifCond .lt 8, 3) := by decide +kernel
theorem d_M_literal_43 : decode (cd m_M_literal) 43 = .ok (.iload_n 3, 1) := by decide +kernel
theorem d_M_literal_44 : decode (cd m_M_literal) 44 = .ok (.iconst 4, 1) := by decide +kernel
theorem d_M_literal_45 : decode (cd m_M_literal) 45 = .ok (.if_icmp .le 9, 3) := by decide +kernel
theorem d_M_literal_48 : decode (cd m_M_literal) 48 = .ok (.aload_n 0, 1) := by decide +kernel
theorem d_M_literal_49 : decode (cd m_M_literal) 49 = .ok (.iconst 1, 1) := by decide +kernel
theorem d_M_literal_50 : decode (cd m_M_literal) 50 = .ok (.invokevirtual 317, 3) := by decide +kernel
theorem d_M_literal_53 : decode (cd m_M_literal) 53 = .ok (.ireturn, 1) := by decide +kernel
theorem d_M_literal_54 : decode (cd m_M_literal) 54 = .ok (.aload_n 0, 1) := by decide +kernel
theorem d_M_literal_55 : decode (cd m_M_literal) 55 = .ok (.iconst 0, 1) := by decide +kernel
theorem d_M_literal_56 : decode (cd m_M_literal) 56 = .ok (.putfield 126, 3) := by decide +kernel
theorem d_M_literal_59 : decode (cd m_M_literal) 59 = .ok (.aload_n 0, 1) := by decide +kernel
theorem d_M_literal_60 : decode (cd m_M_literal) 60 = .ok (.bipush 30, 2) := by decide +kernel
theorem d_M_literal_62 : decode (cd m_M_literal) 62 = .ok (.aload_n 0, 1) := by decide +kernel
theorem d_M_literal_63 : decode (cd m_M_literal) 63 = .ok (.getfield 308, 3) := by decide +kernel
theorem d_M_literal_66 : decode (cd m_M_literal) 66 = .ok (.imul, 1) := by decide +kernel
theorem d_M_literal_67 : decode (cd m_M_literal) 67 = .ok (.iload_n 1, 1) := by decide +kernel
theorem d_M_literal_68 : decode (cd m_M_literal) 68 = .ok (.iadd, 1) := by decide +kernel
theorem d_M_literal_69 : decode (cd m_M_literal) 69 = .ok (.invokevirtual 341, 3) := by decide +kernel
theorem d_M_literal_72 : decode (cd m_M_literal) 72 = .ok (.bipush 6, 2) := by decide +kernel
theorem d_M_literal_74 : decode (cd m_M_literal) 74 = .ok (.bipush 30, 2) := by decide +kernel
theorem d_M_literal_76 : decode (cd m_M_literal) 76 = .ok (.aload_n 0, 1) := by decide +kernel
theorem d_M_literal_77 : decode (cd m_M_literal) 77 = .ok (.getfield 308, 3) := by decide +kernel
theorem d_M_literal_80 : decode (cd m_M_literal) 80 = .ok (.imul, 1) := by decide +kernel
theorem d_M_literal_81 : decode (cd m_M_literal) 81 = .ok (.iload_n 1, 1) := by decide +kernel
theorem d_M_literal_82 : decode (cd m_M_literal) 82 = .ok (.iadd, 1) := by decide +kernel
theorem d_M_literal_83 : decode (cd m_M_literal) 83 = .ok (.imul, 1) := by decide +kernel
theorem d_M_literal_84 : decode (cd m_M_literal) 84 = .ok (.aload_n 0, 1) := by decide +kernel
theorem d_M_literal_85 : decode (cd m_M_literal) 85 = .ok (.getfield 111, 3) := by decide +kernel
theorem d_M_literal_88 : decode (cd m_M_literal) 88 = .ok (.iload_n 2, 1) := by decide +kernel
theorem d_M_literal_89 : decode (cd m_M_literal) 89 = .ok (.iaload, 1) := by decide +kernel
theorem d_M_literal_90 : decode (cd m_M_literal) 90 = .ok (.iadd, 1) := by decide +kernel
theorem d_M_literal_91 : decode (cd m_M_literal) 91 = .ok (.istore 4, 2) := by decide +kernel
theorem d_M_literal_93 : decode (cd m_M_literal) 93 = .ok (.iload_n 3, 1) := by decide +kernel
theorem d_M_literal_94 : decode (cd m_M_literal) 94 = .ok (.tableswitch 73 0 3 #[30, 37, 45, 66], 30) := by decide +kernel
theorem d_M_literal_124 : decode (cd m_M_literal) 124 = .ok (.aload_n 0, 1) := by decide +kernel
theorem d_M_literal_125 : decode (cd m_M_literal) 125 = .ok (.getfield 111, 3) := by decide +kernel
theorem d_M_literal_128 : decode (cd m_M_literal) 128 = .ok (.iload_n 2, 1) := by decide +kernel
theorem d_M_literal_129 : decode (cd m_M_literal) 129 = .ok (.iaload, 1) := by decide +kernel
theorem d_M_literal_130 : decode (cd m_M_literal) 130 = .ok (.ireturn, 1) := by decide +kernel
theorem d_M_literal_131 : decode (cd m_M_literal) 131 = .ok (.aload_n 0, 1) := by decide +kernel
theorem d_M_literal_132 : decode (cd m_M_literal) 132 = .ok (.getfield 62, 3) := by decide +kernel
theorem d_M_literal_135 : decode (cd m_M_literal) 135 = .ok (.iload 4, 2) := by decide +kernel
theorem d_M_literal_137 : decode (cd m_M_literal) 137 = .ok (.iaload, 1) := by decide +kernel
theorem d_M_literal_138 : decode (cd m_M_literal) 138 = .ok (.ireturn, 1) := by decide +kernel
theorem d_M_literal_139 : decode (cd m_M_literal) 139 = .ok (.aload_n 0, 1) := by decide +kernel
theorem d_M_literal_140 : decode (cd m_M_literal) 140 = .ok (.iload 4, 2) := by decide +kernel
theorem d_M_literal_142 : decode (cd m_M_literal) 142 = .ok (.invokevirtual 296, 3) := by decide +kernel
theorem d_M_literal_145 : decode (cd m_M_literal) 145 = .ok (.ifCond .eq 13, 3) := by decide +kernel
theorem d_M_literal_148 : decode (cd m_M_literal) 148 = .ok (.aload_n 0, 1) := by decide +kernel
theorem d_M_literal_149 : decode (cd m_M_literal) 149 = .ok (.getfield 65, 3) := by decide +kernel
theorem d_M_literal_152 : decode (cd m_M_literal) 152 = .ok (.iload 4, 2) := by decide +kernel
theorem d_M_literal_154 : decode (cd m_M_literal) 154 = .ok (.iaload, 1) := by decide +kernel
theorem d_M_literal_155 : decode (cd m_M_literal) 155 = .ok (.goto 4, 3) := by decide +kernel
theorem d_M_literal_158 : decode (cd m_M_literal) 158 = .ok (.iconst (-1), 1) := by decide +kernel
theorem d_M_literal_159 : decode (cd m_M_literal) 159 = .ok (.ireturn, 1) := by decide +kernel
theorem d_M_literal_160 : decode (cd m_M_literal) 160 = .ok (.aload_n 0, 1) := by decide +kernel
theorem d_M_literal_161 : decode (cd m_M_literal) 161 = .ok (.getfield 114, 3) := by decide +kernel
theorem d_M_literal_164 : decode (cd m_M_literal) 164 = .ok (.iload_n 2, 1) := by decide +kernel
theorem d_M_literal_165 : decode (cd m_M_literal) 165 = .ok (.iaload, 1) := by decide +kernel
theorem d_M_literal_166 : decode (cd m_M_literal) 166 = .ok (.ireturn, 1) := by decide +kernel
theorem d_M_literal_167 : decode (cd m_M_literal) 167 = .ok (.aload_n 0, 1) := by decide +kernel
theorem d_M_literal_168 : decode (cd m_M_literal) 168 = .ok (.getfield 117, 3) := by decide +kernel
theorem d_M_literal_171 : decode (cd m_M_literal) 171 = .ok (.iload_n 2, 1) := by decide +kernel
theorem d_M_literal_172 : decode (cd m_M_literal) 172 = .ok (.iaload, 1) := by decide +kernel
theorem d_M_literal_173 : decode (cd m_M_literal) 173 = .ok (.ireturn, 1) := by decide +kernel

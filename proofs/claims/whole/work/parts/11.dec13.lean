/-! decode rows (by program) -/
theorem d_M_readClause_56 : decode (cd m_M_readClause) 56 = .ok (.ifCond .ne 5, 3) := by decide +kernel
theorem d_M_readClause_59 : decode (cd m_M_readClause) 59 = .ok (.iconst 0, 1) := by decide +kernel
theorem d_M_readClause_60 : decode (cd m_M_readClause) 60 = .ok (.ireturn, 1) := by decide +kernel
theorem d_M_readClause_61 : decode (cd m_M_readClause) 61 = .ok (.aload_n 0, 1) := by decide +kernel
theorem d_M_readClause_62 : decode (cd m_M_readClause) 62 = .ok (.invokevirtual 281, 3) := by decide +kernel
theorem d_M_readClause_65 : decode (cd m_M_readClause) 65 = .ok (.aload_n 0, 1) := by decide +kernel
theorem d_M_readClause_66 : decode (cd m_M_readClause) 66 = .ok (.bipush 46, 2) := by decide +kernel
theorem d_M_readClause_68 : decode (cd m_M_readClause) 68 = .ok (.invokevirtual 189, 3) := by decide +kernel
theorem d_M_readClause_71 : decode (cd m_M_readClause) 71 = .ok (.ifCond .eq 34, 3) := by decide +kernel
theorem d_M_readClause_74 : decode (cd m_M_readClause) 74 = .ok (.aload_n 0, 1) := by decide +kernel
theorem d_M_readClause_75 : decode (cd m_M_readClause) 75 = .ok (.getfield 237, 3) := by decide +kernel
theorem d_M_readClause_78 : decode (cd m_M_readClause) 78 = .ok (.iconst (-1), 1) := by decide +kernel
theorem d_M_readClause_79 : decode (cd m_M_readClause) 79 = .ok (.if_icmp .eq 12, 3) := by decide +kernel
theorem d_M_readClause_82 : decode (cd m_M_readClause) 82 = .ok (.aload_n 0, 1) := by decide +kernel
theorem d_M_readClause_83 : decode (cd m_M_readClause) 83 = .ok (.aload_n 0, 1) := by decide +kernel
theorem d_M_readClause_84 : decode (cd m_M_readClause) 84 = .ok (.getfield 237, 3) := by decide +kernel
theorem d_M_readClause_87 : decode (cd m_M_readClause) 87 = .ok (.invokevirtual 183, 3) := by decide +kernel
theorem d_M_readClause_90 : decode (cd m_M_readClause) 90 = .ok (.ireturn, 1) := by decide +kernel
theorem d_M_readClause_91 : decode (cd m_M_readClause) 91 = .ok (.aload_n 0, 1) := by decide +kernel
theorem d_M_readClause_92 : decode (cd m_M_readClause) 92 = .ok (.invokevirtual 284, 3) := by decide +kernel
theorem d_M_readClause_95 : decode (cd m_M_readClause) 95 = .ok (.iconst (-1), 1) := by decide +kernel
theorem d_M_readClause_96 : decode (cd m_M_readClause) 96 = .ok (.if_icmp .ne 7, 3) := by decide +kernel
theorem d_M_readClause_99 : decode (cd m_M_readClause) 99 = .ok (.aload_n 0, 1) := by decide +kernel
theorem d_M_readClause_100 : decode (cd m_M_readClause) 100 = .ok (.invokevirtual 287, 3) := by decide +kernel
theorem d_M_readClause_103 : decode (cd m_M_readClause) 103 = .ok (.iconst 1, 1) := by decide +kernel
theorem d_M_readClause_104 : decode (cd m_M_readClause) 104 = .ok (.ireturn, 1) := by decide +kernel
theorem d_M_readClause_105 : decode (cd m_M_readClause) 105 = .ok (.aload_n 0, 1) := by decide +kernel
theorem d_M_readClause_106 : decode (cd m_M_readClause) 106 = .ok (.sipush 300, 3) := by decide +kernel
theorem d_M_readClause_109 : decode (cd m_M_readClause) 109 = .ok (.invokevirtual 186, 3) := by decide +kernel
theorem d_M_readClause_112 : decode (cd m_M_readClause) 112 = .ok (.ifCond .ne 8, 3) := by decide +kernel
theorem d_M_readClause_115 : decode (cd m_M_readClause) 115 = .ok (.aload_n 0, 1) := by decide +kernel
theorem d_M_readClause_116 : decode (cd m_M_readClause) 116 = .ok (.invokevirtual 192, 3) := by decide +kernel
theorem d_M_readClause_119 : decode (cd m_M_readClause) 119 = .ok (.ireturn, 1) := by decide +kernel
theorem d_M_readClause_120 : decode (cd m_M_readClause) 120 = .ok (.aload_n 0, 1) := by decide +kernel
theorem d_M_readClause_121 : decode (cd m_M_readClause) 121 = .ok (.getfield 38, 3) := by decide +kernel
theorem d_M_readClause_124 : decode (cd m_M_readClause) 124 = .ok (.aload_n 0, 1) := by decide +kernel
theorem d_M_readClause_125 : decode (cd m_M_readClause) 125 = .ok (.getfield 211, 3) := by decide +kernel
theorem d_M_readClause_128 : decode (cd m_M_readClause) 128 = .ok (.iaload, 1) := by decide +kernel
theorem d_M_readClause_129 : decode (cd m_M_readClause) 129 = .ok (.bipush 30, 2) := by decide +kernel
theorem d_M_readClause_131 : decode (cd m_M_readClause) 131 = .ok (.if_icmp .ne 9, 3) := by decide +kernel
theorem d_M_readClause_134 : decode (cd m_M_readClause) 134 = .ok (.aload_n 0, 1) := by decide +kernel
theorem d_M_readClause_135 : decode (cd m_M_readClause) 135 = .ok (.iload_n 1, 1) := by decide +kernel
theorem d_M_readClause_136 : decode (cd m_M_readClause) 136 = .ok (.invokevirtual 183, 3) := by decide +kernel
theorem d_M_readClause_139 : decode (cd m_M_readClause) 139 = .ok (.ireturn, 1) := by decide +kernel
theorem d_M_readClause_140 : decode (cd m_M_readClause) 140 = .ok (.aload_n 0, 1) := by decide +kernel
theorem d_M_readClause_141 : decode (cd m_M_readClause) 141 = .ok (.dup, 1) := by decide +kernel
theorem d_M_readClause_142 : decode (cd m_M_readClause) 142 = .ok (.getfield 180, 3) := by decide +kernel
theorem d_M_readClause_145 : decode (cd m_M_readClause) 145 = .ok (.iconst 1, 1) := by decide +kernel
theorem d_M_readClause_146 : decode (cd m_M_readClause) 146 = .ok (.iadd, 1) := by decide +kernel
theorem d_M_readClause_147 : decode (cd m_M_readClause) 147 = .ok (.putfield 180, 3) := by decide +kernel
theorem d_M_readClause_150 : decode (cd m_M_readClause) 150 = .ok (.aload_n 0, 1) := by decide +kernel
theorem d_M_readClause_151 : decode (cd m_M_readClause) 151 = .ok (.invokevirtual 290, 3) := by decide +kernel
theorem d_M_readClause_154 : decode (cd m_M_readClause) 154 = .ok (.ifCond .eq 12, 3) := by decide +kernel
theorem d_M_readClause_157 : decode (cd m_M_readClause) 157 = .ok (.aload_n 0, 1) := by decide +kernel
theorem d_M_readClause_158 : decode (cd m_M_readClause) 158 = .ok (.bipush 46, 2) := by decide +kernel
theorem d_M_readClause_160 : decode (cd m_M_readClause) 160 = .ok (.invokevirtual 225, 3) := by decide +kernel
theorem d_M_readClause_163 : decode (cd m_M_readClause) 163 = .ok (.ifCond .ne 5, 3) := by decide +kernel
theorem d_M_readClause_166 : decode (cd m_M_readClause) 166 = .ok (.iconst 0, 1) := by decide +kernel
theorem d_M_readClause_167 : decode (cd m_M_readClause) 167 = .ok (.ireturn, 1) := by decide +kernel
theorem d_M_readClause_168 : decode (cd m_M_readClause) 168 = .ok (.aload_n 0, 1) := by decide +kernel
theorem d_M_readClause_169 : decode (cd m_M_readClause) 169 = .ok (.invokevirtual 293, 3) := by decide +kernel
theorem d_M_readClause_172 : decode (cd m_M_readClause) 172 = .ok (.aload_n 0, 1) := by decide +kernel
theorem d_M_readClause_173 : decode (cd m_M_readClause) 173 = .ok (.getfield 38, 3) := by decide +kernel
theorem d_M_readClause_176 : decode (cd m_M_readClause) 176 = .ok (.aload_n 0, 1) := by decide +kernel
theorem d_M_readClause_177 : decode (cd m_M_readClause) 177 = .ok (.getfield 211, 3) := by decide +kernel
theorem d_M_readClause_180 : decode (cd m_M_readClause) 180 = .ok (.dup2, 1) := by decide +kernel
theorem d_M_readClause_181 : decode (cd m_M_readClause) 181 = .ok (.iaload, 1) := by decide +kernel
theorem d_M_readClause_182 : decode (cd m_M_readClause) 182 = .ok (.iconst 1, 1) := by decide +kernel
theorem d_M_readClause_183 : decode (cd m_M_readClause) 183 = .ok (.iadd, 1) := by decide +kernel
theorem d_M_readClause_184 : decode (cd m_M_readClause) 184 = .ok (.iastore, 1) := by decide +kernel
theorem d_M_readClause_185 : decode (cd m_M_readClause) 185 = .ok (.iconst 1, 1) := by decide +kernel
theorem d_M_readClause_186 : decode (cd m_M_readClause) 186 = .ok (.ireturn, 1) := by decide +kernel
theorem d_M_isAtom_0 : decode (cd m_M_isAtom) 0 = .ok (.aload_n 0, 1) := by decide +kernel
theorem d_M_isAtom_1 : decode (cd m_M_isAtom) 1 = .ok (.getfield 62, 3) := by decide +kernel
theorem d_M_isAtom_4 : decode (cd m_M_isAtom) 4 = .ok (.iload_n 1, 1) := by decide +kernel
theorem d_M_isAtom_5 : decode (cd m_M_isAtom) 5 = .ok (.iaload, 1) := by decide +kernel
theorem d_M_isAtom_6 : decode (cd m_M_isAtom) 6 = .ok (.ifCond .eq 13, 3) := by decide +kernel
theorem d_M_isAtom_9 : decode (cd m_M_isAtom) 9 = .ok (.aload_n 0, 1) := by decide +kernel
theorem d_M_isAtom_10 : decode (cd m_M_isAtom) 10 = .ok (.getfield 62, 3) := by decide +kernel
theorem d_M_isAtom_13 : decode (cd m_M_isAtom) 13 = .ok (.iload_n 1, 1) := by decide +kernel
theorem d_M_isAtom_14 : decode (cd m_M_isAtom) 14 = .ok (.iaload, 1) := by decide +kernel
theorem d_M_isAtom_15 : decode (cd m_M_isAtom) 15 = .ok (.iconst 1, 1) := by decide +kernel
theorem d_M_isAtom_16 : decode (cd m_M_isAtom) 16 = .ok (.if_icmp .ne 7, 3) := by decide +kernel
theorem d_M_isAtom_19 : decode (cd m_M_isAtom) 19 = .ok (.iconst 1, 1) := by decide +kernel
theorem d_M_isAtom_20 : decode (cd m_M_isAtom) 20 = .ok (.goto 4, 3) := by decide +kernel
theorem d_M_isAtom_23 : decode (cd m_M_isAtom) 23 = .ok (.iconst 0, 1) := by decide +kernel
theorem d_M_isAtom_24 : decode (cd m_M_isAtom) 24 = .ok (.ireturn, 1) := by decide +kernel
theorem d_M_lookHangs_0 : decode (cd m_M_lookHangs) 0 = .ok (.iconst 0, 1) := by decide +kernel
theorem d_M_lookHangs_1 : decode (cd m_M_lookHangs) 1 = .ok (.istore_n 1, 1) := by decide +kernel
theorem d_M_lookHangs_2 : decode (cd m_M_lookHangs) 2 = .ok (.iload_n 1, 1) := by decide +kernel
theorem d_M_lookHangs_3 : decode (cd m_M_lookHangs) 3 = .ok (.sipush 256, 3) := by decide +kernel
theorem d_M_lookHangs_6 : decode (cd m_M_lookHangs) 6 = .ok (.if_icmp .ge 16, 3) := by decide +kernel
theorem d_M_lookHangs_9 : decode (cd m_M_lookHangs) 9 = .ok (.aload_n 0, 1) := by decide +kernel
theorem d_M_lookHangs_10 : decode (cd m_M_lookHangs) 10 = .ok (.getfield 108, 3) := by decide +kernel
theorem d_M_lookHangs_13 : decode (cd m_M_lookHangs) 13 = .ok (.iload_n 1, 1) := by decide +kernel
theorem d_M_lookHangs_14 : decode (cd m_M_lookHangs) 14 = .ok (.iconst 0, 1) := by decide +kernel
theorem d_M_lookHangs_15 : decode (cd m_M_lookHangs) 15 = .ok (.bastore, 1) := by decide +kernel
theorem d_M_lookHangs_16 : decode (cd m_M_lookHangs) 16 = .ok (.iinc 1 1, 3) := by decide +kernel
theorem d_M_lookHangs_19 : decode (cd m_M_lookHangs) 19 = .ok (.goto (-17), 3) := by decide +kernel
theorem d_M_lookHangs_22 : decode (cd m_M_lookHangs) 22 = .ok (.bipush 30, 2) := by decide +kernel
theorem d_M_lookHangs_24 : decode (cd m_M_lookHangs) 24 = .ok (.aload_n 0, 1) := by decide +kernel
theorem d_M_lookHangs_25 : decode (cd m_M_lookHangs) 25 = .ok (.getfield 211, 3) := by decide +kernel
theorem d_M_lookHangs_28 : decode (cd m_M_lookHangs) 28 = .ok (.imul, 1) := by decide +kernel
theorem d_M_lookHangs_29 : decode (cd m_M_lookHangs) 29 = .ok (.istore_n 1, 1) := by decide +kernel
theorem d_M_lookHangs_30 : decode (cd m_M_lookHangs) 30 = .ok (.iload_n 1, 1) := by decide +kernel
theorem d_M_lookHangs_31 : decode (cd m_M_lookHangs) 31 = .ok (.bipush 30, 2) := by decide +kernel
theorem d_M_lookHangs_33 : decode (cd m_M_lookHangs) 33 = .ok (.aload_n 0, 1) := by decide +kernel
theorem d_M_lookHangs_34 : decode (cd m_M_lookHangs) 34 = .ok (.getfield 211, 3) := by decide +kernel
theorem d_M_lookHangs_37 : decode (cd m_M_lookHangs) 37 = .ok (.imul, 1) := by decide +kernel
theorem d_M_lookHangs_38 : decode (cd m_M_lookHangs) 38 = .ok (.aload_n 0, 1) := by decide +kernel
theorem d_M_lookHangs_39 : decode (cd m_M_lookHangs) 39 = .ok (.getfield 38, 3) := by decide +kernel
theorem d_M_lookHangs_42 : decode (cd m_M_lookHangs) 42 = .ok (.aload_n 0, 1) := by decide +kernel
theorem d_M_lookHangs_43 : decode (cd m_M_lookHangs) 43 = .ok (.getfield 211, 3) := by decide +kernel
theorem d_M_lookHangs_46 : decode (cd m_M_lookHangs) 46 = .ok (.iaload, 1) := by decide +kernel
theorem d_M_lookHangs_47 : decode (cd m_M_lookHangs) 47 = .ok (.iadd, 1) := by decide +kernel
theorem d_M_lookHangs_48 : decode (cd m_M_lookHangs) 48 = .ok (.if_icmp .ge 65, 3) := by decide +kernel
theorem d_M_lookHangs_51 : decode (cd m_M_lookHangs) 51 = .ok (.bipush 6, 2) := by decide +kernel
theorem d_M_lookHangs_53 : decode (cd m_M_lookHangs) 53 = .ok (.iload_n 1, 1) := by decide +kernel
theorem d_M_lookHangs_54 : decode (cd m_M_lookHangs) 54 = .ok (.imul, 1) := by decide +kernel
theorem d_M_lookHangs_55 : decode (cd m_M_lookHangs) 55 = .ok (.istore_n 2, 1) := by decide +kernel
theorem d_M_lookHangs_56 : decode (cd m_M_lookHangs) 56 = .ok (.iload_n 2, 1) := by decide +kernel
theorem d_M_lookHangs_57 : decode (cd m_M_lookHangs) 57 = .ok (.bipush 6, 2) := by decide +kernel
theorem d_M_lookHangs_59 : decode (cd m_M_lookHangs) 59 = .ok (.iload_n 1, 1) := by decide +kernel
theorem d_M_lookHangs_60 : decode (cd m_M_lookHangs) 60 = .ok (.imul, 1) := by decide +kernel
theorem d_M_lookHangs_61 : decode (cd m_M_lookHangs) 61 = .ok (.aload_n 0, 1) := by decide +kernel
theorem d_M_lookHangs_62 : decode (cd m_M_lookHangs) 62 = .ok (.getfield 56, 3) := by decide +kernel
theorem d_M_lookHangs_65 : decode (cd m_M_lookHangs) 65 = .ok (.iload_n 1, 1) := by decide +kernel
theorem d_M_lookHangs_66 : decode (cd m_M_lookHangs) 66 = .ok (.iaload, 1) := by decide +kernel
theorem d_M_lookHangs_67 : decode (cd m_M_lookHangs) 67 = .ok (.iadd, 1) := by decide +kernel
theorem d_M_lookHangs_68 : decode (cd m_M_lookHangs) 68 = .ok (.if_icmp .ge 39, 3) := by decide +kernel
theorem d_M_lookHangs_71 : decode (cd m_M_lookHangs) 71 = .ok (.aload_n 0, 1) := by decide +kernel
theorem d_M_lookHangs_72 : decode (cd m_M_lookHangs) 72 = .ok (.iload_n 2, 1) := by decide +kernel
theorem d_M_lookHangs_73 : decode (cd m_M_lookHangs) 73 = .ok (.invokevirtual 296, 3) := by decide +kernel
theorem d_M_lookHangs_76 : decode (cd m_M_lookHangs) 76 = .ok (.ifCond .eq 25, 3) := by decide +kernel
theorem d_M_lookHangs_79 : decode (cd m_M_lookHangs) 79 = .ok (.aload_n 0, 1) := by decide +kernel
theorem d_M_lookHangs_80 : decode (cd m_M_lookHangs) 80 = .ok (.getfield 108, 3) := by decide +kernel
theorem d_M_lookHangs_83 : decode (cd m_M_lookHangs) 83 = .ok (.bipush 16, 2) := by decide +kernel
theorem d_M_lookHangs_85 : decode (cd m_M_lookHangs) 85 = .ok (.aload_n 0, 1) := by decide +kernel
theorem d_M_lookHangs_86 : decode (cd m_M_lookHangs) 86 = .ok (.getfield 41, 3) := by decide +kernel
theorem d_M_lookHangs_89 : decode (cd m_M_lookHangs) 89 = .ok (.iload_n 1, 1) := by decide +kernel
theorem d_M_lookHangs_90 : decode (cd m_M_lookHangs) 90 = .ok (.iaload, 1) := by decide +kernel
theorem d_M_lookHangs_91 : decode (cd m_M_lookHangs) 91 = .ok (.imul, 1) := by decide +kernel
theorem d_M_lookHangs_92 : decode (cd m_M_lookHangs) 92 = .ok (.aload_n 0, 1) := by decide +kernel
theorem d_M_lookHangs_93 : decode (cd m_M_lookHangs) 93 = .ok (.getfield 65, 3) := by decide +kernel
theorem d_M_lookHangs_96 : decode (cd m_M_lookHangs) 96 = .ok (.iload_n 2, 1) := by decide +kernel
theorem d_M_lookHangs_97 : decode (cd m_M_lookHangs) 97 = .ok (.iaload, 1) := by decide +kernel
theorem d_M_lookHangs_98 : decode (cd m_M_lookHangs) 98 = .ok (.iadd, 1) := by decide +kernel
theorem d_M_lookHangs_99 : decode (cd m_M_lookHangs) 99 = .ok (.iconst 1, 1) := by decide +kernel
theorem d_M_lookHangs_100 : decode (cd m_M_lookHangs) 100 = .ok (.bastore, 1) := by decide +kernel
theorem d_M_lookHangs_101 : decode (cd m_M_lookHangs) 101 = .ok (.iinc 2 1, 3) := by decide +kernel
theorem d_M_lookHangs_104 : decode (cd m_M_lookHangs) 104 = .ok (.goto (-48), 3) := by decide +kernel
theorem d_M_lookHangs_107 : decode (cd m_M_lookHangs) 107 = .ok (.iinc 1 1, 3) := by decide +kernel
theorem d_M_lookHangs_110 : decode (cd m_M_lookHangs) 110 = .ok (.goto (-80), 3) := by decide +kernel
theorem d_M_lookHangs_113 : decode (cd m_M_lookHangs) 113 = .ok (.iconst 0, 1) := by decide +kernel
theorem d_M_lookHangs_114 : decode (cd m_M_lookHangs) 114 = .ok (.istore_n 1, 1) := by decide +kernel
theorem d_M_lookHangs_115 : decode (cd m_M_lookHangs) 115 = .ok (.iload_n 1, 1) := by decide +kernel
theorem d_M_lookHangs_116 : decode (cd m_M_lookHangs) 116 = .ok (.bipush 16, 2) := by decide +kernel
theorem d_M_lookHangs_118 : decode (cd m_M_lookHangs) 118 = .ok (.if_icmp .ge 84, 3) := by decide +kernel
theorem d_M_lookHangs_121 : decode (cd m_M_lookHangs) 121 = .ok (.iconst 0, 1) := by decide +kernel
theorem d_M_lookHangs_122 : decode (cd m_M_lookHangs) 122 = .ok (.istore_n 2, 1) := by decide +kernel
theorem d_M_lookHangs_123 : decode (cd m_M_lookHangs) 123 = .ok (.iload_n 2, 1) := by decide +kernel
theorem d_M_lookHangs_124 : decode (cd m_M_lookHangs) 124 = .ok (.bipush 16, 2) := by decide +kernel
theorem d_M_lookHangs_126 : decode (cd m_M_lookHangs) 126 = .ok (.if_icmp .ge 70, 3) := by decide +kernel
theorem d_M_lookHangs_129 : decode (cd m_M_lookHangs) 129 = .ok (.iconst 0, 1) := by decide +kernel
theorem d_M_lookHangs_130 : decode (cd m_M_lookHangs) 130 = .ok (.istore_n 3, 1) := by decide +kernel
theorem d_M_lookHangs_131 : decode (cd m_M_lookHangs) 131 = .ok (.iload_n 3, 1) := by decide +kernel
theorem d_M_lookHangs_132 : decode (cd m_M_lookHangs) 132 = .ok (.bipush 16, 2) := by decide +kernel
theorem d_M_lookHangs_134 : decode (cd m_M_lookHangs) 134 = .ok (.if_icmp .ge 56, 3) := by decide +kernel
theorem d_M_lookHangs_137 : decode (cd m_M_lookHangs) 137 = .ok (.aload_n 0, 1) := by decide +kernel
theorem d_M_lookHangs_138 : decode (cd m_M_lookHangs) 138 = .ok (.getfield 108, 3) := by decide +kernel
theorem d_M_lookHangs_141 : decode (cd m_M_lookHangs) 141 = .ok (.bipush 16, 2) := by decide +kernel
theorem d_M_lookHangs_143 : decode (cd m_M_lookHangs) 143 = .ok (.iload_n 2, 1) := by decide +kernel
theorem d_M_lookHangs_144 : decode (cd m_M_lookHangs) 144 = .ok (.imul, 1) := by decide +kernel
theorem d_M_lookHangs_145 : decode (cd m_M_lookHangs) 145 = .ok (.iload_n 3, 1) := by decide +kernel
theorem d_M_lookHangs_146 : decode (cd m_M_lookHangs) 146 = .ok (.iadd, 1) := by decide +kernel
theorem d_M_lookHangs_147 : decode (cd m_M_lookHangs) 147 = .ok (.dup2, 1) := by decide +kernel
theorem d_M_lookHangs_148 : decode (cd m_M_lookHangs) 148 = .ok (.baload, 1) := by decide +kernel
theorem d_M_lookHangs_149 : decode (cd m_M_lookHangs) 149 = .ok (.aload_n 0, 1) := by decide +kernel
theorem d_M_lookHangs_150 : decode (cd m_M_lookHangs) 150 = .ok (.getfield 108, 3) := by decide +kernel
theorem d_M_lookHangs_153 : decode (cd m_M_lookHangs) 153 = .ok (.bipush 16, 2) := by decide +kernel
theorem d_M_lookHangs_155 : decode (cd m_M_lookHangs) 155 = .ok (.iload_n 2, 1) := by decide +kernel
theorem d_M_lookHangs_156 : decode (cd m_M_lookHangs) 156 = .ok (.imul, 1) := by decide +kernel
theorem d_M_lookHangs_157 : decode (cd m_M_lookHangs) 157 = .ok (.iload_n 1, 1) := by decide +kernel
theorem d_M_lookHangs_158 : decode (cd m_M_lookHangs) 158 = .ok (.iadd, 1) := by decide +kernel
theorem d_M_lookHangs_159 : decode (cd m_M_lookHangs) 159 = .ok (.baload, 1) := by decide +kernel
theorem d_M_lookHangs_160 : decode (cd m_M_lookHangs) 160 = .ok (.ifCond .eq 21, 3) := by decide +kernel
theorem d_M_lookHangs_163 : decode (cd m_M_lookHangs) 163 = .ok (.aload_n 0, 1) := by decide +kernel
theorem d_M_lookHangs_164 : decode (cd m_M_lookHangs) 164 = .ok (.getfield 108, 3) := by decide +kernel
theorem d_M_lookHangs_167 : decode (cd m_M_lookHangs) 167 = .ok (.bipush 16, 2) := by decide +kernel
theorem d_M_lookHangs_169 : decode (cd m_M_lookHangs) 169 = .ok (.iload_n 1, 1) := by decide +kernel
theorem d_M_lookHangs_170 : decode (cd m_M_lookHangs) 170 = .ok (.imul, 1) := by decide +kernel
theorem d_M_lookHangs_171 : decode (cd m_M_lookHangs) 171 = .ok (.iload_n 3, 1) := by decide +kernel
theorem d_M_lookHangs_172 : decode (cd m_M_lookHangs) 172 = .ok (.iadd, 1) := by decide +kernel
theorem d_M_lookHangs_173 : decode (cd m_M_lookHangs) 173 = .ok (.baload, 1) := by decide +kernel
theorem d_M_lookHangs_174 : decode (cd m_M_lookHangs) 174 = .ok (.ifCond .eq 7, 3) := by decide +kernel
theorem d_M_lookHangs_177 : decode (cd m_M_lookHangs) 177 = .ok (.iconst 1, 1) := by decide +kernel
theorem d_M_lookHangs_178 : decode (cd m_M_lookHangs) 178 = .ok (.goto 4, 3) := by decide +kernel
theorem d_M_lookHangs_181 : decode (cd m_M_lookHangs) 181 = .ok (.iconst 0, 1) := by decide +kernel
theorem d_M_lookHangs_182 : decode (cd m_M_lookHangs) 182 = .ok (.ior, 1) := by decide +kernel
theorem d_M_lookHangs_183 : decode (cd m_M_lookHangs) 183 = .ok (.bastore, 1) := by decide +kernel
theorem d_M_lookHangs_184 : decode (cd m_M_lookHangs) 184 = .ok (.iinc 3 1, 3) := by decide +kernel
theorem d_M_lookHangs_187 : decode (cd m_M_lookHangs) 187 = .ok (.goto (-56), 3) := by decide +kernel
theorem d_M_lookHangs_190 : decode (cd m_M_lookHangs) 190 = .ok (.iinc 2 1, 3) := by decide +kernel
theorem d_M_lookHangs_193 : decode (cd m_M_lookHangs) 193 = .ok (.goto (-70), 3) := by decide +kernel
theorem d_M_lookHangs_196 : decode (cd m_M_lookHangs) 196 = .ok (.iinc 1 1, 3) := by decide +kernel
theorem d_M_lookHangs_199 : decode (cd m_M_lookHangs) 199 = .ok (.goto (-84), 3) := by decide +kernel
theorem d_M_lookHangs_202 : decode (cd m_M_lookHangs) 202 = .ok (.return_, 1) := by decide +kernel
theorem d_M_isBack_0 : decode (cd m_M_isBack) 0 = .ok (.iload_n 1, 1) := by decide +kernel
theorem d_M_isBack_1 : decode (cd m_M_isBack) 1 = .ok (.iload_n 2, 1) := by decide +kernel
theorem d_M_isBack_2 : decode (cd m_M_isBack) 2 = .ok (.if_icmp .eq 17, 3) := by decide +kernel
theorem d_M_isBack_5 : decode (cd m_M_isBack) 5 = .ok (.aload_n 0, 1) := by decide +kernel
theorem d_M_isBack_6 : decode (cd m_M_isBack) 6 = .ok (.getfield 108, 3) := by decide +kernel
theorem d_M_isBack_9 : decode (cd m_M_isBack) 9 = .ok (.bipush 16, 2) := by decide +kernel
theorem d_M_isBack_11 : decode (cd m_M_isBack) 11 = .ok (.iload_n 2, 1) := by decide +kernel
theorem d_M_isBack_12 : decode (cd m_M_isBack) 12 = .ok (.imul, 1) := by decide +kernel
theorem d_M_isBack_13 : decode (cd m_M_isBack) 13 = .ok (.iload_n 1, 1) := by decide +kernel
theorem d_M_isBack_14 : decode (cd m_M_isBack) 14 = .ok (.iadd, 1) := by decide +kernel
theorem d_M_isBack_15 : decode (cd m_M_isBack) 15 = .ok (.baload, 1) := by decide +kernel
theorem d_M_isBack_16 : decode (cd m_M_isBack) 16 = .ok (.ifCond .eq 7, 3) := by decide +kernel
theorem d_M_isBack_19 : decode (cd m_M_isBack) 19 = .ok (.iconst 1, 1) := by decide +kernel
theorem d_M_isBack_20 : decode (cd m_M_isBack) 20 = .ok (.goto 4, 3) := by decide +kernel
theorem d_M_isBack_23 : decode (cd m_M_isBack) 23 = .ok (.iconst 0, 1) := by decide +kernel
theorem d_M_isBack_24 : decode (cd m_M_isBack) 24 = .ok (.ireturn, 1) := by decide +kernel
theorem d_M_lookAbsence_0 : decode (cd m_M_lookAbsence) 0 = .ok (.aload_n 0, 1) := by decide +kernel
theorem d_M_lookAbsence_1 : decode (cd m_M_lookAbsence) 1 = .ok (.invokevirtual 299, 3) := by decide +kernel
theorem d_M_lookAbsence_4 : decode (cd m_M_lookAbsence) 4 = .ok (.bipush 30, 2) := by decide +kernel
theorem d_M_lookAbsence_6 : decode (cd m_M_lookAbsence) 6 = .ok (.aload_n 0, 1) := by decide +kernel
theorem d_M_lookAbsence_7 : decode (cd m_M_lookAbsence) 7 = .ok (.getfield 211, 3) := by decide +kernel
theorem d_M_lookAbsence_10 : decode (cd m_M_lookAbsence) 10 = .ok (.imul, 1) := by decide +kernel
theorem d_M_lookAbsence_11 : decode (cd m_M_lookAbsence) 11 = .ok (.istore_n 1, 1) := by decide +kernel
theorem d_M_lookAbsence_12 : decode (cd m_M_lookAbsence) 12 = .ok (.iload_n 1, 1) := by decide +kernel
theorem d_M_lookAbsence_13 : decode (cd m_M_lookAbsence) 13 = .ok (.bipush 30, 2) := by decide +kernel
theorem d_M_lookAbsence_15 : decode (cd m_M_lookAbsence) 15 = .ok (.aload_n 0, 1) := by decide +kernel
theorem d_M_lookAbsence_16 : decode (cd m_M_lookAbsence) 16 = .ok (.getfield 211, 3) := by decide +kernel
theorem d_M_lookAbsence_19 : decode (cd m_M_lookAbsence) 19 = .ok (.imul, 1) := by decide +kernel
theorem d_M_lookAbsence_20 : decode (cd m_M_lookAbsence) 20 = .ok (.aload_n 0, 1) := by decide +kernel
theorem d_M_lookAbsence_21 : decode (cd m_M_lookAbsence) 21 = .ok (.getfield 38, 3) := by decide +kernel
theorem d_M_lookAbsence_24 : decode (cd m_M_lookAbsence) 24 = .ok (.aload_n 0, 1) := by decide +kernel
theorem d_M_lookAbsence_25 : decode (cd m_M_lookAbsence) 25 = .ok (.getfield 211, 3) := by decide +kernel
theorem d_M_lookAbsence_28 : decode (cd m_M_lookAbsence) 28 = .ok (.iaload, 1) := by decide +kernel
theorem d_M_lookAbsence_29 : decode (cd m_M_lookAbsence) 29 = .ok (.iadd, 1) := by decide +kernel
theorem d_M_lookAbsence_30 : decode (cd m_M_lookAbsence) 30 = .ok (.if_icmp .ge 155, 3) := by decide +kernel
theorem d_M_lookAbsence_33 : decode (cd m_M_lookAbsence) 33 = .ok (.aload_n 0, 1) := by decide +kernel
theorem d_M_lookAbsence_34 : decode (cd m_M_lookAbsence) 34 = .ok (.getfield 174, 3) := by decide +kernel
theorem d_M_lookAbsence_37 : decode (cd m_M_lookAbsence) 37 = .ok (.ifCond .ne 148, 3) := by decide +kernel
theorem d_M_lookAbsence_40 : decode (cd m_M_lookAbsence) 40 = .ok (.bipush 6, 2) := by decide +kernel
theorem d_M_lookAbsence_42 : decode (cd m_M_lookAbsence) 42 = .ok (.iload_n 1, 1) := by decide +kernel
theorem d_M_lookAbsence_43 : decode (cd m_M_lookAbsence) 43 = .ok (.imul, 1) := by decide +kernel
theorem d_M_lookAbsence_44 : decode (cd m_M_lookAbsence) 44 = .ok (.istore_n 2, 1) := by decide +kernel
theorem d_M_lookAbsence_45 : decode (cd m_M_lookAbsence) 45 = .ok (.iload_n 2, 1) := by decide +kernel
theorem d_M_lookAbsence_46 : decode (cd m_M_lookAbsence) 46 = .ok (.bipush 6, 2) := by decide +kernel
theorem d_M_lookAbsence_48 : decode (cd m_M_lookAbsence) 48 = .ok (.iload_n 1, 1) := by decide +kernel
theorem d_M_lookAbsence_49 : decode (cd m_M_lookAbsence) 49 = .ok (.imul, 1) := by decide +kernel
theorem d_M_lookAbsence_50 : decode (cd m_M_lookAbsence) 50 = .ok (.aload_n 0, 1) := by decide +kernel
theorem d_M_lookAbsence_51 : decode (cd m_M_lookAbsence) 51 = .ok (.getfield 56, 3) := by decide +kernel
theorem d_M_lookAbsence_54 : decode (cd m_M_lookAbsence) 54 = .ok (.iload_n 1, 1) := by decide +kernel
theorem d_M_lookAbsence_55 : decode (cd m_M_lookAbsence) 55 = .ok (.iaload, 1) := by decide +kernel
theorem d_M_lookAbsence_56 : decode (cd m_M_lookAbsence) 56 = .ok (.iadd, 1) := by decide +kernel
theorem d_M_lookAbsence_57 : decode (cd m_M_lookAbsence) 57 = .ok (.if_icmp .ge 56, 3) := by decide +kernel
theorem d_M_lookAbsence_60 : decode (cd m_M_lookAbsence) 60 = .ok (.aload_n 0, 1) := by decide +kernel
theorem d_M_lookAbsence_61 : decode (cd m_M_lookAbsence) 61 = .ok (.getfield 50, 3) := by decide +kernel
theorem d_M_lookAbsence_64 : decode (cd m_M_lookAbsence) 64 = .ok (.iload_n 1, 1) := by decide +kernel
theorem d_M_lookAbsence_65 : decode (cd m_M_lookAbsence) 65 = .ok (.iaload, 1) := by decide +kernel
theorem d_M_lookAbsence_66 : decode (cd m_M_lookAbsence) 66 = .ok (.ifCond .le 41, 3) := by decide +kernel
theorem d_M_lookAbsence_69 : decode (cd m_M_lookAbsence) 69 = .ok (.aload_n 0, 1) := by decide +kernel
theorem d_M_lookAbsence_70 : decode (cd m_M_lookAbsence) 70 = .ok (.iload_n 2, 1) := by decide +kernel
theorem d_M_lookAbsence_71 : decode (cd m_M_lookAbsence) 71 = .ok (.invokevirtual 296, 3) := by decide +kernel
theorem d_M_lookAbsence_74 : decode (cd m_M_lookAbsence) 74 = .ok (.ifCond .eq 33, 3) := by decide +kernel
theorem d_M_lookAbsence_77 : decode (cd m_M_lookAbsence) 77 = .ok (.aload_n 0, 1) := by decide +kernel
theorem d_M_lookAbsence_78 : decode (cd m_M_lookAbsence) 78 = .ok (.aload_n 0, 1) := by decide +kernel
theorem d_M_lookAbsence_79 : decode (cd m_M_lookAbsence) 79 = .ok (.getfield 41, 3) := by decide +kernel
theorem d_M_lookAbsence_82 : decode (cd m_M_lookAbsence) 82 = .ok (.iload_n 1, 1) := by decide +kernel
theorem d_M_lookAbsence_83 : decode (cd m_M_lookAbsence) 83 = .ok (.iaload, 1) := by decide +kernel
theorem d_M_lookAbsence_84 : decode (cd m_M_lookAbsence) 84 = .ok (.aload_n 0, 1) := by decide +kernel
theorem d_M_lookAbsence_85 : decode (cd m_M_lookAbsence) 85 = .ok (.getfield 65, 3) := by decide +kernel
theorem d_M_lookAbsence_88 : decode (cd m_M_lookAbsence) 88 = .ok (.iload_n 2, 1) := by decide +kernel
theorem d_M_lookAbsence_89 : decode (cd m_M_lookAbsence) 89 = .ok (.iaload, 1) := by decide +kernel
theorem d_M_lookAbsence_90 : decode (cd m_M_lookAbsence) 90 = .ok (.invokevirtual 302, 3) := by decide +kernel
theorem d_M_lookAbsence_93 : decode (cd m_M_lookAbsence) 93 = .ok (.ifCond .eq 14, 3) := by decide +kernel
theorem d_M_lookAbsence_96 : decode (cd m_M_lookAbsence) 96 = .ok (.aload_n 0, 1) := by decide +kernel
theorem d_M_lookAbsence_97 : decode (cd m_M_lookAbsence) 97 = .ok (.iconst 4, 1) := by decide +kernel
theorem d_M_lookAbsence_98 : decode (cd m_M_lookAbsence) 98 = .ok (.aload_n 0, 1) := by decide +kernel
theorem d_M_lookAbsence_99 : decode (cd m_M_lookAbsence) 99 = .ok (.getfield 105, 3) := by decide +kernel
theorem d_M_lookAbsence_102 : decode (cd m_M_lookAbsence) 102 = .ok (.iload_n 1, 1) := by decide +kernel
theorem d_M_lookAbsence_103 : decode (cd m_M_lookAbsence) 103 = .ok (.iaload, 1) := by decide +kernel
theorem d_M_lookAbsence_104 : decode (cd m_M_lookAbsence) 104 = .ok (.invokevirtual 214, 3) := by decide +kernel
theorem d_M_lookAbsence_107 : decode (cd m_M_lookAbsence) 107 = .ok (.iinc 2 1, 3) := by decide +kernel
theorem d_M_lookAbsence_110 : decode (cd m_M_lookAbsence) 110 = .ok (.goto (-65), 3) := by decide +kernel
theorem d_M_lookAbsence_113 : decode (cd m_M_lookAbsence) 113 = .ok (.bipush 6, 2) := by decide +kernel
theorem d_M_lookAbsence_115 : decode (cd m_M_lookAbsence) 115 = .ok (.iload_n 1, 1) := by decide +kernel
theorem d_M_lookAbsence_116 : decode (cd m_M_lookAbsence) 116 = .ok (.imul, 1) := by decide +kernel
theorem d_M_lookAbsence_117 : decode (cd m_M_lookAbsence) 117 = .ok (.istore_n 2, 1) := by decide +kernel
theorem d_M_lookAbsence_118 : decode (cd m_M_lookAbsence) 118 = .ok (.iload_n 2, 1) := by decide +kernel
theorem d_M_lookAbsence_119 : decode (cd m_M_lookAbsence) 119 = .ok (.bipush 6, 2) := by decide +kernel
theorem d_M_lookAbsence_121 : decode (cd m_M_lookAbsence) 121 = .ok (.iload_n 1, 1) := by decide +kernel
theorem d_M_lookAbsence_122 : decode (cd m_M_lookAbsence) 122 = .ok (.imul, 1) := by decide +kernel
theorem d_M_lookAbsence_123 : decode (cd m_M_lookAbsence) 123 = .ok (.aload_n 0, 1) := by decide +kernel
theorem d_M_lookAbsence_124 : decode (cd m_M_lookAbsence) 124 = .ok (.getfield 56, 3) := by decide +kernel
theorem d_M_lookAbsence_127 : decode (cd m_M_lookAbsence) 127 = .ok (.iload_n 1, 1) := by decide +kernel
theorem d_M_lookAbsence_128 : decode (cd m_M_lookAbsence) 128 = .ok (.iaload, 1) := by decide +kernel
theorem d_M_lookAbsence_129 : decode (cd m_M_lookAbsence) 129 = .ok (.iadd, 1) := by decide +kernel
theorem d_M_lookAbsence_130 : decode (cd m_M_lookAbsence) 130 = .ok (.if_icmp .ge 49, 3) := by decide +kernel
theorem d_M_lookAbsence_133 : decode (cd m_M_lookAbsence) 133 = .ok (.aload_n 0, 1) := by decide +kernel
theorem d_M_lookAbsence_134 : decode (cd m_M_lookAbsence) 134 = .ok (.getfield 62, 3) := by decide +kernel
theorem d_M_lookAbsence_137 : decode (cd m_M_lookAbsence) 137 = .ok (.iload_n 2, 1) := by decide +kernel
theorem d_M_lookAbsence_138 : decode (cd m_M_lookAbsence) 138 = .ok (.iaload, 1) := by decide +kernel
theorem d_M_lookAbsence_139 : decode (cd m_M_lookAbsence) 139 = .ok (.iconst 1, 1) := by decide +kernel
theorem d_M_lookAbsence_140 : decode (cd m_M_lookAbsence) 140 = .ok (.if_icmp .ne 33, 3) := by decide +kernel
theorem d_M_lookAbsence_143 : decode (cd m_M_lookAbsence) 143 = .ok (.aload_n 0, 1) := by decide +kernel
theorem d_M_lookAbsence_144 : decode (cd m_M_lookAbsence) 144 = .ok (.aload_n 0, 1) := by decide +kernel
theorem d_M_lookAbsence_145 : decode (cd m_M_lookAbsence) 145 = .ok (.getfield 41, 3) := by decide +kernel
theorem d_M_lookAbsence_148 : decode (cd m_M_lookAbsence) 148 = .ok (.iload_n 1, 1) := by decide +kernel
theorem d_M_lookAbsence_149 : decode (cd m_M_lookAbsence) 149 = .ok (.iaload, 1) := by decide +kernel
theorem d_M_lookAbsence_150 : decode (cd m_M_lookAbsence) 150 = .ok (.aload_n 0, 1) := by decide +kernel
theorem d_M_lookAbsence_151 : decode (cd m_M_lookAbsence) 151 = .ok (.getfield 65, 3) := by decide +kernel
theorem d_M_lookAbsence_154 : decode (cd m_M_lookAbsence) 154 = .ok (.iload_n 2, 1) := by decide +kernel
theorem d_M_lookAbsence_155 : decode (cd m_M_lookAbsence) 155 = .ok (.iaload, 1) := by decide +kernel
theorem d_M_lookAbsence_156 : decode (cd m_M_lookAbsence) 156 = .ok (.invokevirtual 302, 3) := by decide +kernel
theorem d_M_lookAbsence_159 : decode (cd m_M_lookAbsence) 159 = .ok (.ifCond .eq 14, 3) := by decide +kernel
theorem d_M_lookAbsence_162 : decode (cd m_M_lookAbsence) 162 = .ok (.aload_n 0, 1) := by decide +kernel
theorem d_M_lookAbsence_163 : decode (cd m_M_lookAbsence) 163 = .ok (.iconst 4, 1) := by decide +kernel
theorem d_M_lookAbsence_164 : decode (cd m_M_lookAbsence) 164 = .ok (.aload_n 0, 1) := by decide +kernel
theorem d_M_lookAbsence_165 : decode (cd m_M_lookAbsence) 165 = .ok (.getfield 99, 3) := by decide +kernel
theorem d_M_lookAbsence_168 : decode (cd m_M_lookAbsence) 168 = .ok (.iload_n 2, 1) := by decide +kernel
theorem d_M_lookAbsence_169 : decode (cd m_M_lookAbsence) 169 = .ok (.iaload, 1) := by decide +kernel
theorem d_M_lookAbsence_170 : decode (cd m_M_lookAbsence) 170 = .ok (.invokevirtual 214, 3) := by decide +kernel
theorem d_M_lookAbsence_173 : decode (cd m_M_lookAbsence) 173 = .ok (.iinc 2 1, 3) := by decide +kernel
theorem d_M_lookAbsence_176 : decode (cd m_M_lookAbsence) 176 = .ok (.goto (-58), 3) := by decide +kernel
theorem d_M_lookAbsence_179 : decode (cd m_M_lookAbsence) 179 = .ok (.iinc 1 1, 3) := by decide +kernel
theorem d_M_lookAbsence_182 : decode (cd m_M_lookAbsence) 182 = .ok (.goto (-170), 3) := by decide +kernel
theorem d_M_lookAbsence_185 : decode (cd m_M_lookAbsence) 185 = .ok (.return_, 1) := by decide +kernel
theorem d_M_lookStrata_0 : decode (cd m_M_lookStrata) 0 = .ok (.bipush 16, 2) := by decide +kernel
theorem d_M_lookStrata_2 : decode (cd m_M_lookStrata) 2 = .ok (.aload_n 0, 1) := by decide +kernel
theorem d_M_lookStrata_3 : decode (cd m_M_lookStrata) 3 = .ok (.getfield 211, 3) := by decide +kernel
theorem d_M_lookStrata_6 : decode (cd m_M_lookStrata) 6 = .ok (.imul, 1) := by decide +kernel
theorem d_M_lookStrata_7 : decode (cd m_M_lookStrata) 7 = .ok (.istore_n 1, 1) := by decide +kernel
theorem d_M_lookStrata_8 : decode (cd m_M_lookStrata) 8 = .ok (.iload_n 1, 1) := by decide +kernel
theorem d_M_lookStrata_9 : decode (cd m_M_lookStrata) 9 = .ok (.istore_n 2, 1) := by decide +kernel
theorem d_M_lookStrata_10 : decode (cd m_M_lookStrata) 10 = .ok (.iload_n 2, 1) := by decide +kernel
theorem d_M_lookStrata_11 : decode (cd m_M_lookStrata) 11 = .ok (.iload_n 1, 1) := by decide +kernel
theorem d_M_lookStrata_12 : decode (cd m_M_lookStrata) 12 = .ok (.bipush 16, 2) := by decide +kernel
theorem d_M_lookStrata_14 : decode (cd m_M_lookStrata) 14 = .ok (.iadd, 1) := by decide +kernel
theorem d_M_lookStrata_15 : decode (cd m_M_lookStrata) 15 = .ok (.if_icmp .ge 16, 3) := by decide +kernel
theorem d_M_lookStrata_18 : decode (cd m_M_lookStrata) 18 = .ok (.aload_n 0, 1) := by decide +kernel
theorem d_M_lookStrata_19 : decode (cd m_M_lookStrata) 19 = .ok (.getfield 35, 3) := by decide +kernel
theorem d_M_lookStrata_22 : decode (cd m_M_lookStrata) 22 = .ok (.iload_n 2, 1) := by decide +kernel
theorem d_M_lookStrata_23 : decode (cd m_M_lookStrata) 23 = .ok (.iconst 0, 1) := by decide +kernel
theorem d_M_lookStrata_24 : decode (cd m_M_lookStrata) 24 = .ok (.iastore, 1) := by decide +kernel
theorem d_M_lookStrata_25 : decode (cd m_M_lookStrata) 25 = .ok (.iinc 2 1, 3) := by decide +kernel
theorem d_M_lookStrata_28 : decode (cd m_M_lookStrata) 28 = .ok (.goto (-18), 3) := by decide +kernel
theorem d_M_lookStrata_31 : decode (cd m_M_lookStrata) 31 = .ok (.iconst 1, 1) := by decide +kernel
theorem d_M_lookStrata_32 : decode (cd m_M_lookStrata) 32 = .ok (.istore_n 2, 1) := by decide +kernel
theorem d_M_lookStrata_33 : decode (cd m_M_lookStrata) 33 = .ok (.iload_n 2, 1) := by decide +kernel
theorem d_M_lookStrata_34 : decode (cd m_M_lookStrata) 34 = .ok (.ifCond .eq 163, 3) := by decide +kernel
theorem d_M_lookStrata_37 : decode (cd m_M_lookStrata) 37 = .ok (.iconst 0, 1) := by decide +kernel
theorem d_M_lookStrata_38 : decode (cd m_M_lookStrata) 38 = .ok (.istore_n 2, 1) := by decide +kernel
theorem d_M_lookStrata_39 : decode (cd m_M_lookStrata) 39 = .ok (.bipush 30, 2) := by decide +kernel
theorem d_M_lookStrata_41 : decode (cd m_M_lookStrata) 41 = .ok (.aload_n 0, 1) := by decide +kernel
theorem d_M_lookStrata_42 : decode (cd m_M_lookStrata) 42 = .ok (.getfield 211, 3) := by decide +kernel
theorem d_M_lookStrata_45 : decode (cd m_M_lookStrata) 45 = .ok (.imul, 1) := by decide +kernel
theorem d_M_lookStrata_46 : decode (cd m_M_lookStrata) 46 = .ok (.istore_n 3, 1) := by decide +kernel
theorem d_M_lookStrata_47 : decode (cd m_M_lookStrata) 47 = .ok (.iload_n 3, 1) := by decide +kernel
theorem d_M_lookStrata_48 : decode (cd m_M_lookStrata) 48 = .ok (.bipush 30, 2) := by decide +kernel
theorem d_M_lookStrata_50 : decode (cd m_M_lookStrata) 50 = .ok (.aload_n 0, 1) := by decide +kernel
theorem d_M_lookStrata_51 : decode (cd m_M_lookStrata) 51 = .ok (.getfield 211, 3) := by decide +kernel
theorem d_M_lookStrata_54 : decode (cd m_M_lookStrata) 54 = .ok (.imul, 1) := by decide +kernel
theorem d_M_lookStrata_55 : decode (cd m_M_lookStrata) 55 = .ok (.aload_n 0, 1) := by decide +kernel
theorem d_M_lookStrata_56 : decode (cd m_M_lookStrata) 56 = .ok (.getfield 38, 3) := by decide +kernel
theorem d_M_lookStrata_59 : decode (cd m_M_lookStrata) 59 = .ok (.aload_n 0, 1) := by decide +kernel
theorem d_M_lookStrata_60 : decode (cd m_M_lookStrata) 60 = .ok (.getfield 211, 3) := by decide +kernel
theorem d_M_lookStrata_63 : decode (cd m_M_lookStrata) 63 = .ok (.iaload, 1) := by decide +kernel
theorem d_M_lookStrata_64 : decode (cd m_M_lookStrata) 64 = .ok (.iadd, 1) := by decide +kernel
theorem d_M_lookStrata_65 : decode (cd m_M_lookStrata) 65 = .ok (.if_icmp .ge 129, 3) := by decide +kernel
theorem d_M_lookStrata_68 : decode (cd m_M_lookStrata) 68 = .ok (.bipush 6, 2) := by decide +kernel
theorem d_M_lookStrata_70 : decode (cd m_M_lookStrata) 70 = .ok (.iload_n 3, 1) := by decide +kernel
theorem d_M_lookStrata_71 : decode (cd m_M_lookStrata) 71 = .ok (.imul, 1) := by decide +kernel
theorem d_M_lookStrata_72 : decode (cd m_M_lookStrata) 72 = .ok (.istore 4, 2) := by decide +kernel
theorem d_M_lookStrata_74 : decode (cd m_M_lookStrata) 74 = .ok (.iload 4, 2) := by decide +kernel
theorem d_M_lookStrata_76 : decode (cd m_M_lookStrata) 76 = .ok (.bipush 6, 2) := by decide +kernel
theorem d_M_lookStrata_78 : decode (cd m_M_lookStrata) 78 = .ok (.iload_n 3, 1) := by decide +kernel
theorem d_M_lookStrata_79 : decode (cd m_M_lookStrata) 79 = .ok (.imul, 1) := by decide +kernel
theorem d_M_lookStrata_80 : decode (cd m_M_lookStrata) 80 = .ok (.aload_n 0, 1) := by decide +kernel
theorem d_M_lookStrata_81 : decode (cd m_M_lookStrata) 81 = .ok (.getfield 56, 3) := by decide +kernel
theorem d_M_lookStrata_84 : decode (cd m_M_lookStrata) 84 = .ok (.iload_n 3, 1) := by decide +kernel
theorem d_M_lookStrata_85 : decode (cd m_M_lookStrata) 85 = .ok (.iaload, 1) := by decide +kernel
theorem d_M_lookStrata_86 : decode (cd m_M_lookStrata) 86 = .ok (.iadd, 1) := by decide +kernel
theorem d_M_lookStrata_87 : decode (cd m_M_lookStrata) 87 = .ok (.if_icmp .ge 101, 3) := by decide +kernel
theorem d_M_lookStrata_90 : decode (cd m_M_lookStrata) 90 = .ok (.aload_n 0, 1) := by decide +kernel
theorem d_M_lookStrata_91 : decode (cd m_M_lookStrata) 91 = .ok (.iload 4, 2) := by decide +kernel
theorem d_M_lookStrata_93 : decode (cd m_M_lookStrata) 93 = .ok (.invokevirtual 296, 3) := by decide +kernel
theorem d_M_lookStrata_96 : decode (cd m_M_lookStrata) 96 = .ok (.ifCond .ne 6, 3) := by decide +kernel
theorem d_M_lookStrata_99 : decode (cd m_M_lookStrata) 99 = .ok (.goto 83, 3) := by decide +kernel
theorem d_M_lookStrata_102 : decode (cd m_M_lookStrata) 102 = .ok (.aload_n 0, 1) := by decide +kernel
theorem d_M_lookStrata_103 : decode (cd m_M_lookStrata) 103 = .ok (.getfield 35, 3) := by decide +kernel
theorem d_M_lookStrata_106 : decode (cd m_M_lookStrata) 106 = .ok (.iload_n 1, 1) := by decide +kernel
theorem d_M_lookStrata_107 : decode (cd m_M_lookStrata) 107 = .ok (.aload_n 0, 1) := by decide +kernel
theorem d_M_lookStrata_108 : decode (cd m_M_lookStrata) 108 = .ok (.getfield 65, 3) := by decide +kernel
theorem d_M_lookStrata_111 : decode (cd m_M_lookStrata) 111 = .ok (.iload 4, 2) := by decide +kernel
theorem d_M_lookStrata_113 : decode (cd m_M_lookStrata) 113 = .ok (.iaload, 1) := by decide +kernel
theorem d_M_lookStrata_114 : decode (cd m_M_lookStrata) 114 = .ok (.iadd, 1) := by decide +kernel
theorem d_M_lookStrata_115 : decode (cd m_M_lookStrata) 115 = .ok (.iaload, 1) := by decide +kernel
theorem d_M_lookStrata_116 : decode (cd m_M_lookStrata) 116 = .ok (.aload_n 0, 1) := by decide +kernel
theorem d_M_lookStrata_117 : decode (cd m_M_lookStrata) 117 = .ok (.getfield 62, 3) := by decide +kernel
theorem d_M_lookStrata_120 : decode (cd m_M_lookStrata) 120 = .ok (.iload 4, 2) := by decide +kernel
theorem d_M_lookStrata_122 : decode (cd m_M_lookStrata) 122 = .ok (.iaload, 1) := by decide +kernel
theorem d_M_lookStrata_123 : decode (cd m_M_lookStrata) 123 = .ok (.iconst 1, 1) := by decide +kernel
theorem d_M_lookStrata_124 : decode (cd m_M_lookStrata) 124 = .ok (.if_icmp .eq 12, 3) := by decide +kernel
theorem d_M_lookStrata_127 : decode (cd m_M_lookStrata) 127 = .ok (.aload_n 0, 1) := by decide +kernel
theorem d_M_lookStrata_128 : decode (cd m_M_lookStrata) 128 = .ok (.getfield 50, 3) := by decide +kernel
theorem d_M_lookStrata_131 : decode (cd m_M_lookStrata) 131 = .ok (.iload_n 3, 1) := by decide +kernel
theorem d_M_lookStrata_132 : decode (cd m_M_lookStrata) 132 = .ok (.iaload, 1) := by decide +kernel
theorem d_M_lookStrata_133 : decode (cd m_M_lookStrata) 133 = .ok (.ifCond .le 7, 3) := by decide +kernel
theorem d_M_lookStrata_136 : decode (cd m_M_lookStrata) 136 = .ok (.iconst 1, 1) := by decide +kernel
theorem d_M_lookStrata_137 : decode (cd m_M_lookStrata) 137 = .ok (.goto 4, 3) := by decide +kernel
theorem d_M_lookStrata_140 : decode (cd m_M_lookStrata) 140 = .ok (.iconst 0, 1) := by decide +kernel
theorem d_M_lookStrata_141 : decode (cd m_M_lookStrata) 141 = .ok (.iadd, 1) := by decide +kernel
theorem d_M_lookStrata_142 : decode (cd m_M_lookStrata) 142 = .ok (.istore 5, 2) := by decide +kernel
theorem d_M_lookStrata_144 : decode (cd m_M_lookStrata) 144 = .ok (.aload_n 0, 1) := by decide +kernel
theorem d_M_lookStrata_145 : decode (cd m_M_lookStrata) 145 = .ok (.getfield 35, 3) := by decide +kernel
theorem d_M_lookStrata_148 : decode (cd m_M_lookStrata) 148 = .ok (.iload_n 1, 1) := by decide +kernel
theorem d_M_lookStrata_149 : decode (cd m_M_lookStrata) 149 = .ok (.aload_n 0, 1) := by decide +kernel
theorem d_M_lookStrata_150 : decode (cd m_M_lookStrata) 150 = .ok (.getfield 41, 3) := by decide +kernel
theorem d_M_lookStrata_153 : decode (cd m_M_lookStrata) 153 = .ok (.iload_n 3, 1) := by decide +kernel
theorem d_M_lookStrata_154 : decode (cd m_M_lookStrata) 154 = .ok (.iaload, 1) := by decide +kernel
theorem d_M_lookStrata_155 : decode (cd m_M_lookStrata) 155 = .ok (.iadd, 1) := by decide +kernel
theorem d_M_lookStrata_156 : decode (cd m_M_lookStrata) 156 = .ok (.iaload, 1) := by decide +kernel
theorem d_M_lookStrata_157 : decode (cd m_M_lookStrata) 157 = .ok (.iload 5, 2) := by decide +kernel
theorem d_M_lookStrata_159 : decode (cd m_M_lookStrata) 159 = .ok (.if_icmp .lt 6, 3) := by decide +kernel
theorem d_M_lookStrata_162 : decode (cd m_M_lookStrata) 162 = .ok (.goto 20, 3) := by decide +kernel
theorem d_M_lookStrata_165 : decode (cd m_M_lookStrata) 165 = .ok (.aload_n 0, 1) := by decide +kernel
theorem d_M_lookStrata_166 : decode (cd m_M_lookStrata) 166 = .ok (.getfield 35, 3) := by decide +kernel
theorem d_M_lookStrata_169 : decode (cd m_M_lookStrata) 169 = .ok (.iload_n 1, 1) := by decide +kernel
theorem d_M_lookStrata_170 : decode (cd m_M_lookStrata) 170 = .ok (.aload_n 0, 1) := by decide +kernel
theorem d_M_lookStrata_171 : decode (cd m_M_lookStrata) 171 = .ok (.getfield 41, 3) := by decide +kernel
theorem d_M_lookStrata_174 : decode (cd m_M_lookStrata) 174 = .ok (.iload_n 3, 1) := by decide +kernel
theorem d_M_lookStrata_175 : decode (cd m_M_lookStrata) 175 = .ok (.iaload, 1) := by decide +kernel
theorem d_M_lookStrata_176 : decode (cd m_M_lookStrata) 176 = .ok (.iadd, 1) := by decide +kernel
theorem d_M_lookStrata_177 : decode (cd m_M_lookStrata) 177 = .ok (.iload 5, 2) := by decide +kernel
theorem d_M_lookStrata_179 : decode (cd m_M_lookStrata) 179 = .ok (.iastore, 1) := by decide +kernel
theorem d_M_lookStrata_180 : decode (cd m_M_lookStrata) 180 = .ok (.iconst 1, 1) := by decide +kernel
theorem d_M_lookStrata_181 : decode (cd m_M_lookStrata) 181 = .ok (.istore_n 2, 1) := by decide +kernel
theorem d_M_lookStrata_182 : decode (cd m_M_lookStrata) 182 = .ok (.iinc 4 1, 3) := by decide +kernel
theorem d_M_lookStrata_185 : decode (cd m_M_lookStrata) 185 = .ok (.goto (-111), 3) := by decide +kernel
theorem d_M_lookStrata_188 : decode (cd m_M_lookStrata) 188 = .ok (.iinc 3 1, 3) := by decide +kernel
theorem d_M_lookStrata_191 : decode (cd m_M_lookStrata) 191 = .ok (.goto (-144), 3) := by decide +kernel
theorem d_M_lookStrata_194 : decode (cd m_M_lookStrata) 194 = .ok (.goto (-161), 3) := by decide +kernel
theorem d_M_lookStrata_197 : decode (cd m_M_lookStrata) 197 = .ok (.return_, 1) := by decide +kernel
theorem d_M_program_0 : decode (cd m_M_program) 0 = .ok (.aload_n 0, 1) := by decide +kernel
theorem d_M_program_1 : decode (cd m_M_program) 1 = .ok (.iconst 0, 1) := by decide +kernel
theorem d_M_program_2 : decode (cd m_M_program) 2 = .ok (.putfield 174, 3) := by decide +kernel
theorem d_M_program_5 : decode (cd m_M_program) 5 = .ok (.aload_n 0, 1) := by decide +kernel
theorem d_M_program_6 : decode (cd m_M_program) 6 = .ok (.iconst 0, 1) := by decide +kernel
theorem d_M_program_7 : decode (cd m_M_program) 7 = .ok (.putfield 177, 3) := by decide +kernel
theorem d_M_program_10 : decode (cd m_M_program) 10 = .ok (.aload_n 0, 1) := by decide +kernel
theorem d_M_program_11 : decode (cd m_M_program) 11 = .ok (.invokevirtual 305, 3) := by decide +kernel
theorem d_M_program_14 : decode (cd m_M_program) 14 = .ok (.aload_n 0, 1) := by decide +kernel
theorem d_M_program_15 : decode (cd m_M_program) 15 = .ok (.iconst 0, 1) := by decide +kernel
theorem d_M_program_16 : decode (cd m_M_program) 16 = .ok (.putfield 130, 3) := by decide +kernel
theorem d_M_program_19 : decode (cd m_M_program) 19 = .ok (.aload_n 0, 1) := by decide +kernel
theorem d_M_program_20 : decode (cd m_M_program) 20 = .ok (.iconst 0, 1) := by decide +kernel
theorem d_M_program_21 : decode (cd m_M_program) 21 = .ok (.putfield 180, 3) := by decide +kernel
theorem d_M_program_24 : decode (cd m_M_program) 24 = .ok (.aload_n 0, 1) := by decide +kernel
theorem d_M_program_25 : decode (cd m_M_program) 25 = .ok (.iconst 1, 1) := by decide +kernel
theorem d_M_program_26 : decode (cd m_M_program) 26 = .ok (.aload_n 0, 1) := by decide +kernel
theorem d_M_program_27 : decode (cd m_M_program) 27 = .ok (.getfield 308, 3) := by decide +kernel
theorem d_M_program_30 : decode (cd m_M_program) 30 = .ok (.isub, 1) := by decide +kernel
theorem d_M_program_31 : decode (cd m_M_program) 31 = .ok (.putfield 211, 3) := by decide +kernel
theorem d_M_program_34 : decode (cd m_M_program) 34 = .ok (.aload_n 0, 1) := by decide +kernel
theorem d_M_program_35 : decode (cd m_M_program) 35 = .ok (.getfield 26, 3) := by decide +kernel
theorem d_M_program_38 : decode (cd m_M_program) 38 = .ok (.aload_n 0, 1) := by decide +kernel
theorem d_M_program_39 : decode (cd m_M_program) 39 = .ok (.getfield 211, 3) := by decide +kernel
theorem d_M_program_42 : decode (cd m_M_program) 42 = .ok (.iconst 0, 1) := by decide +kernel
theorem d_M_program_43 : decode (cd m_M_program) 43 = .ok (.iastore, 1) := by decide +kernel
theorem d_M_program_44 : decode (cd m_M_program) 44 = .ok (.aload_n 0, 1) := by decide +kernel
theorem d_M_program_45 : decode (cd m_M_program) 45 = .ok (.getfield 38, 3) := by decide +kernel
theorem d_M_program_48 : decode (cd m_M_program) 48 = .ok (.aload_n 0, 1) := by decide +kernel
theorem d_M_program_49 : decode (cd m_M_program) 49 = .ok (.getfield 211, 3) := by decide +kernel
theorem d_M_program_52 : decode (cd m_M_program) 52 = .ok (.iconst 0, 1) := by decide +kernel
theorem d_M_program_53 : decode (cd m_M_program) 53 = .ok (.iastore, 1) := by decide +kernel
theorem d_M_program_54 : decode (cd m_M_program) 54 = .ok (.aload_n 0, 1) := by decide +kernel
theorem d_M_program_55 : decode (cd m_M_program) 55 = .ok (.getfield 74, 3) := by decide +kernel
theorem d_M_program_58 : decode (cd m_M_program) 58 = .ok (.aload_n 0, 1) := by decide +kernel
theorem d_M_program_59 : decode (cd m_M_program) 59 = .ok (.getfield 211, 3) := by decide +kernel
theorem d_M_program_62 : decode (cd m_M_program) 62 = .ok (.iconst 0, 1) := by decide +kernel
theorem d_M_program_63 : decode (cd m_M_program) 63 = .ok (.iastore, 1) := by decide +kernel
theorem d_M_program_64 : decode (cd m_M_program) 64 = .ok (.iconst 1, 1) := by decide +kernel
theorem d_M_program_65 : decode (cd m_M_program) 65 = .ok (.istore_n 1, 1) := by decide +kernel
theorem d_M_program_66 : decode (cd m_M_program) 66 = .ok (.iload_n 1, 1) := by decide +kernel
theorem d_M_program_67 : decode (cd m_M_program) 67 = .ok (.ifCond .eq 23, 3) := by decide +kernel
theorem d_M_program_70 : decode (cd m_M_program) 70 = .ok (.aload_n 0, 1) := by decide +kernel
theorem d_M_program_71 : decode (cd m_M_program) 71 = .ok (.getfield 13, 3) := by decide +kernel
theorem d_M_program_74 : decode (cd m_M_program) 74 = .ok (.aload_n 0, 1) := by decide +kernel
theorem d_M_program_75 : decode (cd m_M_program) 75 = .ok (.getfield 180, 3) := by decide +kernel
theorem d_M_program_78 : decode (cd m_M_program) 78 = .ok (.iaload, 1) := by decide +kernel
theorem d_M_program_79 : decode (cd m_M_program) 79 = .ok (.ifCond .eq 11, 3) := by decide +kernel
theorem d_M_program_82 : decode (cd m_M_program) 82 = .ok (.aload_n 0, 1) := by decide +kernel
theorem d_M_program_83 : decode (cd m_M_program) 83 = .ok (.invokevirtual 311, 3) := by decide +kernel
theorem d_M_program_86 : decode (cd m_M_program) 86 = .ok (.istore_n 1, 1) := by decide +kernel
theorem d_M_program_87 : decode (cd m_M_program) 87 = .ok (.goto (-21), 3) := by decide +kernel
theorem d_M_program_90 : decode (cd m_M_program) 90 = .ok (.aload_n 0, 1) := by decide +kernel
theorem d_M_program_91 : decode (cd m_M_program) 91 = .ok (.getfield 174, 3) := by decide +kernel
theorem d_M_program_94 : decode (cd m_M_program) 94 = .ok (.ifCond .ne 7, 3) := by decide +kernel
theorem d_M_program_97 : decode (cd m_M_program) 97 = .ok (.aload_n 0, 1) := by decide +kernel
theorem d_M_program_98 : decode (cd m_M_program) 98 = .ok (.invokevirtual 314, 3) := by decide +kernel
theorem d_M_program_101 : decode (cd m_M_program) 101 = .ok (.aload_n 0, 1) := by decide +kernel
theorem d_M_program_102 : decode (cd m_M_program) 102 = .ok (.getfield 174, 3) := by decide +kernel
theorem d_M_program_105 : decode (cd m_M_program) 105 = .ok (.ifCond .eq 21, 3) := by decide +kernel
theorem d_M_program_108 : decode (cd m_M_program) 108 = .ok (.aload_n 0, 1) := by decide +kernel
theorem d_M_program_109 : decode (cd m_M_program) 109 = .ok (.aload_n 0, 1) := by decide +kernel
theorem d_M_program_110 : decode (cd m_M_program) 110 = .ok (.getfield 308, 3) := by decide +kernel
theorem d_M_program_113 : decode (cd m_M_program) 113 = .ok (.putfield 211, 3) := by decide +kernel
theorem d_M_program_116 : decode (cd m_M_program) 116 = .ok (.aload_n 0, 1) := by decide +kernel
theorem d_M_program_117 : decode (cd m_M_program) 117 = .ok (.invokevirtual 299, 3) := by decide +kernel
theorem d_M_program_120 : decode (cd m_M_program) 120 = .ok (.aload_n 0, 1) := by decide +kernel
theorem d_M_program_121 : decode (cd m_M_program) 121 = .ok (.iconst 1, 1) := by decide +kernel
theorem d_M_program_122 : decode (cd m_M_program) 122 = .ok (.invokevirtual 317, 3) := by decide +kernel
theorem d_M_program_125 : decode (cd m_M_program) 125 = .ok (.ireturn, 1) := by decide +kernel
theorem d_M_program_126 : decode (cd m_M_program) 126 = .ok (.aload_n 0, 1) := by decide +kernel
theorem d_M_program_127 : decode (cd m_M_program) 127 = .ok (.invokevirtual 320, 3) := by decide +kernel
theorem d_M_program_130 : decode (cd m_M_program) 130 = .ok (.aload_n 0, 1) := by decide +kernel
theorem d_M_program_131 : decode (cd m_M_program) 131 = .ok (.iconst 0, 1) := by decide +kernel
theorem d_M_program_132 : decode (cd m_M_program) 132 = .ok (.putfield 126, 3) := by decide +kernel
theorem d_M_program_135 : decode (cd m_M_program) 135 = .ok (.aload_n 0, 1) := by decide +kernel
theorem d_M_program_136 : decode (cd m_M_program) 136 = .ok (.aload_n 0, 1) := by decide +kernel
theorem d_M_program_137 : decode (cd m_M_program) 137 = .ok (.getfield 211, 3) := by decide +kernel
theorem d_M_program_140 : decode (cd m_M_program) 140 = .ok (.putfield 308, 3) := by decide +kernel
theorem d_M_program_143 : decode (cd m_M_program) 143 = .ok (.aload_n 0, 1) := by decide +kernel
theorem d_M_program_144 : decode (cd m_M_program) 144 = .ok (.getfield 38, 3) := by decide +kernel
theorem d_M_program_147 : decode (cd m_M_program) 147 = .ok (.aload_n 0, 1) := by decide +kernel
theorem d_M_program_148 : decode (cd m_M_program) 148 = .ok (.getfield 308, 3) := by decide +kernel
theorem d_M_program_151 : decode (cd m_M_program) 151 = .ok (.iaload, 1) := by decide +kernel
theorem d_M_program_152 : decode (cd m_M_program) 152 = .ok (.ireturn, 1) := by decide +kernel
theorem d_M_fault_0 : decode (cd m_M_fault) 0 = .ok (.aload_n 0, 1) := by decide +kernel
theorem d_M_fault_1 : decode (cd m_M_fault) 1 = .ok (.iconst 0, 1) := by decide +kernel
theorem d_M_fault_2 : decode (cd m_M_fault) 2 = .ok (.putfield 126, 3) := by decide +kernel
theorem d_M_fault_5 : decode (cd m_M_fault) 5 = .ok (.iload_n 1, 1) := by decide +kernel
theorem d_M_fault_6 : decode (cd m_M_fault) 6 = .ok (.ifCond .ne 10, 3) := by decide +kernel
theorem d_M_fault_9 : decode (cd m_M_fault) 9 = .ok (.aload_n 0, 1) := by decide +kernel
theorem d_M_fault_10 : decode (cd m_M_fault) 10 = .ok (.getfield 174, 3) := by decide +kernel
theorem d_M_fault_13 : decode (cd m_M_fault) 13 = .ok (.goto 16, 3) := by decide +kernel
theorem d_M_fault_16 : decode (cd m_M_fault) 16 = .ok (.iload_n 1, 1) := by decide +kernel
theorem d_M_fault_17 : decode (cd m_M_fault) 17 = .ok (.iconst 1, 1) := by decide +kernel
theorem d_M_fault_18 : decode (cd m_M_fault) 18 = .ok (.if_icmp .ne 10, 3) := by decide +kernel
theorem d_M_fault_21 : decode (cd m_M_fault) 21 = .ok (.aload_n 0, 1) := by decide +kernel
theorem d_M_fault_22 : decode (cd m_M_fault) 22 = .ok (.getfield 177, 3) := by decide +kernel
theorem d_M_fault_25 : decode (cd m_M_fault) 25 = .ok (.goto 4, 3) := by decide +kernel
theorem d_M_fault_28 : decode (cd m_M_fault) 28 = .ok (.iconst (-1), 1) := by decide +kernel
theorem d_M_fault_29 : decode (cd m_M_fault) 29 = .ok (.ireturn, 1) := by decide +kernel
theorem d_M_isKnownTerm_0 : decode (cd m_M_isKnownTerm) 0 = .ok (.aload_n 0, 1) := by decide +kernel
theorem d_M_isKnownTerm_1 : decode (cd m_M_isKnownTerm) 1 = .ok (.getfield 68, 3) := by decide +kernel
theorem d_M_isKnownTerm_4 : decode (cd m_M_isKnownTerm) 4 = .ok (.iconst 4, 1) := by decide +kernel
theorem d_M_isKnownTerm_5 : decode (cd m_M_isKnownTerm) 5 = .ok (.iload_n 1, 1) := by decide +kernel
theorem d_M_isKnownTerm_6 : decode (cd m_M_isKnownTerm) 6 = .ok (.imul, 1) := by decide +kernel
theorem d_M_isKnownTerm_7 : decode (cd m_M_isKnownTerm) 7 = .ok (.iload_n 2, 1) := by decide +kernel
theorem d_M_isKnownTerm_8 : decode (cd m_M_isKnownTerm) 8 = .ok (.iadd, 1) := by decide +kernel
theorem d_M_isKnownTerm_9 : decode (cd m_M_isKnownTerm) 9 = .ok (.iaload, 1) := by decide +kernel
theorem d_M_isKnownTerm_10 : decode (cd m_M_isKnownTerm) 10 = .ok (.ifCond .eq 36, 3) := by decide +kernel
theorem d_M_isKnownTerm_13 : decode (cd m_M_isKnownTerm) 13 = .ok (.aload_n 0, 1) := by decide +kernel
theorem d_M_isKnownTerm_14 : decode (cd m_M_isKnownTerm) 14 = .ok (.getfield 68, 3) := by decide +kernel
theorem d_M_isKnownTerm_17 : decode (cd m_M_isKnownTerm) 17 = .ok (.iconst 4, 1) := by decide +kernel
theorem d_M_isKnownTerm_18 : decode (cd m_M_isKnownTerm) 18 = .ok (.iload_n 1, 1) := by decide +kernel
theorem d_M_isKnownTerm_19 : decode (cd m_M_isKnownTerm) 19 = .ok (.imul, 1) := by decide +kernel
theorem d_M_isKnownTerm_20 : decode (cd m_M_isKnownTerm) 20 = .ok (.iload_n 2, 1) := by decide +kernel
theorem d_M_isKnownTerm_21 : decode (cd m_M_isKnownTerm) 21 = .ok (.iadd, 1) := by decide +kernel
theorem d_M_isKnownTerm_22 : decode (cd m_M_isKnownTerm) 22 = .ok (.iaload, 1) := by decide +kernel
theorem d_M_isKnownTerm_23 : decode (cd m_M_isKnownTerm) 23 = .ok (.iconst 1, 1) := by decide +kernel
theorem d_M_isKnownTerm_24 : decode (cd m_M_isKnownTerm) 24 = .ok (.if_icmp .ne 26, 3) := by decide +kernel
theorem d_M_isKnownTerm_27 : decode (cd m_M_isKnownTerm) 27 = .ok (.aload_n 0, 1) := by decide +kernel
theorem d_M_isKnownTerm_28 : decode (cd m_M_isKnownTerm) 28 = .ok (.getfield 120, 3) := by decide +kernel
theorem d_M_isKnownTerm_31 : decode (cd m_M_isKnownTerm) 31 = .ok (.aload_n 0, 1) := by decide +kernel
theorem d_M_isKnownTerm_32 : decode (cd m_M_isKnownTerm) 32 = .ok (.getfield 71, 3) := by decide +kernel
theorem d_M_isKnownTerm_35 : decode (cd m_M_isKnownTerm) 35 = .ok (.iconst 4, 1) := by decide +kernel
theorem d_M_isKnownTerm_36 : decode (cd m_M_isKnownTerm) 36 = .ok (.iload_n 1, 1) := by decide +kernel
theorem d_M_isKnownTerm_37 : decode (cd m_M_isKnownTerm) 37 = .ok (.imul, 1) := by decide +kernel
theorem d_M_isKnownTerm_38 : decode (cd m_M_isKnownTerm) 38 = .ok (.iload_n 2, 1) := by decide +kernel
theorem d_M_isKnownTerm_39 : decode (cd m_M_isKnownTerm) 39 = .ok (.iadd, 1) := by decide +kernel
theorem d_M_isKnownTerm_40 : decode (cd m_M_isKnownTerm) 40 = .ok (.laload, 1) := by decide +kernel
theorem d_M_isKnownTerm_41 : decode (cd m_M_isKnownTerm) 41 = .ok (.l2i, 1) := by decide +kernel
theorem d_M_isKnownTerm_42 : decode (cd m_M_isKnownTerm) 42 = .ok (.baload, 1) := by decide +kernel
theorem d_M_isKnownTerm_43 : decode (cd m_M_isKnownTerm) 43 = .ok (.ifCond .eq 7, 3) := by decide +kernel
theorem d_M_isKnownTerm_46 : decode (cd m_M_isKnownTerm) 46 = .ok (.iconst 1, 1) := by decide +kernel
theorem d_M_isKnownTerm_47 : decode (cd m_M_isKnownTerm) 47 = .ok (.goto 4, 3) := by decide +kernel
theorem d_M_isKnownTerm_50 : decode (cd m_M_isKnownTerm) 50 = .ok (.iconst 0, 1) := by decide +kernel
theorem d_M_isKnownTerm_51 : decode (cd m_M_isKnownTerm) 51 = .ok (.ireturn, 1) := by decide +kernel
theorem d_M_knownIn_0 : decode (cd m_M_knownIn) 0 = .ok (.iconst 0, 1) := by decide +kernel
theorem d_M_knownIn_1 : decode (cd m_M_knownIn) 1 = .ok (.istore_n 2, 1) := by decide +kernel
theorem d_M_knownIn_2 : decode (cd m_M_knownIn) 2 = .ok (.iconst 0, 1) := by decide +kernel
theorem d_M_knownIn_3 : decode (cd m_M_knownIn) 3 = .ok (.istore_n 3, 1) := by decide +kernel
theorem d_M_knownIn_4 : decode (cd m_M_knownIn) 4 = .ok (.iload_n 3, 1) := by decide +kernel
theorem d_M_knownIn_5 : decode (cd m_M_knownIn) 5 = .ok (.aload_n 0, 1) := by decide +kernel
theorem d_M_knownIn_6 : decode (cd m_M_knownIn) 6 = .ok (.getfield 102, 3) := by decide +kernel
theorem d_M_knownIn_9 : decode (cd m_M_knownIn) 9 = .ok (.iload_n 1, 1) := by decide +kernel
theorem d_M_knownIn_10 : decode (cd m_M_knownIn) 10 = .ok (.iaload, 1) := by decide +kernel
theorem d_M_knownIn_11 : decode (cd m_M_knownIn) 11 = .ok (.if_icmp .ge 28, 3) := by decide +kernel
theorem d_M_knownIn_14 : decode (cd m_M_knownIn) 14 = .ok (.iload_n 2, 1) := by decide +kernel
theorem d_M_knownIn_15 : decode (cd m_M_knownIn) 15 = .ok (.aload_n 0, 1) := by decide +kernel
theorem d_M_knownIn_16 : decode (cd m_M_knownIn) 16 = .ok (.iload_n 1, 1) := by decide +kernel
theorem d_M_knownIn_17 : decode (cd m_M_knownIn) 17 = .ok (.iload_n 3, 1) := by decide +kernel
theorem d_M_knownIn_18 : decode (cd m_M_knownIn) 18 = .ok (.invokevirtual 323, 3) := by decide +kernel
theorem d_M_knownIn_21 : decode (cd m_M_knownIn) 21 = .ok (.ifCond .eq 9, 3) := by decide +kernel
theorem d_M_knownIn_24 : decode (cd m_M_knownIn) 24 = .ok (.iconst 1, 1) := by decide +kernel
theorem d_M_knownIn_25 : decode (cd m_M_knownIn) 25 = .ok (.iload_n 3, 1) := by decide +kernel
theorem d_M_knownIn_26 : decode (cd m_M_knownIn) 26 = .ok (.ishl, 1) := by decide +kernel
theorem d_M_knownIn_27 : decode (cd m_M_knownIn) 27 = .ok (.goto 4, 3) := by decide +kernel
theorem d_M_knownIn_30 : decode (cd m_M_knownIn) 30 = .ok (.iconst 0, 1) := by decide +kernel
theorem d_M_knownIn_31 : decode (cd m_M_knownIn) 31 = .ok (.ior, 1) := by decide +kernel
theorem d_M_knownIn_32 : decode (cd m_M_knownIn) 32 = .ok (.istore_n 2, 1) := by decide +kernel
theorem d_M_knownIn_33 : decode (cd m_M_knownIn) 33 = .ok (.iinc 3 1, 3) := by decide +kernel
theorem d_M_knownIn_36 : decode (cd m_M_knownIn) 36 = .ok (.goto (-32), 3) := by decide +kernel
theorem d_M_knownIn_39 : decode (cd m_M_knownIn) 39 = .ok (.iload_n 2, 1) := by decide +kernel
theorem d_M_knownIn_40 : decode (cd m_M_knownIn) 40 = .ok (.ireturn, 1) := by decide +kernel
theorem d_M_many_0 : decode (cd m_M_many) 0 = .ok (.iconst 0, 1) := by decide +kernel
theorem d_M_many_1 : decode (cd m_M_many) 1 = .ok (.istore_n 1, 1) := by decide +kernel
theorem d_M_many_2 : decode (cd m_M_many) 2 = .ok (.iload_n 0, 1) := by decide +kernel
theorem d_M_many_3 : decode (cd m_M_many) 3 = .ok (.istore_n 2, 1) := by decide +kernel
theorem d_M_many_4 : decode (cd m_M_many) 4 = .ok (.iload_n 2, 1) := by decide +kernel
theorem d_M_many_5 : decode (cd m_M_many) 5 = .ok (.ifCond .le 16, 3) := by decide +kernel
theorem d_M_many_8 : decode (cd m_M_many) 8 = .ok (.iload_n 1, 1) := by decide +kernel
theorem d_M_many_9 : decode (cd m_M_many) 9 = .ok (.iload_n 2, 1) := by decide +kernel
theorem d_M_many_10 : decode (cd m_M_many) 10 = .ok (.iconst 1, 1) := by decide +kernel
theorem d_M_many_11 : decode (cd m_M_many) 11 = .ok (.iand, 1) := by decide +kernel
theorem d_M_many_12 : decode (cd m_M_many) 12 = .ok (.iadd, 1) := by decide +kernel
theorem d_M_many_13 : decode (cd m_M_many) 13 = .ok (.istore_n 1, 1) := by decide +kernel
theorem d_M_many_14 : decode (cd m_M_many) 14 = .ok (.iload_n 2, 1) := by decide +kernel
theorem d_M_many_15 : decode (cd m_M_many) 15 = .ok (.iconst 1, 1) := by decide +kernel
theorem d_M_many_16 : decode (cd m_M_many) 16 = .ok (.ishr, 1) := by decide +kernel
theorem d_M_many_17 : decode (cd m_M_many) 17 = .ok (.istore_n 2, 1) := by decide +kernel
theorem d_M_many_18 : decode (cd m_M_many) 18 = .ok (.goto (-14), 3) := by decide +kernel
theorem d_M_many_21 : decode (cd m_M_many) 21 = .ok (.iload_n 1, 1) := by decide +kernel
theorem d_M_many_22 : decode (cd m_M_many) 22 = .ok (.ireturn, 1) := by decide +kernel
theorem d_M_canAsk_0 : decode (cd m_M_canAsk) 0 = .ok (.aload_n 0, 1) := by decide +kernel
theorem d_M_canAsk_1 : decode (cd m_M_canAsk) 1 = .ok (.getfield 62, 3) := by decide +kernel
theorem d_M_canAsk_4 : decode (cd m_M_canAsk) 4 = .ok (.iload_n 1, 1) := by decide +kernel
theorem d_M_canAsk_5 : decode (cd m_M_canAsk) 5 = .ok (.iaload, 1) := by decide +kernel
theorem d_M_canAsk_6 : decode (cd m_M_canAsk) 6 = .ok (.iconst 3, 1) := by decide +kernel
theorem d_M_canAsk_7 : decode (cd m_M_canAsk) 7 = .ok (.if_icmp .ne 27, 3) := by decide +kernel
theorem d_M_canAsk_10 : decode (cd m_M_canAsk) 10 = .ok (.aload_n 0, 1) := by decide +kernel
theorem d_M_canAsk_11 : decode (cd m_M_canAsk) 11 = .ok (.iload_n 1, 1) := by decide +kernel
theorem d_M_canAsk_12 : decode (cd m_M_canAsk) 12 = .ok (.iconst 1, 1) := by decide +kernel
theorem d_M_canAsk_13 : decode (cd m_M_canAsk) 13 = .ok (.invokevirtual 323, 3) := by decide +kernel
theorem d_M_canAsk_16 : decode (cd m_M_canAsk) 16 = .ok (.ifCond .eq 16, 3) := by decide +kernel
theorem d_M_canAsk_19 : decode (cd m_M_canAsk) 19 = .ok (.aload_n 0, 1) := by decide +kernel
theorem d_M_canAsk_20 : decode (cd m_M_canAsk) 20 = .ok (.iload_n 1, 1) := by decide +kernel
theorem d_M_canAsk_21 : decode (cd m_M_canAsk) 21 = .ok (.iconst 2, 1) := by decide +kernel
theorem d_M_canAsk_22 : decode (cd m_M_canAsk) 22 = .ok (.invokevirtual 323, 3) := by decide +kernel
theorem d_M_canAsk_25 : decode (cd m_M_canAsk) 25 = .ok (.ifCond .eq 7, 3) := by decide +kernel
theorem d_M_canAsk_28 : decode (cd m_M_canAsk) 28 = .ok (.iconst 1, 1) := by decide +kernel
theorem d_M_canAsk_29 : decode (cd m_M_canAsk) 29 = .ok (.goto 4, 3) := by decide +kernel
theorem d_M_canAsk_32 : decode (cd m_M_canAsk) 32 = .ok (.iconst 0, 1) := by decide +kernel
theorem d_M_canAsk_33 : decode (cd m_M_canAsk) 33 = .ok (.ireturn, 1) := by decide +kernel
theorem d_M_canAsk_34 : decode (cd m_M_canAsk) 34 = .ok (.aload_n 0, 1) := by decide +kernel
theorem d_M_canAsk_35 : decode (cd m_M_canAsk) 35 = .ok (.getfield 62, 3) := by decide +kernel
theorem d_M_canAsk_38 : decode (cd m_M_canAsk) 38 = .ok (.iload_n 1, 1) := by decide +kernel
theorem d_M_canAsk_39 : decode (cd m_M_canAsk) 39 = .ok (.iaload, 1) := by decide +kernel
theorem d_M_canAsk_40 : decode (cd m_M_canAsk) 40 = .ok (.iconst 2, 1) := by decide +kernel
theorem d_M_canAsk_41 : decode (cd m_M_canAsk) 41 = .ok (.if_icmp .ne 64, 3) := by decide +kernel
theorem d_M_canAsk_44 : decode (cd m_M_canAsk) 44 = .ok (.aload_n 0, 1) := by decide +kernel
theorem d_M_canAsk_45 : decode (cd m_M_canAsk) 45 = .ok (.getfield 65, 3) := by decide +kernel
theorem d_M_canAsk_48 : decode (cd m_M_canAsk) 48 = .ok (.iload_n 1, 1) := by decide +kernel
theorem d_M_canAsk_49 : decode (cd m_M_canAsk) 49 = .ok (.iaload, 1) := by decide +kernel
theorem d_M_canAsk_50 : decode (cd m_M_canAsk) 50 = .ok (.bipush 61, 2) := by decide +kernel
theorem d_M_canAsk_52 : decode (cd m_M_canAsk) 52 = .ok (.if_icmp .ne 29, 3) := by decide +kernel
theorem d_M_canAsk_55 : decode (cd m_M_canAsk) 55 = .ok (.aload_n 0, 1) := by decide +kernel
theorem d_M_canAsk_56 : decode (cd m_M_canAsk) 56 = .ok (.iload_n 1, 1) := by decide +kernel
theorem d_M_canAsk_57 : decode (cd m_M_canAsk) 57 = .ok (.iconst 0, 1) := by decide +kernel
theorem d_M_canAsk_58 : decode (cd m_M_canAsk) 58 = .ok (.invokevirtual 323, 3) := by decide +kernel
theorem d_M_canAsk_61 : decode (cd m_M_canAsk) 61 = .ok (.ifCond .ne 12, 3) := by decide +kernel
theorem d_M_canAsk_64 : decode (cd m_M_canAsk) 64 = .ok (.aload_n 0, 1) := by decide +kernel
theorem d_M_canAsk_65 : decode (cd m_M_canAsk) 65 = .ok (.iload_n 1, 1) := by decide +kernel
theorem d_M_canAsk_66 : decode (cd m_M_canAsk) 66 = .ok (.iconst 1, 1) := by decide +kernel
theorem d_M_canAsk_67 : decode (cd m_M_canAsk) 67 = .ok (.invokevirtual 323, 3) := by decide +kernel
theorem d_M_canAsk_70 : decode (cd m_M_canAsk) 70 = .ok (.ifCond .eq 7, 3) := by decide +kernel
theorem d_M_canAsk_73 : decode (cd m_M_canAsk) 73 = .ok (.iconst 1, 1) := by decide +kernel
theorem d_M_canAsk_74 : decode (cd m_M_canAsk) 74 = .ok (.goto 30, 3) := by decide +kernel
theorem d_M_canAsk_77 : decode (cd m_M_canAsk) 77 = .ok (.iconst 0, 1) := by decide +kernel
theorem d_M_canAsk_78 : decode (cd m_M_canAsk) 78 = .ok (.goto 26, 3) := by decide +kernel
theorem d_M_canAsk_81 : decode (cd m_M_canAsk) 81 = .ok (.aload_n 0, 1) := by decide +kernel
theorem d_M_canAsk_82 : decode (cd m_M_canAsk) 82 = .ok (.iload_n 1, 1) := by decide +kernel
theorem d_M_canAsk_83 : decode (cd m_M_canAsk) 83 = .ok (.iconst 0, 1) := by decide +kernel
theorem d_M_canAsk_84 : decode (cd m_M_canAsk) 84 = .ok (.invokevirtual 323, 3) := by decide +kernel
theorem d_M_canAsk_87 : decode (cd m_M_canAsk) 87 = .ok (.ifCond .eq 16, 3) := by decide +kernel
theorem d_M_canAsk_90 : decode (cd m_M_canAsk) 90 = .ok (.aload_n 0, 1) := by decide +kernel
theorem d_M_canAsk_91 : decode (cd m_M_canAsk) 91 = .ok (.iload_n 1, 1) := by decide +kernel
theorem d_M_canAsk_92 : decode (cd m_M_canAsk) 92 = .ok (.iconst 1, 1) := by decide +kernel
theorem d_M_canAsk_93 : decode (cd m_M_canAsk) 93 = .ok (.invokevirtual 323, 3) := by decide +kernel
theorem d_M_canAsk_96 : decode (cd m_M_canAsk) 96 = .ok (.ifCond .eq 7, 3) := by decide +kernel
theorem d_M_canAsk_99 : decode (cd m_M_canAsk) 99 = .ok (.iconst 1, 1) := by decide +kernel
theorem d_M_canAsk_100 : decode (cd m_M_canAsk) 100 = .ok (.goto 4, 3) := by decide +kernel
theorem d_M_canAsk_103 : decode (cd m_M_canAsk) 103 = .ok (.iconst 0, 1) := by decide +kernel
theorem d_M_canAsk_104 : decode (cd m_M_canAsk) 104 = .ok (.ireturn, 1) := by decide +kernel
theorem d_M_canAsk_105 : decode (cd m_M_canAsk) 105 = .ok (.iconst 0, 1) := by decide +kernel
theorem d_M_canAsk_106 : decode (cd m_M_canAsk) 106 = .ok (.istore_n 2, 1) := by decide +kernel
theorem d_M_canAsk_107 : decode (cd m_M_canAsk) 107 = .ok (.iload_n 2, 1) := by decide +kernel
theorem d_M_canAsk_108 : decode (cd m_M_canAsk) 108 = .ok (.aload_n 0, 1) := by decide +kernel
theorem d_M_canAsk_109 : decode (cd m_M_canAsk) 109 = .ok (.getfield 102, 3) := by decide +kernel
theorem d_M_canAsk_112 : decode (cd m_M_canAsk) 112 = .ok (.iload_n 1, 1) := by decide +kernel
theorem d_M_canAsk_113 : decode (cd m_M_canAsk) 113 = .ok (.iaload, 1) := by decide +kernel
theorem d_M_canAsk_114 : decode (cd m_M_canAsk) 114 = .ok (.if_icmp .ge 34, 3) := by decide +kernel
theorem d_M_canAsk_117 : decode (cd m_M_canAsk) 117 = .ok (.aload_n 0, 1) := by decide +kernel
theorem d_M_canAsk_118 : decode (cd m_M_canAsk) 118 = .ok (.getfield 68, 3) := by decide +kernel

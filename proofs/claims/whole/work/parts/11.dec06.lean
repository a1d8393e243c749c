/-! decode rows (by program) -/
theorem d_Rl_init_0 : decode (cd m_Rl_init) 0 = .ok (.aload_n 0, 1) := by decide +kernel
theorem d_Rl_init_1 : decode (cd m_Rl_init) 1 = .ok (.invokespecial 3, 3) := by decide +kernel
theorem d_Rl_init_4 : decode (cd m_Rl_init) 4 = .ok (.aload_n 0, 1) := by decide +kernel
theorem d_Rl_init_5 : decode (cd m_Rl_init) 5 = .ok (.bipush 30, 2) := by decide +kernel
theorem d_Rl_init_7 : decode (cd m_Rl_init) 7 = .ok (.newarray .int, 2) := by decide +kernel
theorem d_Rl_init_9 : decode (cd m_Rl_init) 9 = .ok (.putfield 9, 3) := by decide +kernel
theorem d_Rl_init_12 : decode (cd m_Rl_init) 12 = .ok (.aload_n 0, 1) := by decide +kernel
theorem d_Rl_init_13 : decode (cd m_Rl_init) 13 = .ok (.bipush 30, 2) := by decide +kernel
theorem d_Rl_init_15 : decode (cd m_Rl_init) 15 = .ok (.newarray .int, 2) := by decide +kernel
theorem d_Rl_init_17 : decode (cd m_Rl_init) 17 = .ok (.putfield 15, 3) := by decide +kernel
theorem d_Rl_init_20 : decode (cd m_Rl_init) 20 = .ok (.aload_n 0, 1) := by decide +kernel
theorem d_Rl_init_21 : decode (cd m_Rl_init) 21 = .ok (.bipush 30, 2) := by decide +kernel
theorem d_Rl_init_23 : decode (cd m_Rl_init) 23 = .ok (.newarray .int, 2) := by decide +kernel
theorem d_Rl_init_25 : decode (cd m_Rl_init) 25 = .ok (.putfield 18, 3) := by decide +kernel
theorem d_Rl_init_28 : decode (cd m_Rl_init) 28 = .ok (.aload_n 0, 1) := by decide +kernel
theorem d_Rl_init_29 : decode (cd m_Rl_init) 29 = .ok (.bipush 30, 2) := by decide +kernel
theorem d_Rl_init_31 : decode (cd m_Rl_init) 31 = .ok (.newarray .int, 2) := by decide +kernel
theorem d_Rl_init_33 : decode (cd m_Rl_init) 33 = .ok (.putfield 21, 3) := by decide +kernel
theorem d_Rl_init_36 : decode (cd m_Rl_init) 36 = .ok (.aload_n 0, 1) := by decide +kernel
theorem d_Rl_init_37 : decode (cd m_Rl_init) 37 = .ok (.bipush 30, 2) := by decide +kernel
theorem d_Rl_init_39 : decode (cd m_Rl_init) 39 = .ok (.newarray .int, 2) := by decide +kernel
theorem d_Rl_init_41 : decode (cd m_Rl_init) 41 = .ok (.putfield 24, 3) := by decide +kernel
theorem d_Rl_init_44 : decode (cd m_Rl_init) 44 = .ok (.aload_n 0, 1) := by decide +kernel
theorem d_Rl_init_45 : decode (cd m_Rl_init) 45 = .ok (.sipush 180, 3) := by decide +kernel
theorem d_Rl_init_48 : decode (cd m_Rl_init) 48 = .ok (.newarray .int, 2) := by decide +kernel
theorem d_Rl_init_50 : decode (cd m_Rl_init) 50 = .ok (.putfield 27, 3) := by decide +kernel
theorem d_Rl_init_53 : decode (cd m_Rl_init) 53 = .ok (.aload_n 0, 1) := by decide +kernel
theorem d_Rl_init_54 : decode (cd m_Rl_init) 54 = .ok (.sipush 180, 3) := by decide +kernel
theorem d_Rl_init_57 : decode (cd m_Rl_init) 57 = .ok (.newarray .int, 2) := by decide +kernel
theorem d_Rl_init_59 : decode (cd m_Rl_init) 59 = .ok (.putfield 30, 3) := by decide +kernel
theorem d_Rl_init_62 : decode (cd m_Rl_init) 62 = .ok (.aload_n 0, 1) := by decide +kernel
theorem d_Rl_init_63 : decode (cd m_Rl_init) 63 = .ok (.sipush 180, 3) := by decide +kernel
theorem d_Rl_init_66 : decode (cd m_Rl_init) 66 = .ok (.newarray .int, 2) := by decide +kernel
theorem d_Rl_init_68 : decode (cd m_Rl_init) 68 = .ok (.putfield 33, 3) := by decide +kernel
theorem d_Rl_init_71 : decode (cd m_Rl_init) 71 = .ok (.aload_n 0, 1) := by decide +kernel
theorem d_Rl_init_72 : decode (cd m_Rl_init) 72 = .ok (.sipush 180, 3) := by decide +kernel
theorem d_Rl_init_75 : decode (cd m_Rl_init) 75 = .ok (.newarray .int, 2) := by decide +kernel
theorem d_Rl_init_77 : decode (cd m_Rl_init) 77 = .ok (.putfield 36, 3) := by decide +kernel
theorem d_Rl_init_80 : decode (cd m_Rl_init) 80 = .ok (.aload_n 0, 1) := by decide +kernel
theorem d_Rl_init_81 : decode (cd m_Rl_init) 81 = .ok (.sipush 180, 3) := by decide +kernel
theorem d_Rl_init_84 : decode (cd m_Rl_init) 84 = .ok (.newarray .int, 2) := by decide +kernel
theorem d_Rl_init_86 : decode (cd m_Rl_init) 86 = .ok (.putfield 39, 3) := by decide +kernel
theorem d_Rl_init_89 : decode (cd m_Rl_init) 89 = .ok (.aload_n 0, 1) := by decide +kernel
theorem d_Rl_init_90 : decode (cd m_Rl_init) 90 = .ok (.sipush 180, 3) := by decide +kernel
theorem d_Rl_init_93 : decode (cd m_Rl_init) 93 = .ok (.newarray .int, 2) := by decide +kernel
theorem d_Rl_init_95 : decode (cd m_Rl_init) 95 = .ok (.putfield 42, 3) := by decide +kernel
theorem d_Rl_init_98 : decode (cd m_Rl_init) 98 = .ok (.return_, 1) := by decide +kernel
theorem d_Rl_add_0 : decode (cd m_Rl_add) 0 = .ok (.aload_n 0, 1) := by decide +kernel
theorem d_Rl_add_1 : decode (cd m_Rl_add) 1 = .ok (.getfield 45, 3) := by decide +kernel
theorem d_Rl_add_4 : decode (cd m_Rl_add) 4 = .ok (.bipush 30, 2) := by decide +kernel
theorem d_Rl_add_6 : decode (cd m_Rl_add) 6 = .ok (.if_icmp .lt 4, 3) := by decide +kernel
theorem d_Rl_add_9 : decode (cd m_Rl_add) 9 = .ok (.return_, 1) := by decide +kernel
theorem d_Rl_add_10 : decode (cd m_Rl_add) 10 = .ok (.aload_n 0, 1) := by decide +kernel
theorem d_Rl_add_11 : decode (cd m_Rl_add) 11 = .ok (.getfield 9, 3) := by decide +kernel
theorem d_Rl_add_14 : decode (cd m_Rl_add) 14 = .ok (.aload_n 0, 1) := by decide +kernel
theorem d_Rl_add_15 : decode (cd m_Rl_add) 15 = .ok (.getfield 45, 3) := by decide +kernel
theorem d_Rl_add_18 : decode (cd m_Rl_add) 18 = .ok (.aload_n 1, 1) := by decide +kernel
theorem d_Rl_add_19 : decode (cd m_Rl_add) 19 = .ok (.getfield 49, 3) := by decide +kernel
theorem d_Rl_add_22 : decode (cd m_Rl_add) 22 = .ok (.getfield 55, 3) := by decide +kernel
theorem d_Rl_add_25 : decode (cd m_Rl_add) 25 = .ok (.iastore, 1) := by decide +kernel
theorem d_Rl_add_26 : decode (cd m_Rl_add) 26 = .ok (.aload_n 0, 1) := by decide +kernel
theorem d_Rl_add_27 : decode (cd m_Rl_add) 27 = .ok (.getfield 15, 3) := by decide +kernel
theorem d_Rl_add_30 : decode (cd m_Rl_add) 30 = .ok (.aload_n 0, 1) := by decide +kernel
theorem d_Rl_add_31 : decode (cd m_Rl_add) 31 = .ok (.getfield 45, 3) := by decide +kernel
theorem d_Rl_add_34 : decode (cd m_Rl_add) 34 = .ok (.aload_n 1, 1) := by decide +kernel
theorem d_Rl_add_35 : decode (cd m_Rl_add) 35 = .ok (.getfield 59, 3) := by decide +kernel
theorem d_Rl_add_38 : decode (cd m_Rl_add) 38 = .ok (.iastore, 1) := by decide +kernel
theorem d_Rl_add_39 : decode (cd m_Rl_add) 39 = .ok (.aload_n 0, 1) := by decide +kernel
theorem d_Rl_add_40 : decode (cd m_Rl_add) 40 = .ok (.getfield 18, 3) := by decide +kernel
theorem d_Rl_add_43 : decode (cd m_Rl_add) 43 = .ok (.aload_n 0, 1) := by decide +kernel
theorem d_Rl_add_44 : decode (cd m_Rl_add) 44 = .ok (.getfield 45, 3) := by decide +kernel
theorem d_Rl_add_47 : decode (cd m_Rl_add) 47 = .ok (.aload_n 1, 1) := by decide +kernel
theorem d_Rl_add_48 : decode (cd m_Rl_add) 48 = .ok (.getfield 62, 3) := by decide +kernel
theorem d_Rl_add_51 : decode (cd m_Rl_add) 51 = .ok (.iastore, 1) := by decide +kernel
theorem d_Rl_add_52 : decode (cd m_Rl_add) 52 = .ok (.aload_n 0, 1) := by decide +kernel
theorem d_Rl_add_53 : decode (cd m_Rl_add) 53 = .ok (.getfield 21, 3) := by decide +kernel
theorem d_Rl_add_56 : decode (cd m_Rl_add) 56 = .ok (.aload_n 0, 1) := by decide +kernel
theorem d_Rl_add_57 : decode (cd m_Rl_add) 57 = .ok (.getfield 45, 3) := by decide +kernel
theorem d_Rl_add_60 : decode (cd m_Rl_add) 60 = .ok (.aload_n 1, 1) := by decide +kernel
theorem d_Rl_add_61 : decode (cd m_Rl_add) 61 = .ok (.getfield 64, 3) := by decide +kernel
theorem d_Rl_add_64 : decode (cd m_Rl_add) 64 = .ok (.iastore, 1) := by decide +kernel
theorem d_Rl_add_65 : decode (cd m_Rl_add) 65 = .ok (.aload_n 0, 1) := by decide +kernel
theorem d_Rl_add_66 : decode (cd m_Rl_add) 66 = .ok (.getfield 24, 3) := by decide +kernel
theorem d_Rl_add_69 : decode (cd m_Rl_add) 69 = .ok (.aload_n 0, 1) := by decide +kernel
theorem d_Rl_add_70 : decode (cd m_Rl_add) 70 = .ok (.getfield 45, 3) := by decide +kernel
theorem d_Rl_add_73 : decode (cd m_Rl_add) 73 = .ok (.aload_n 1, 1) := by decide +kernel
theorem d_Rl_add_74 : decode (cd m_Rl_add) 74 = .ok (.getfield 67, 3) := by decide +kernel
theorem d_Rl_add_77 : decode (cd m_Rl_add) 77 = .ok (.iastore, 1) := by decide +kernel
theorem d_Rl_add_78 : decode (cd m_Rl_add) 78 = .ok (.iconst 0, 1) := by decide +kernel
theorem d_Rl_add_79 : decode (cd m_Rl_add) 79 = .ok (.istore_n 2, 1) := by decide +kernel
theorem d_Rl_add_80 : decode (cd m_Rl_add) 80 = .ok (.iload_n 2, 1) := by decide +kernel
theorem d_Rl_add_81 : decode (cd m_Rl_add) 81 = .ok (.aload_n 1, 1) := by decide +kernel
theorem d_Rl_add_82 : decode (cd m_Rl_add) 82 = .ok (.getfield 59, 3) := by decide +kernel
theorem d_Rl_add_85 : decode (cd m_Rl_add) 85 = .ok (.if_icmp .ge 100, 3) := by decide +kernel
theorem d_Rl_add_88 : decode (cd m_Rl_add) 88 = .ok (.aload_n 0, 1) := by decide +kernel
theorem d_Rl_add_89 : decode (cd m_Rl_add) 89 = .ok (.getfield 45, 3) := by decide +kernel
theorem d_Rl_add_92 : decode (cd m_Rl_add) 92 = .ok (.bipush 6, 2) := by decide +kernel
theorem d_Rl_add_94 : decode (cd m_Rl_add) 94 = .ok (.imul, 1) := by decide +kernel
theorem d_Rl_add_95 : decode (cd m_Rl_add) 95 = .ok (.iload_n 2, 1) := by decide +kernel
theorem d_Rl_add_96 : decode (cd m_Rl_add) 96 = .ok (.iadd, 1) := by decide +kernel
theorem d_Rl_add_97 : decode (cd m_Rl_add) 97 = .ok (.istore_n 3, 1) := by decide +kernel
theorem d_Rl_add_98 : decode (cd m_Rl_add) 98 = .ok (.aload_n 0, 1) := by decide +kernel
theorem d_Rl_add_99 : decode (cd m_Rl_add) 99 = .ok (.getfield 27, 3) := by decide +kernel
theorem d_Rl_add_102 : decode (cd m_Rl_add) 102 = .ok (.iload_n 3, 1) := by decide +kernel
theorem d_Rl_add_103 : decode (cd m_Rl_add) 103 = .ok (.aload_n 1, 1) := by decide +kernel
theorem d_Rl_add_104 : decode (cd m_Rl_add) 104 = .ok (.getfield 70, 3) := by decide +kernel
theorem d_Rl_add_107 : decode (cd m_Rl_add) 107 = .ok (.iload_n 2, 1) := by decide +kernel
theorem d_Rl_add_108 : decode (cd m_Rl_add) 108 = .ok (.aaload, 1) := by decide +kernel
theorem d_Rl_add_109 : decode (cd m_Rl_add) 109 = .ok (.getfield 74, 3) := by decide +kernel
theorem d_Rl_add_112 : decode (cd m_Rl_add) 112 = .ok (.iastore, 1) := by decide +kernel
theorem d_Rl_add_113 : decode (cd m_Rl_add) 113 = .ok (.aload_n 0, 1) := by decide +kernel
theorem d_Rl_add_114 : decode (cd m_Rl_add) 114 = .ok (.getfield 30, 3) := by decide +kernel
theorem d_Rl_add_117 : decode (cd m_Rl_add) 117 = .ok (.iload_n 3, 1) := by decide +kernel
theorem d_Rl_add_118 : decode (cd m_Rl_add) 118 = .ok (.aload_n 1, 1) := by decide +kernel
theorem d_Rl_add_119 : decode (cd m_Rl_add) 119 = .ok (.getfield 70, 3) := by decide +kernel
theorem d_Rl_add_122 : decode (cd m_Rl_add) 122 = .ok (.iload_n 2, 1) := by decide +kernel
theorem d_Rl_add_123 : decode (cd m_Rl_add) 123 = .ok (.aaload, 1) := by decide +kernel
theorem d_Rl_add_124 : decode (cd m_Rl_add) 124 = .ok (.getfield 55, 3) := by decide +kernel
theorem d_Rl_add_127 : decode (cd m_Rl_add) 127 = .ok (.iastore, 1) := by decide +kernel
theorem d_Rl_add_128 : decode (cd m_Rl_add) 128 = .ok (.aload_n 0, 1) := by decide +kernel
theorem d_Rl_add_129 : decode (cd m_Rl_add) 129 = .ok (.getfield 33, 3) := by decide +kernel
theorem d_Rl_add_132 : decode (cd m_Rl_add) 132 = .ok (.iload_n 3, 1) := by decide +kernel
theorem d_Rl_add_133 : decode (cd m_Rl_add) 133 = .ok (.aload_n 1, 1) := by decide +kernel
theorem d_Rl_add_134 : decode (cd m_Rl_add) 134 = .ok (.getfield 70, 3) := by decide +kernel
theorem d_Rl_add_137 : decode (cd m_Rl_add) 137 = .ok (.iload_n 2, 1) := by decide +kernel
theorem d_Rl_add_138 : decode (cd m_Rl_add) 138 = .ok (.aaload, 1) := by decide +kernel
theorem d_Rl_add_139 : decode (cd m_Rl_add) 139 = .ok (.getfield 77, 3) := by decide +kernel
theorem d_Rl_add_142 : decode (cd m_Rl_add) 142 = .ok (.iastore, 1) := by decide +kernel
theorem d_Rl_add_143 : decode (cd m_Rl_add) 143 = .ok (.aload_n 0, 1) := by decide +kernel
theorem d_Rl_add_144 : decode (cd m_Rl_add) 144 = .ok (.getfield 36, 3) := by decide +kernel
theorem d_Rl_add_147 : decode (cd m_Rl_add) 147 = .ok (.iload_n 3, 1) := by decide +kernel
theorem d_Rl_add_148 : decode (cd m_Rl_add) 148 = .ok (.aload_n 1, 1) := by decide +kernel
theorem d_Rl_add_149 : decode (cd m_Rl_add) 149 = .ok (.getfield 80, 3) := by decide +kernel
theorem d_Rl_add_152 : decode (cd m_Rl_add) 152 = .ok (.iload_n 2, 1) := by decide +kernel
theorem d_Rl_add_153 : decode (cd m_Rl_add) 153 = .ok (.iaload, 1) := by decide +kernel
theorem d_Rl_add_154 : decode (cd m_Rl_add) 154 = .ok (.iastore, 1) := by decide +kernel
theorem d_Rl_add_155 : decode (cd m_Rl_add) 155 = .ok (.aload_n 0, 1) := by decide +kernel
theorem d_Rl_add_156 : decode (cd m_Rl_add) 156 = .ok (.getfield 39, 3) := by decide +kernel
theorem d_Rl_add_159 : decode (cd m_Rl_add) 159 = .ok (.iload_n 3, 1) := by decide +kernel
theorem d_Rl_add_160 : decode (cd m_Rl_add) 160 = .ok (.aload_n 1, 1) := by decide +kernel
theorem d_Rl_add_161 : decode (cd m_Rl_add) 161 = .ok (.getfield 81, 3) := by decide +kernel
theorem d_Rl_add_164 : decode (cd m_Rl_add) 164 = .ok (.iload_n 2, 1) := by decide +kernel
theorem d_Rl_add_165 : decode (cd m_Rl_add) 165 = .ok (.iaload, 1) := by decide +kernel
theorem d_Rl_add_166 : decode (cd m_Rl_add) 166 = .ok (.iastore, 1) := by decide +kernel
theorem d_Rl_add_167 : decode (cd m_Rl_add) 167 = .ok (.aload_n 0, 1) := by decide +kernel
theorem d_Rl_add_168 : decode (cd m_Rl_add) 168 = .ok (.getfield 42, 3) := by decide +kernel
theorem d_Rl_add_171 : decode (cd m_Rl_add) 171 = .ok (.iload_n 3, 1) := by decide +kernel
theorem d_Rl_add_172 : decode (cd m_Rl_add) 172 = .ok (.aload_n 1, 1) := by decide +kernel
theorem d_Rl_add_173 : decode (cd m_Rl_add) 173 = .ok (.getfield 82, 3) := by decide +kernel
theorem d_Rl_add_176 : decode (cd m_Rl_add) 176 = .ok (.iload_n 2, 1) := by decide +kernel
theorem d_Rl_add_177 : decode (cd m_Rl_add) 177 = .ok (.iaload, 1) := by decide +kernel
theorem d_Rl_add_178 : decode (cd m_Rl_add) 178 = .ok (.iastore, 1) := by decide +kernel
theorem d_Rl_add_179 : decode (cd m_Rl_add) 179 = .ok (.iinc 2 1, 3) := by decide +kernel
theorem d_Rl_add_182 : decode (cd m_Rl_add) 182 = .ok (.goto (-102), 3) := by decide +kernel
theorem d_Rl_add_185 : decode (cd m_Rl_add) 185 = .ok (.aload_n 0, 1) := by decide +kernel
theorem d_Rl_add_186 : decode (cd m_Rl_add) 186 = .ok (.dup, 1) := by decide +kernel
theorem d_Rl_add_187 : decode (cd m_Rl_add) 187 = .ok (.getfield 45, 3) := by decide +kernel
theorem d_Rl_add_190 : decode (cd m_Rl_add) 190 = .ok (.iconst 1, 1) := by decide +kernel
theorem d_Rl_add_191 : decode (cd m_Rl_add) 191 = .ok (.iadd, 1) := by decide +kernel
theorem d_Rl_add_192 : decode (cd m_Rl_add) 192 = .ok (.putfield 45, 3) := by decide +kernel
theorem d_Rl_add_195 : decode (cd m_Rl_add) 195 = .ok (.return_, 1) := by decide +kernel
theorem d_Rl_waits_0 : decode (cd m_Rl_waits) 0 = .ok (.aload_n 0, 1) := by decide +kernel
theorem d_Rl_waits_1 : decode (cd m_Rl_waits) 1 = .ok (.getfield 21, 3) := by decide +kernel
theorem d_Rl_waits_4 : decode (cd m_Rl_waits) 4 = .ok (.iload_n 1, 1) := by decide +kernel
theorem d_Rl_waits_5 : decode (cd m_Rl_waits) 5 = .ok (.iaload, 1) := by decide +kernel
theorem d_Rl_waits_6 : decode (cd m_Rl_waits) 6 = .ok (.ifCond .gt 13, 3) := by decide +kernel
theorem d_Rl_waits_9 : decode (cd m_Rl_waits) 9 = .ok (.aload_n 0, 1) := by decide +kernel
theorem d_Rl_waits_10 : decode (cd m_Rl_waits) 10 = .ok (.getfield 27, 3) := by decide +kernel
theorem d_Rl_waits_13 : decode (cd m_Rl_waits) 13 = .ok (.iload_n 2, 1) := by decide +kernel
theorem d_Rl_waits_14 : decode (cd m_Rl_waits) 14 = .ok (.iaload, 1) := by decide +kernel
theorem d_Rl_waits_15 : decode (cd m_Rl_waits) 15 = .ok (.iconst 1, 1) := by decide +kernel
theorem d_Rl_waits_16 : decode (cd m_Rl_waits) 16 = .ok (.if_icmp .ne 7, 3) := by decide +kernel
theorem d_Rl_waits_19 : decode (cd m_Rl_waits) 19 = .ok (.iconst 1, 1) := by decide +kernel
theorem d_Rl_waits_20 : decode (cd m_Rl_waits) 20 = .ok (.goto 4, 3) := by decide +kernel
theorem d_Rl_waits_23 : decode (cd m_Rl_waits) 23 = .ok (.iconst 0, 1) := by decide +kernel
theorem d_Rl_waits_24 : decode (cd m_Rl_waits) 24 = .ok (.ireturn, 1) := by decide +kernel

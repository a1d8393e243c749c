/-! decode rows (by program) -/
theorem d_Rd_readTerm_69 : decode (cd m_Rd_readTerm) 69 = .ok (.ifCond .ne 18, 3) := by decide +kernel
theorem d_Rd_readTerm_72 : decode (cd m_Rd_readTerm) 72 = .ok (.aload_n 1, 1) := by decide +kernel
theorem d_Rd_readTerm_73 : decode (cd m_Rd_readTerm) 73 = .ok (.ldc2_w 216, 3) := by decide +kernel
theorem d_Rd_readTerm_76 : decode (cd m_Rd_readTerm) 76 = .ok (.aload_n 0, 1) := by decide +kernel
theorem d_Rd_readTerm_77 : decode (cd m_Rd_readTerm) 77 = .ok (.getfield 121, 3) := by decide +kernel
theorem d_Rd_readTerm_80 : decode (cd m_Rd_readTerm) 80 = .ok (.ladd, 1) := by decide +kernel
theorem d_Rd_readTerm_81 : decode (cd m_Rd_readTerm) 81 = .ok (.invokevirtual 213, 3) := by decide +kernel
theorem d_Rd_readTerm_84 : decode (cd m_Rd_readTerm) 84 = .ok (.goto 67, 3) := by decide +kernel
theorem d_Rd_readTerm_87 : decode (cd m_Rd_readTerm) 87 = .ok (.aload_n 0, 1) := by decide +kernel
theorem d_Rd_readTerm_88 : decode (cd m_Rd_readTerm) 88 = .ok (.getfield 60, 3) := by decide +kernel
theorem d_Rd_readTerm_91 : decode (cd m_Rd_readTerm) 91 = .ok (.iconst 3, 1) := by decide +kernel
theorem d_Rd_readTerm_92 : decode (cd m_Rd_readTerm) 92 = .ok (.if_icmp .ne 50, 3) := by decide +kernel
theorem d_Rd_readTerm_95 : decode (cd m_Rd_readTerm) 95 = .ok (.iload_n 2, 1) := by decide +kernel
theorem d_Rd_readTerm_96 : decode (cd m_Rd_readTerm) 96 = .ok (.ifCond .ne 46, 3) := by decide +kernel
theorem d_Rd_readTerm_99 : decode (cd m_Rd_readTerm) 99 = .ok (.aload_n 0, 1) := by decide +kernel
theorem d_Rd_readTerm_100 : decode (cd m_Rd_readTerm) 100 = .ok (.getfield 21, 3) := by decide +kernel
theorem d_Rd_readTerm_103 : decode (cd m_Rd_readTerm) 103 = .ok (.aload_n 0, 1) := by decide +kernel
theorem d_Rd_readTerm_104 : decode (cd m_Rd_readTerm) 104 = .ok (.getfield 121, 3) := by decide +kernel
theorem d_Rd_readTerm_107 : decode (cd m_Rd_readTerm) 107 = .ok (.aload_n 0, 1) := by decide +kernel
theorem d_Rd_readTerm_108 : decode (cd m_Rd_readTerm) 108 = .ok (.getfield 63, 3) := by decide +kernel
theorem d_Rd_readTerm_111 : decode (cd m_Rd_readTerm) 111 = .ok (.invokevirtual 218, 3) := by decide +kernel
theorem d_Rd_readTerm_114 : decode (cd m_Rd_readTerm) 114 = .ok (.istore_n 3, 1) := by decide +kernel
theorem d_Rd_readTerm_115 : decode (cd m_Rd_readTerm) 115 = .ok (.iload_n 3, 1) := by decide +kernel
theorem d_Rd_readTerm_116 : decode (cd m_Rd_readTerm) 116 = .ok (.iconst (-1), 1) := by decide +kernel
theorem d_Rd_readTerm_117 : decode (cd m_Rd_readTerm) 117 = .ok (.if_icmp .ne 12, 3) := by decide +kernel
theorem d_Rd_readTerm_120 : decode (cd m_Rd_readTerm) 120 = .ok (.aload_n 0, 1) := by decide +kernel
theorem d_Rd_readTerm_121 : decode (cd m_Rd_readTerm) 121 = .ok (.aload_n 0, 1) := by decide +kernel
theorem d_Rd_readTerm_122 : decode (cd m_Rd_readTerm) 122 = .ok (.getfield 63, 3) := by decide +kernel
theorem d_Rd_readTerm_125 : decode (cd m_Rd_readTerm) 125 = .ok (.invokevirtual 125, 3) := by decide +kernel
theorem d_Rd_readTerm_128 : decode (cd m_Rd_readTerm) 128 = .ok (.ireturn, 1) := by decide +kernel
theorem d_Rd_readTerm_129 : decode (cd m_Rd_readTerm) 129 = .ok (.aload_n 1, 1) := by decide +kernel
theorem d_Rd_readTerm_130 : decode (cd m_Rd_readTerm) 130 = .ok (.ldc2_w 222, 3) := by decide +kernel
theorem d_Rd_readTerm_133 : decode (cd m_Rd_readTerm) 133 = .ok (.iload_n 3, 1) := by decide +kernel
theorem d_Rd_readTerm_134 : decode (cd m_Rd_readTerm) 134 = .ok (.i2l, 1) := by decide +kernel
theorem d_Rd_readTerm_135 : decode (cd m_Rd_readTerm) 135 = .ok (.ladd, 1) := by decide +kernel
theorem d_Rd_readTerm_136 : decode (cd m_Rd_readTerm) 136 = .ok (.invokevirtual 213, 3) := by decide +kernel
theorem d_Rd_readTerm_139 : decode (cd m_Rd_readTerm) 139 = .ok (.goto 12, 3) := by decide +kernel
theorem d_Rd_readTerm_142 : decode (cd m_Rd_readTerm) 142 = .ok (.aload_n 0, 1) := by decide +kernel
theorem d_Rd_readTerm_143 : decode (cd m_Rd_readTerm) 143 = .ok (.aload_n 0, 1) := by decide +kernel
theorem d_Rd_readTerm_144 : decode (cd m_Rd_readTerm) 144 = .ok (.getfield 63, 3) := by decide +kernel
theorem d_Rd_readTerm_147 : decode (cd m_Rd_readTerm) 147 = .ok (.invokevirtual 125, 3) := by decide +kernel
theorem d_Rd_readTerm_150 : decode (cd m_Rd_readTerm) 150 = .ok (.ireturn, 1) := by decide +kernel
theorem d_Rd_readTerm_151 : decode (cd m_Rd_readTerm) 151 = .ok (.aload_n 0, 1) := by decide +kernel
theorem d_Rd_readTerm_152 : decode (cd m_Rd_readTerm) 152 = .ok (.aload_n 0, 1) := by decide +kernel
theorem d_Rd_readTerm_153 : decode (cd m_Rd_readTerm) 153 = .ok (.getfield 107, 3) := by decide +kernel
theorem d_Rd_readTerm_156 : decode (cd m_Rd_readTerm) 156 = .ok (.iconst 1, 1) := by decide +kernel
theorem d_Rd_readTerm_157 : decode (cd m_Rd_readTerm) 157 = .ok (.iadd, 1) := by decide +kernel
theorem d_Rd_readTerm_158 : decode (cd m_Rd_readTerm) 158 = .ok (.invokevirtual 55, 3) := by decide +kernel
theorem d_Rd_readTerm_161 : decode (cd m_Rd_readTerm) 161 = .ok (.iconst 1, 1) := by decide +kernel
theorem d_Rd_readTerm_162 : decode (cd m_Rd_readTerm) 162 = .ok (.ireturn, 1) := by decide +kernel

/-! decode rows (by program) -/
theorem d_JI_bitCount_0 : decode (cd m_JI_bitCount) 0 = .ok (.iload_n 0, 1) := by decide +kernel
theorem d_JI_bitCount_1 : decode (cd m_JI_bitCount) 1 = .ok (.iload_n 0, 1) := by decide +kernel
theorem d_JI_bitCount_2 : decode (cd m_JI_bitCount) 2 = .ok (.iconst 1, 1) := by decide +kernel
theorem d_JI_bitCount_3 : decode (cd m_JI_bitCount) 3 = .ok (.iushr, 1) := by decide +kernel
theorem d_JI_bitCount_4 : decode (cd m_JI_bitCount) 4 = .ok (.ldc_w 265, 3) := by decide +kernel
theorem d_JI_bitCount_7 : decode (cd m_JI_bitCount) 7 = .ok (.iand, 1) := by decide +kernel
theorem d_JI_bitCount_8 : decode (cd m_JI_bitCount) 8 = .ok (.isub, 1) := by decide +kernel
theorem d_JI_bitCount_9 : decode (cd m_JI_bitCount) 9 = .ok (.istore_n 0, 1) := by decide +kernel
theorem d_JI_bitCount_10 : decode (cd m_JI_bitCount) 10 = .ok (.iload_n 0, 1) := by decide +kernel
theorem d_JI_bitCount_11 : decode (cd m_JI_bitCount) 11 = .ok (.ldc_w 266, 3) := by decide +kernel
theorem d_JI_bitCount_14 : decode (cd m_JI_bitCount) 14 = .ok (.iand, 1) := by decide +kernel
theorem d_JI_bitCount_15 : decode (cd m_JI_bitCount) 15 = .ok (.iload_n 0, 1) := by decide +kernel
theorem d_JI_bitCount_16 : decode (cd m_JI_bitCount) 16 = .ok (.iconst 2, 1) := by decide +kernel
theorem d_JI_bitCount_17 : decode (cd m_JI_bitCount) 17 = .ok (.iushr, 1) := by decide +kernel
theorem d_JI_bitCount_18 : decode (cd m_JI_bitCount) 18 = .ok (.ldc_w 266, 3) := by decide +kernel
theorem d_JI_bitCount_21 : decode (cd m_JI_bitCount) 21 = .ok (.iand, 1) := by decide +kernel
theorem d_JI_bitCount_22 : decode (cd m_JI_bitCount) 22 = .ok (.iadd, 1) := by decide +kernel
theorem d_JI_bitCount_23 : decode (cd m_JI_bitCount) 23 = .ok (.istore_n 0, 1) := by decide +kernel
theorem d_JI_bitCount_24 : decode (cd m_JI_bitCount) 24 = .ok (.iload_n 0, 1) := by decide +kernel
theorem d_JI_bitCount_25 : decode (cd m_JI_bitCount) 25 = .ok (.iload_n 0, 1) := by decide +kernel
theorem d_JI_bitCount_26 : decode (cd m_JI_bitCount) 26 = .ok (.iconst 4, 1) := by decide +kernel
theorem d_JI_bitCount_27 : decode (cd m_JI_bitCount) 27 = .ok (.iushr, 1) := by decide +kernel
theorem d_JI_bitCount_28 : decode (cd m_JI_bitCount) 28 = .ok (.iadd, 1) := by decide +kernel
theorem d_JI_bitCount_29 : decode (cd m_JI_bitCount) 29 = .ok (.ldc_w 267, 3) := by decide +kernel
theorem d_JI_bitCount_32 : decode (cd m_JI_bitCount) 32 = .ok (.iand, 1) := by decide +kernel
theorem d_JI_bitCount_33 : decode (cd m_JI_bitCount) 33 = .ok (.istore_n 0, 1) := by decide +kernel
theorem d_JI_bitCount_34 : decode (cd m_JI_bitCount) 34 = .ok (.iload_n 0, 1) := by decide +kernel
theorem d_JI_bitCount_35 : decode (cd m_JI_bitCount) 35 = .ok (.iload_n 0, 1) := by decide +kernel
theorem d_JI_bitCount_36 : decode (cd m_JI_bitCount) 36 = .ok (.bipush 8, 2) := by decide +kernel
theorem d_JI_bitCount_38 : decode (cd m_JI_bitCount) 38 = .ok (.iushr, 1) := by decide +kernel
theorem d_JI_bitCount_39 : decode (cd m_JI_bitCount) 39 = .ok (.iadd, 1) := by decide +kernel
theorem d_JI_bitCount_40 : decode (cd m_JI_bitCount) 40 = .ok (.istore_n 0, 1) := by decide +kernel
theorem d_JI_bitCount_41 : decode (cd m_JI_bitCount) 41 = .ok (.iload_n 0, 1) := by decide +kernel
theorem d_JI_bitCount_42 : decode (cd m_JI_bitCount) 42 = .ok (.iload_n 0, 1) := by decide +kernel
theorem d_JI_bitCount_43 : decode (cd m_JI_bitCount) 43 = .ok (.bipush 16, 2) := by decide +kernel
theorem d_JI_bitCount_45 : decode (cd m_JI_bitCount) 45 = .ok (.iushr, 1) := by decide +kernel
theorem d_JI_bitCount_46 : decode (cd m_JI_bitCount) 46 = .ok (.iadd, 1) := by decide +kernel
theorem d_JI_bitCount_47 : decode (cd m_JI_bitCount) 47 = .ok (.istore_n 0, 1) := by decide +kernel
theorem d_JI_bitCount_48 : decode (cd m_JI_bitCount) 48 = .ok (.iload_n 0, 1) := by decide +kernel
theorem d_JI_bitCount_49 : decode (cd m_JI_bitCount) 49 = .ok (.bipush 63, 2) := by decide +kernel
theorem d_JI_bitCount_51 : decode (cd m_JI_bitCount) 51 = .ok (.iand, 1) := by decide +kernel
theorem d_JI_bitCount_52 : decode (cd m_JI_bitCount) 52 = .ok (.ireturn, 1) := by decide +kernel

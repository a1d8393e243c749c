/-! decode rows (by program) -/
theorem d_Tk_init_0 : decode (cd m_Tk_init) 0 = .ok (.aload_n 0, 1) := by decide +kernel
theorem d_Tk_init_1 : decode (cd m_Tk_init) 1 = .ok (.invokespecial 3, 3) := by decide +kernel
theorem d_Tk_init_4 : decode (cd m_Tk_init) 4 = .ok (.aload_n 0, 1) := by decide +kernel
theorem d_Tk_init_5 : decode (cd m_Tk_init) 5 = .ok (.sipush 601, 3) := by decide +kernel
theorem d_Tk_init_8 : decode (cd m_Tk_init) 8 = .ok (.newarray .int, 2) := by decide +kernel
theorem d_Tk_init_10 : decode (cd m_Tk_init) 10 = .ok (.putfield 9, 3) := by decide +kernel
theorem d_Tk_init_13 : decode (cd m_Tk_init) 13 = .ok (.aload_n 0, 1) := by decide +kernel
theorem d_Tk_init_14 : decode (cd m_Tk_init) 14 = .ok (.sipush 601, 3) := by decide +kernel
theorem d_Tk_init_17 : decode (cd m_Tk_init) 17 = .ok (.newarray .int, 2) := by decide +kernel
theorem d_Tk_init_19 : decode (cd m_Tk_init) 19 = .ok (.putfield 15, 3) := by decide +kernel
theorem d_Tk_init_22 : decode (cd m_Tk_init) 22 = .ok (.aload_n 0, 1) := by decide +kernel
theorem d_Tk_init_23 : decode (cd m_Tk_init) 23 = .ok (.sipush 601, 3) := by decide +kernel
theorem d_Tk_init_26 : decode (cd m_Tk_init) 26 = .ok (.newarray .long, 2) := by decide +kernel
theorem d_Tk_init_28 : decode (cd m_Tk_init) 28 = .ok (.putfield 18, 3) := by decide +kernel
theorem d_Tk_init_31 : decode (cd m_Tk_init) 31 = .ok (.return_, 1) := by decide +kernel
theorem d_Tk_cut_0 : decode (cd m_Tk_cut) 0 = .ok (.aload_n 0, 1) := by decide +kernel
theorem d_Tk_cut_1 : decode (cd m_Tk_cut) 1 = .ok (.iconst 0, 1) := by decide +kernel
theorem d_Tk_cut_2 : decode (cd m_Tk_cut) 2 = .ok (.putfield 22, 3) := by decide +kernel
theorem d_Tk_cut_5 : decode (cd m_Tk_cut) 5 = .ok (.iconst 0, 1) := by decide +kernel
theorem d_Tk_cut_6 : decode (cd m_Tk_cut) 6 = .ok (.istore_n 2, 1) := by decide +kernel
theorem d_Tk_cut_7 : decode (cd m_Tk_cut) 7 = .ok (.iconst 0, 1) := by decide +kernel
theorem d_Tk_cut_8 : decode (cd m_Tk_cut) 8 = .ok (.istore_n 3, 1) := by decide +kernel
theorem d_Tk_cut_9 : decode (cd m_Tk_cut) 9 = .ok (.iload_n 3, 1) := by decide +kernel
theorem d_Tk_cut_10 : decode (cd m_Tk_cut) 10 = .ok (.aload_n 1, 1) := by decide +kernel
theorem d_Tk_cut_11 : decode (cd m_Tk_cut) 11 = .ok (.getfield 26, 3) := by decide +kernel
theorem d_Tk_cut_14 : decode (cd m_Tk_cut) 14 = .ok (.if_icmp .ge 97, 3) := by decide +kernel
theorem d_Tk_cut_17 : decode (cd m_Tk_cut) 17 = .ok (.iload_n 3, 1) := by decide +kernel
theorem d_Tk_cut_18 : decode (cd m_Tk_cut) 18 = .ok (.iload_n 2, 1) := by decide +kernel
theorem d_Tk_cut_19 : decode (cd m_Tk_cut) 19 = .ok (.if_icmp .lt 86, 3) := by decide +kernel
theorem d_Tk_cut_22 : decode (cd m_Tk_cut) 22 = .ok (.aload_n 1, 1) := by decide +kernel
theorem d_Tk_cut_23 : decode (cd m_Tk_cut) 23 = .ok (.iload_n 3, 1) := by decide +kernel
theorem d_Tk_cut_24 : decode (cd m_Tk_cut) 24 = .ok (.invokevirtual 31, 3) := by decide +kernel
theorem d_Tk_cut_27 : decode (cd m_Tk_cut) 27 = .ok (.bipush 32, 2) := by decide +kernel
theorem d_Tk_cut_29 : decode (cd m_Tk_cut) 29 = .ok (.if_icmp .eq 76, 3) := by decide +kernel
theorem d_Tk_cut_32 : decode (cd m_Tk_cut) 32 = .ok (.aload_n 1, 1) := by decide +kernel
theorem d_Tk_cut_33 : decode (cd m_Tk_cut) 33 = .ok (.iload_n 3, 1) := by decide +kernel
theorem d_Tk_cut_34 : decode (cd m_Tk_cut) 34 = .ok (.invokevirtual 35, 3) := by decide +kernel
theorem d_Tk_cut_37 : decode (cd m_Tk_cut) 37 = .ok (.tableswitch 61 1 4 #[31, 41, 61, 51], 31) := by decide +kernel
theorem d_Tk_cut_68 : decode (cd m_Tk_cut) 68 = .ok (.aload_n 0, 1) := by decide +kernel
theorem d_Tk_cut_69 : decode (cd m_Tk_cut) 69 = .ok (.aload_n 1, 1) := by decide +kernel
theorem d_Tk_cut_70 : decode (cd m_Tk_cut) 70 = .ok (.iload_n 3, 1) := by decide +kernel
theorem d_Tk_cut_71 : decode (cd m_Tk_cut) 71 = .ok (.invokevirtual 38, 3) := by decide +kernel
theorem d_Tk_cut_74 : decode (cd m_Tk_cut) 74 = .ok (.istore_n 2, 1) := by decide +kernel
theorem d_Tk_cut_75 : decode (cd m_Tk_cut) 75 = .ok (.goto 30, 3) := by decide +kernel
theorem d_Tk_cut_78 : decode (cd m_Tk_cut) 78 = .ok (.aload_n 0, 1) := by decide +kernel
theorem d_Tk_cut_79 : decode (cd m_Tk_cut) 79 = .ok (.aload_n 1, 1) := by decide +kernel
theorem d_Tk_cut_80 : decode (cd m_Tk_cut) 80 = .ok (.iload_n 3, 1) := by decide +kernel
theorem d_Tk_cut_81 : decode (cd m_Tk_cut) 81 = .ok (.invokevirtual 42, 3) := by decide +kernel
theorem d_Tk_cut_84 : decode (cd m_Tk_cut) 84 = .ok (.istore_n 2, 1) := by decide +kernel
theorem d_Tk_cut_85 : decode (cd m_Tk_cut) 85 = .ok (.goto 20, 3) := by decide +kernel
theorem d_Tk_cut_88 : decode (cd m_Tk_cut) 88 = .ok (.aload_n 0, 1) := by decide +kernel
theorem d_Tk_cut_89 : decode (cd m_Tk_cut) 89 = .ok (.aload_n 1, 1) := by decide +kernel
theorem d_Tk_cut_90 : decode (cd m_Tk_cut) 90 = .ok (.iload_n 3, 1) := by decide +kernel
theorem d_Tk_cut_91 : decode (cd m_Tk_cut) 91 = .ok (.invokevirtual 45, 3) := by decide +kernel
theorem d_Tk_cut_94 : decode (cd m_Tk_cut) 94 = .ok (.istore_n 2, 1) := by decide +kernel
theorem d_Tk_cut_95 : decode (cd m_Tk_cut) 95 = .ok (.goto 10, 3) := by decide +kernel
theorem d_Tk_cut_98 : decode (cd m_Tk_cut) 98 = .ok (.aload_n 0, 1) := by decide +kernel
theorem d_Tk_cut_99 : decode (cd m_Tk_cut) 99 = .ok (.aload_n 1, 1) := by decide +kernel
theorem d_Tk_cut_100 : decode (cd m_Tk_cut) 100 = .ok (.iload_n 3, 1) := by decide +kernel
theorem d_Tk_cut_101 : decode (cd m_Tk_cut) 101 = .ok (.invokevirtual 48, 3) := by decide +kernel
theorem d_Tk_cut_104 : decode (cd m_Tk_cut) 104 = .ok (.istore_n 2, 1) := by decide +kernel
theorem d_Tk_cut_105 : decode (cd m_Tk_cut) 105 = .ok (.iinc 3 1, 3) := by decide +kernel
theorem d_Tk_cut_108 : decode (cd m_Tk_cut) 108 = .ok (.goto (-99), 3) := by decide +kernel
theorem d_Tk_cut_111 : decode (cd m_Tk_cut) 111 = .ok (.aload_n 0, 1) := by decide +kernel
theorem d_Tk_cut_112 : decode (cd m_Tk_cut) 112 = .ok (.iconst 0, 1) := by decide +kernel
theorem d_Tk_cut_113 : decode (cd m_Tk_cut) 113 = .ok (.aload_n 1, 1) := by decide +kernel
theorem d_Tk_cut_114 : decode (cd m_Tk_cut) 114 = .ok (.getfield 26, 3) := by decide +kernel
theorem d_Tk_cut_117 : decode (cd m_Tk_cut) 117 = .ok (.lconst 0, 1) := by decide +kernel
theorem d_Tk_cut_118 : decode (cd m_Tk_cut) 118 = .ok (.invokevirtual 51, 3) := by decide +kernel
theorem d_Tk_cut_121 : decode (cd m_Tk_cut) 121 = .ok (.return_, 1) := by decide +kernel
theorem d_Tk_add_0 : decode (cd m_Tk_add) 0 = .ok (.aload_n 0, 1) := by decide +kernel
theorem d_Tk_add_1 : decode (cd m_Tk_add) 1 = .ok (.getfield 22, 3) := by decide +kernel
theorem d_Tk_add_4 : decode (cd m_Tk_add) 4 = .ok (.aload_n 0, 1) := by decide +kernel
theorem d_Tk_add_5 : decode (cd m_Tk_add) 5 = .ok (.getfield 9, 3) := by decide +kernel
theorem d_Tk_add_8 : decode (cd m_Tk_add) 8 = .ok (.arraylength, 1) := by decide +kernel
theorem d_Tk_add_9 : decode (cd m_Tk_add) 9 = .ok (.if_icmp .ge 43, 3) := by decide +kernel
theorem d_Tk_add_12 : decode (cd m_Tk_add) 12 = .ok (.aload_n 0, 1) := by decide +kernel
theorem d_Tk_add_13 : decode (cd m_Tk_add) 13 = .ok (.getfield 9, 3) := by decide +kernel
theorem d_Tk_add_16 : decode (cd m_Tk_add) 16 = .ok (.aload_n 0, 1) := by decide +kernel
theorem d_Tk_add_17 : decode (cd m_Tk_add) 17 = .ok (.getfield 22, 3) := by decide +kernel
theorem d_Tk_add_20 : decode (cd m_Tk_add) 20 = .ok (.iload_n 1, 1) := by decide +kernel
theorem d_Tk_add_21 : decode (cd m_Tk_add) 21 = .ok (.iastore, 1) := by decide +kernel
theorem d_Tk_add_22 : decode (cd m_Tk_add) 22 = .ok (.aload_n 0, 1) := by decide +kernel
theorem d_Tk_add_23 : decode (cd m_Tk_add) 23 = .ok (.getfield 15, 3) := by decide +kernel
theorem d_Tk_add_26 : decode (cd m_Tk_add) 26 = .ok (.aload_n 0, 1) := by decide +kernel
theorem d_Tk_add_27 : decode (cd m_Tk_add) 27 = .ok (.getfield 22, 3) := by decide +kernel
theorem d_Tk_add_30 : decode (cd m_Tk_add) 30 = .ok (.iload_n 2, 1) := by decide +kernel
theorem d_Tk_add_31 : decode (cd m_Tk_add) 31 = .ok (.iastore, 1) := by decide +kernel
theorem d_Tk_add_32 : decode (cd m_Tk_add) 32 = .ok (.aload_n 0, 1) := by decide +kernel
theorem d_Tk_add_33 : decode (cd m_Tk_add) 33 = .ok (.getfield 18, 3) := by decide +kernel
theorem d_Tk_add_36 : decode (cd m_Tk_add) 36 = .ok (.aload_n 0, 1) := by decide +kernel
theorem d_Tk_add_37 : decode (cd m_Tk_add) 37 = .ok (.getfield 22, 3) := by decide +kernel
theorem d_Tk_add_40 : decode (cd m_Tk_add) 40 = .ok (.lload_n 3, 1) := by decide +kernel
theorem d_Tk_add_41 : decode (cd m_Tk_add) 41 = .ok (.lastore, 1) := by decide +kernel
theorem d_Tk_add_42 : decode (cd m_Tk_add) 42 = .ok (.aload_n 0, 1) := by decide +kernel
theorem d_Tk_add_43 : decode (cd m_Tk_add) 43 = .ok (.dup, 1) := by decide +kernel
theorem d_Tk_add_44 : decode (cd m_Tk_add) 44 = .ok (.getfield 22, 3) := by decide +kernel
theorem d_Tk_add_47 : decode (cd m_Tk_add) 47 = .ok (.iconst 1, 1) := by decide +kernel
theorem d_Tk_add_48 : decode (cd m_Tk_add) 48 = .ok (.iadd, 1) := by decide +kernel
theorem d_Tk_add_49 : decode (cd m_Tk_add) 49 = .ok (.putfield 22, 3) := by decide +kernel
theorem d_Tk_add_52 : decode (cd m_Tk_add) 52 = .ok (.return_, 1) := by decide +kernel
theorem d_Tk_cutName_0 : decode (cd m_Tk_cutName) 0 = .ok (.aload_n 1, 1) := by decide +kernel
theorem d_Tk_cutName_1 : decode (cd m_Tk_cutName) 1 = .ok (.iload_n 2, 1) := by decide +kernel
theorem d_Tk_cutName_2 : decode (cd m_Tk_cutName) 2 = .ok (.iconst 5, 1) := by decide +kernel
theorem d_Tk_cutName_3 : decode (cd m_Tk_cutName) 3 = .ok (.invokevirtual 55, 3) := by decide +kernel
theorem d_Tk_cutName_6 : decode (cd m_Tk_cutName) 6 = .ok (.istore_n 3, 1) := by decide +kernel
theorem d_Tk_cutName_7 : decode (cd m_Tk_cutName) 7 = .ok (.aload_n 1, 1) := by decide +kernel
theorem d_Tk_cutName_8 : decode (cd m_Tk_cutName) 8 = .ok (.iload_n 2, 1) := by decide +kernel
theorem d_Tk_cutName_9 : decode (cd m_Tk_cutName) 9 = .ok (.iload_n 3, 1) := by decide +kernel
theorem d_Tk_cutName_10 : decode (cd m_Tk_cutName) 10 = .ok (.invokestatic 59, 3) := by decide +kernel
theorem d_Tk_cutName_13 : decode (cd m_Tk_cutName) 13 = .ok (.istore 4, 2) := by decide +kernel
theorem d_Tk_cutName_15 : decode (cd m_Tk_cutName) 15 = .ok (.iload_n 3, 1) := by decide +kernel
theorem d_Tk_cutName_16 : decode (cd m_Tk_cutName) 16 = .ok (.iload_n 2, 1) := by decide +kernel
theorem d_Tk_cutName_17 : decode (cd m_Tk_cutName) 17 = .ok (.isub, 1) := by decide +kernel
theorem d_Tk_cutName_18 : decode (cd m_Tk_cutName) 18 = .ok (.bipush 6, 2) := by decide +kernel
theorem d_Tk_cutName_20 : decode (cd m_Tk_cutName) 20 = .ok (.if_icmp .le 13, 3) := by decide +kernel
theorem d_Tk_cutName_23 : decode (cd m_Tk_cutName) 23 = .ok (.aload_n 0, 1) := by decide +kernel
theorem d_Tk_cutName_24 : decode (cd m_Tk_cutName) 24 = .ok (.iconst 1, 1) := by decide +kernel
theorem d_Tk_cutName_25 : decode (cd m_Tk_cutName) 25 = .ok (.iload_n 2, 1) := by decide +kernel
theorem d_Tk_cutName_26 : decode (cd m_Tk_cutName) 26 = .ok (.lconst 0, 1) := by decide +kernel
theorem d_Tk_cutName_27 : decode (cd m_Tk_cutName) 27 = .ok (.invokevirtual 51, 3) := by decide +kernel
theorem d_Tk_cutName_30 : decode (cd m_Tk_cutName) 30 = .ok (.goto 55, 3) := by decide +kernel
theorem d_Tk_cutName_33 : decode (cd m_Tk_cutName) 33 = .ok (.iload 4, 2) := by decide +kernel
theorem d_Tk_cutName_35 : decode (cd m_Tk_cutName) 35 = .ok (.ifCond .le 16, 3) := by decide +kernel
theorem d_Tk_cutName_38 : decode (cd m_Tk_cutName) 38 = .ok (.aload_n 0, 1) := by decide +kernel
theorem d_Tk_cutName_39 : decode (cd m_Tk_cutName) 39 = .ok (.bipush 17, 2) := by decide +kernel
theorem d_Tk_cutName_41 : decode (cd m_Tk_cutName) 41 = .ok (.iload_n 2, 1) := by decide +kernel
theorem d_Tk_cutName_42 : decode (cd m_Tk_cutName) 42 = .ok (.iload 4, 2) := by decide +kernel
theorem d_Tk_cutName_44 : decode (cd m_Tk_cutName) 44 = .ok (.i2l, 1) := by decide +kernel
theorem d_Tk_cutName_45 : decode (cd m_Tk_cutName) 45 = .ok (.invokevirtual 51, 3) := by decide +kernel
theorem d_Tk_cutName_48 : decode (cd m_Tk_cutName) 48 = .ok (.goto 37, 3) := by decide +kernel
theorem d_Tk_cutName_51 : decode (cd m_Tk_cutName) 51 = .ok (.aload_n 1, 1) := by decide +kernel
theorem d_Tk_cutName_52 : decode (cd m_Tk_cutName) 52 = .ok (.iload_n 2, 1) := by decide +kernel
theorem d_Tk_cutName_53 : decode (cd m_Tk_cutName) 53 = .ok (.iload_n 3, 1) := by decide +kernel
theorem d_Tk_cutName_54 : decode (cd m_Tk_cutName) 54 = .ok (.ldc 63, 2) := by decide +kernel
theorem d_Tk_cutName_56 : decode (cd m_Tk_cutName) 56 = .ok (.invokevirtual 65, 3) := by decide +kernel
theorem d_Tk_cutName_59 : decode (cd m_Tk_cutName) 59 = .ok (.ifCond .eq 14, 3) := by decide +kernel
theorem d_Tk_cutName_62 : decode (cd m_Tk_cutName) 62 = .ok (.aload_n 0, 1) := by decide +kernel
theorem d_Tk_cutName_63 : decode (cd m_Tk_cutName) 63 = .ok (.bipush 16, 2) := by decide +kernel
theorem d_Tk_cutName_65 : decode (cd m_Tk_cutName) 65 = .ok (.iload_n 2, 1) := by decide +kernel
theorem d_Tk_cutName_66 : decode (cd m_Tk_cutName) 66 = .ok (.lconst 0, 1) := by decide +kernel
theorem d_Tk_cutName_67 : decode (cd m_Tk_cutName) 67 = .ok (.invokevirtual 51, 3) := by decide +kernel
theorem d_Tk_cutName_70 : decode (cd m_Tk_cutName) 70 = .ok (.goto 15, 3) := by decide +kernel
theorem d_Tk_cutName_73 : decode (cd m_Tk_cutName) 73 = .ok (.aload_n 0, 1) := by decide +kernel
theorem d_Tk_cutName_74 : decode (cd m_Tk_cutName) 74 = .ok (.iconst 2, 1) := by decide +kernel
theorem d_Tk_cutName_75 : decode (cd m_Tk_cutName) 75 = .ok (.iload_n 2, 1) := by decide +kernel
theorem d_Tk_cutName_76 : decode (cd m_Tk_cutName) 76 = .ok (.aload_n 1, 1) := by decide +kernel
theorem d_Tk_cutName_77 : decode (cd m_Tk_cutName) 77 = .ok (.iload_n 2, 1) := by decide +kernel
theorem d_Tk_cutName_78 : decode (cd m_Tk_cutName) 78 = .ok (.iload_n 3, 1) := by decide +kernel
theorem d_Tk_cutName_79 : decode (cd m_Tk_cutName) 79 = .ok (.invokevirtual 69, 3) := by decide +kernel
theorem d_Tk_cutName_82 : decode (cd m_Tk_cutName) 82 = .ok (.invokevirtual 51, 3) := by decide +kernel
theorem d_Tk_cutName_85 : decode (cd m_Tk_cutName) 85 = .ok (.iload_n 3, 1) := by decide +kernel
theorem d_Tk_cutName_86 : decode (cd m_Tk_cutName) 86 = .ok (.ireturn, 1) := by decide +kernel
theorem d_Tk_totalAt_0 : decode (cd m_Tk_totalAt) 0 = .ok (.aload_n 0, 1) := by decide +kernel
theorem d_Tk_totalAt_1 : decode (cd m_Tk_totalAt) 1 = .ok (.iload_n 1, 1) := by decide +kernel
theorem d_Tk_totalAt_2 : decode (cd m_Tk_totalAt) 2 = .ok (.iload_n 2, 1) := by decide +kernel
theorem d_Tk_totalAt_3 : decode (cd m_Tk_totalAt) 3 = .ok (.ldc 73, 2) := by decide +kernel
theorem d_Tk_totalAt_5 : decode (cd m_Tk_totalAt) 5 = .ok (.invokevirtual 65, 3) := by decide +kernel
theorem d_Tk_totalAt_8 : decode (cd m_Tk_totalAt) 8 = .ok (.ifCond .eq 5, 3) := by decide +kernel
theorem d_Tk_totalAt_11 : decode (cd m_Tk_totalAt) 11 = .ok (.iconst 1, 1) := by decide +kernel
theorem d_Tk_totalAt_12 : decode (cd m_Tk_totalAt) 12 = .ok (.ireturn, 1) := by decide +kernel
theorem d_Tk_totalAt_13 : decode (cd m_Tk_totalAt) 13 = .ok (.aload_n 0, 1) := by decide +kernel
theorem d_Tk_totalAt_14 : decode (cd m_Tk_totalAt) 14 = .ok (.iload_n 1, 1) := by decide +kernel
theorem d_Tk_totalAt_15 : decode (cd m_Tk_totalAt) 15 = .ok (.iload_n 2, 1) := by decide +kernel
theorem d_Tk_totalAt_16 : decode (cd m_Tk_totalAt) 16 = .ok (.ldc 74, 2) := by decide +kernel
theorem d_Tk_totalAt_18 : decode (cd m_Tk_totalAt) 18 = .ok (.invokevirtual 65, 3) := by decide +kernel
theorem d_Tk_totalAt_21 : decode (cd m_Tk_totalAt) 21 = .ok (.ifCond .eq 5, 3) := by decide +kernel
theorem d_Tk_totalAt_24 : decode (cd m_Tk_totalAt) 24 = .ok (.iconst 2, 1) := by decide +kernel
theorem d_Tk_totalAt_25 : decode (cd m_Tk_totalAt) 25 = .ok (.ireturn, 1) := by decide +kernel
theorem d_Tk_totalAt_26 : decode (cd m_Tk_totalAt) 26 = .ok (.aload_n 0, 1) := by decide +kernel
theorem d_Tk_totalAt_27 : decode (cd m_Tk_totalAt) 27 = .ok (.iload_n 1, 1) := by decide +kernel
theorem d_Tk_totalAt_28 : decode (cd m_Tk_totalAt) 28 = .ok (.iload_n 2, 1) := by decide +kernel
theorem d_Tk_totalAt_29 : decode (cd m_Tk_totalAt) 29 = .ok (.ldc 76, 2) := by decide +kernel
theorem d_Tk_totalAt_31 : decode (cd m_Tk_totalAt) 31 = .ok (.invokevirtual 65, 3) := by decide +kernel
theorem d_Tk_totalAt_34 : decode (cd m_Tk_totalAt) 34 = .ok (.ifCond .eq 5, 3) := by decide +kernel
theorem d_Tk_totalAt_37 : decode (cd m_Tk_totalAt) 37 = .ok (.iconst 3, 1) := by decide +kernel
theorem d_Tk_totalAt_38 : decode (cd m_Tk_totalAt) 38 = .ok (.ireturn, 1) := by decide +kernel
theorem d_Tk_totalAt_39 : decode (cd m_Tk_totalAt) 39 = .ok (.aload_n 0, 1) := by decide +kernel
theorem d_Tk_totalAt_40 : decode (cd m_Tk_totalAt) 40 = .ok (.iload_n 1, 1) := by decide +kernel
theorem d_Tk_totalAt_41 : decode (cd m_Tk_totalAt) 41 = .ok (.iload_n 2, 1) := by decide +kernel
theorem d_Tk_totalAt_42 : decode (cd m_Tk_totalAt) 42 = .ok (.ldc 78, 2) := by decide +kernel
theorem d_Tk_totalAt_44 : decode (cd m_Tk_totalAt) 44 = .ok (.invokevirtual 65, 3) := by decide +kernel
theorem d_Tk_totalAt_47 : decode (cd m_Tk_totalAt) 47 = .ok (.ifCond .eq 7, 3) := by decide +kernel
theorem d_Tk_totalAt_50 : decode (cd m_Tk_totalAt) 50 = .ok (.iconst 4, 1) := by decide +kernel
theorem d_Tk_totalAt_51 : decode (cd m_Tk_totalAt) 51 = .ok (.goto 4, 3) := by decide +kernel
theorem d_Tk_totalAt_54 : decode (cd m_Tk_totalAt) 54 = .ok (.iconst 0, 1) := by decide +kernel
theorem d_Tk_totalAt_55 : decode (cd m_Tk_totalAt) 55 = .ok (.ireturn, 1) := by decide +kernel
theorem d_Tk_cutVariable_0 : decode (cd m_Tk_cutVariable) 0 = .ok (.aload_n 1, 1) := by decide +kernel
theorem d_Tk_cutVariable_1 : decode (cd m_Tk_cutVariable) 1 = .ok (.iload_n 2, 1) := by decide +kernel
theorem d_Tk_cutVariable_2 : decode (cd m_Tk_cutVariable) 2 = .ok (.bipush 7, 2) := by decide +kernel
theorem d_Tk_cutVariable_4 : decode (cd m_Tk_cutVariable) 4 = .ok (.invokevirtual 55, 3) := by decide +kernel
theorem d_Tk_cutVariable_7 : decode (cd m_Tk_cutVariable) 7 = .ok (.istore_n 3, 1) := by decide +kernel
theorem d_Tk_cutVariable_8 : decode (cd m_Tk_cutVariable) 8 = .ok (.iload_n 3, 1) := by decide +kernel
theorem d_Tk_cutVariable_9 : decode (cd m_Tk_cutVariable) 9 = .ok (.iload_n 2, 1) := by decide +kernel
theorem d_Tk_cutVariable_10 : decode (cd m_Tk_cutVariable) 10 = .ok (.isub, 1) := by decide +kernel
theorem d_Tk_cutVariable_11 : decode (cd m_Tk_cutVariable) 11 = .ok (.iconst 4, 1) := by decide +kernel
theorem d_Tk_cutVariable_12 : decode (cd m_Tk_cutVariable) 12 = .ok (.if_icmp .le 13, 3) := by decide +kernel
theorem d_Tk_cutVariable_15 : decode (cd m_Tk_cutVariable) 15 = .ok (.aload_n 0, 1) := by decide +kernel
theorem d_Tk_cutVariable_16 : decode (cd m_Tk_cutVariable) 16 = .ok (.iconst 1, 1) := by decide +kernel
theorem d_Tk_cutVariable_17 : decode (cd m_Tk_cutVariable) 17 = .ok (.iload_n 2, 1) := by decide +kernel
theorem d_Tk_cutVariable_18 : decode (cd m_Tk_cutVariable) 18 = .ok (.lconst 0, 1) := by decide +kernel
theorem d_Tk_cutVariable_19 : decode (cd m_Tk_cutVariable) 19 = .ok (.invokevirtual 51, 3) := by decide +kernel
theorem d_Tk_cutVariable_22 : decode (cd m_Tk_cutVariable) 22 = .ok (.goto 15, 3) := by decide +kernel
theorem d_Tk_cutVariable_25 : decode (cd m_Tk_cutVariable) 25 = .ok (.aload_n 0, 1) := by decide +kernel
theorem d_Tk_cutVariable_26 : decode (cd m_Tk_cutVariable) 26 = .ok (.iconst 3, 1) := by decide +kernel
theorem d_Tk_cutVariable_27 : decode (cd m_Tk_cutVariable) 27 = .ok (.iload_n 2, 1) := by decide +kernel
theorem d_Tk_cutVariable_28 : decode (cd m_Tk_cutVariable) 28 = .ok (.aload_n 1, 1) := by decide +kernel
theorem d_Tk_cutVariable_29 : decode (cd m_Tk_cutVariable) 29 = .ok (.iload_n 2, 1) := by decide +kernel
theorem d_Tk_cutVariable_30 : decode (cd m_Tk_cutVariable) 30 = .ok (.iload_n 3, 1) := by decide +kernel
theorem d_Tk_cutVariable_31 : decode (cd m_Tk_cutVariable) 31 = .ok (.invokevirtual 69, 3) := by decide +kernel
theorem d_Tk_cutVariable_34 : decode (cd m_Tk_cutVariable) 34 = .ok (.invokevirtual 51, 3) := by decide +kernel
theorem d_Tk_cutVariable_37 : decode (cd m_Tk_cutVariable) 37 = .ok (.iload_n 3, 1) := by decide +kernel
theorem d_Tk_cutVariable_38 : decode (cd m_Tk_cutVariable) 38 = .ok (.ireturn, 1) := by decide +kernel
theorem d_Tk_cutNumber_0 : decode (cd m_Tk_cutNumber) 0 = .ok (.aload_n 1, 1) := by decide +kernel
theorem d_Tk_cutNumber_1 : decode (cd m_Tk_cutNumber) 1 = .ok (.iload_n 2, 1) := by decide +kernel
theorem d_Tk_cutNumber_2 : decode (cd m_Tk_cutNumber) 2 = .ok (.iconst 4, 1) := by decide +kernel
theorem d_Tk_cutNumber_3 : decode (cd m_Tk_cutNumber) 3 = .ok (.invokevirtual 55, 3) := by decide +kernel
theorem d_Tk_cutNumber_6 : decode (cd m_Tk_cutNumber) 6 = .ok (.istore_n 3, 1) := by decide +kernel
theorem d_Tk_cutNumber_7 : decode (cd m_Tk_cutNumber) 7 = .ok (.iload_n 3, 1) := by decide +kernel
theorem d_Tk_cutNumber_8 : decode (cd m_Tk_cutNumber) 8 = .ok (.iload_n 2, 1) := by decide +kernel
theorem d_Tk_cutNumber_9 : decode (cd m_Tk_cutNumber) 9 = .ok (.isub, 1) := by decide +kernel
theorem d_Tk_cutNumber_10 : decode (cd m_Tk_cutNumber) 10 = .ok (.bipush 9, 2) := by decide +kernel
theorem d_Tk_cutNumber_12 : decode (cd m_Tk_cutNumber) 12 = .ok (.if_icmp .le 13, 3) := by decide +kernel
theorem d_Tk_cutNumber_15 : decode (cd m_Tk_cutNumber) 15 = .ok (.aload_n 0, 1) := by decide +kernel
theorem d_Tk_cutNumber_16 : decode (cd m_Tk_cutNumber) 16 = .ok (.iconst 1, 1) := by decide +kernel
theorem d_Tk_cutNumber_17 : decode (cd m_Tk_cutNumber) 17 = .ok (.iload_n 2, 1) := by decide +kernel
theorem d_Tk_cutNumber_18 : decode (cd m_Tk_cutNumber) 18 = .ok (.lconst 0, 1) := by decide +kernel
theorem d_Tk_cutNumber_19 : decode (cd m_Tk_cutNumber) 19 = .ok (.invokevirtual 51, 3) := by decide +kernel
theorem d_Tk_cutNumber_22 : decode (cd m_Tk_cutNumber) 22 = .ok (.goto 15, 3) := by decide +kernel
theorem d_Tk_cutNumber_25 : decode (cd m_Tk_cutNumber) 25 = .ok (.aload_n 0, 1) := by decide +kernel
theorem d_Tk_cutNumber_26 : decode (cd m_Tk_cutNumber) 26 = .ok (.iconst 4, 1) := by decide +kernel
theorem d_Tk_cutNumber_27 : decode (cd m_Tk_cutNumber) 27 = .ok (.iload_n 2, 1) := by decide +kernel
theorem d_Tk_cutNumber_28 : decode (cd m_Tk_cutNumber) 28 = .ok (.aload_n 1, 1) := by decide +kernel
theorem d_Tk_cutNumber_29 : decode (cd m_Tk_cutNumber) 29 = .ok (.iload_n 2, 1) := by decide +kernel
theorem d_Tk_cutNumber_30 : decode (cd m_Tk_cutNumber) 30 = .ok (.iload_n 3, 1) := by decide +kernel
theorem d_Tk_cutNumber_31 : decode (cd m_Tk_cutNumber) 31 = .ok (.invokevirtual 80, 3) := by decide +kernel
theorem d_Tk_cutNumber_34 : decode (cd m_Tk_cutNumber) 34 = .ok (.invokevirtual 51, 3) := by decide +kernel
theorem d_Tk_cutNumber_37 : decode (cd m_Tk_cutNumber) 37 = .ok (.iload_n 3, 1) := by decide +kernel
theorem d_Tk_cutNumber_38 : decode (cd m_Tk_cutNumber) 38 = .ok (.ireturn, 1) := by decide +kernel
theorem d_Tk_cutSign_0 : decode (cd m_Tk_cutSign) 0 = .ok (.aload_n 1, 1) := by decide +kernel
theorem d_Tk_cutSign_1 : decode (cd m_Tk_cutSign) 1 = .ok (.iload_n 2, 1) := by decide +kernel
theorem d_Tk_cutSign_2 : decode (cd m_Tk_cutSign) 2 = .ok (.invokevirtual 31, 3) := by decide +kernel
theorem d_Tk_cutSign_5 : decode (cd m_Tk_cutSign) 5 = .ok (.aload_n 1, 1) := by decide +kernel
theorem d_Tk_cutSign_6 : decode (cd m_Tk_cutSign) 6 = .ok (.iload_n 2, 1) := by decide +kernel
theorem d_Tk_cutSign_7 : decode (cd m_Tk_cutSign) 7 = .ok (.iconst 1, 1) := by decide +kernel
theorem d_Tk_cutSign_8 : decode (cd m_Tk_cutSign) 8 = .ok (.iadd, 1) := by decide +kernel
theorem d_Tk_cutSign_9 : decode (cd m_Tk_cutSign) 9 = .ok (.invokevirtual 31, 3) := by decide +kernel
theorem d_Tk_cutSign_12 : decode (cd m_Tk_cutSign) 12 = .ok (.invokestatic 83, 3) := by decide +kernel
theorem d_Tk_cutSign_15 : decode (cd m_Tk_cutSign) 15 = .ok (.istore_n 3, 1) := by decide +kernel
theorem d_Tk_cutSign_16 : decode (cd m_Tk_cutSign) 16 = .ok (.iload_n 3, 1) := by decide +kernel
theorem d_Tk_cutSign_17 : decode (cd m_Tk_cutSign) 17 = .ok (.iconst 1, 1) := by decide +kernel
theorem d_Tk_cutSign_18 : decode (cd m_Tk_cutSign) 18 = .ok (.if_icmp .eq 14, 3) := by decide +kernel
theorem d_Tk_cutSign_21 : decode (cd m_Tk_cutSign) 21 = .ok (.aload_n 0, 1) := by decide +kernel
theorem d_Tk_cutSign_22 : decode (cd m_Tk_cutSign) 22 = .ok (.iload_n 3, 1) := by decide +kernel
theorem d_Tk_cutSign_23 : decode (cd m_Tk_cutSign) 23 = .ok (.iload_n 2, 1) := by decide +kernel
theorem d_Tk_cutSign_24 : decode (cd m_Tk_cutSign) 24 = .ok (.lconst 0, 1) := by decide +kernel
theorem d_Tk_cutSign_25 : decode (cd m_Tk_cutSign) 25 = .ok (.invokevirtual 51, 3) := by decide +kernel
theorem d_Tk_cutSign_28 : decode (cd m_Tk_cutSign) 28 = .ok (.iload_n 2, 1) := by decide +kernel
theorem d_Tk_cutSign_29 : decode (cd m_Tk_cutSign) 29 = .ok (.iconst 2, 1) := by decide +kernel
theorem d_Tk_cutSign_30 : decode (cd m_Tk_cutSign) 30 = .ok (.iadd, 1) := by decide +kernel
theorem d_Tk_cutSign_31 : decode (cd m_Tk_cutSign) 31 = .ok (.ireturn, 1) := by decide +kernel
theorem d_Tk_cutSign_32 : decode (cd m_Tk_cutSign) 32 = .ok (.aload_n 0, 1) := by decide +kernel
theorem d_Tk_cutSign_33 : decode (cd m_Tk_cutSign) 33 = .ok (.aload_n 1, 1) := by decide +kernel
theorem d_Tk_cutSign_34 : decode (cd m_Tk_cutSign) 34 = .ok (.iload_n 2, 1) := by decide +kernel
theorem d_Tk_cutSign_35 : decode (cd m_Tk_cutSign) 35 = .ok (.invokevirtual 31, 3) := by decide +kernel
theorem d_Tk_cutSign_38 : decode (cd m_Tk_cutSign) 38 = .ok (.invokestatic 86, 3) := by decide +kernel
theorem d_Tk_cutSign_41 : decode (cd m_Tk_cutSign) 41 = .ok (.iload_n 2, 1) := by decide +kernel
theorem d_Tk_cutSign_42 : decode (cd m_Tk_cutSign) 42 = .ok (.lconst 0, 1) := by decide +kernel
theorem d_Tk_cutSign_43 : decode (cd m_Tk_cutSign) 43 = .ok (.invokevirtual 51, 3) := by decide +kernel
theorem d_Tk_cutSign_46 : decode (cd m_Tk_cutSign) 46 = .ok (.iload_n 2, 1) := by decide +kernel
theorem d_Tk_cutSign_47 : decode (cd m_Tk_cutSign) 47 = .ok (.iconst 1, 1) := by decide +kernel
theorem d_Tk_cutSign_48 : decode (cd m_Tk_cutSign) 48 = .ok (.iadd, 1) := by decide +kernel
theorem d_Tk_cutSign_49 : decode (cd m_Tk_cutSign) 49 = .ok (.ireturn, 1) := by decide +kernel
theorem d_Tk_pairKind_0 : decode (cd m_Tk_pairKind) 0 = .ok (.iload_n 0, 1) := by decide +kernel
theorem d_Tk_pairKind_1 : decode (cd m_Tk_pairKind) 1 = .ok (.bipush 58, 2) := by decide +kernel
theorem d_Tk_pairKind_3 : decode (cd m_Tk_pairKind) 3 = .ok (.if_icmp .ne 12, 3) := by decide +kernel
theorem d_Tk_pairKind_6 : decode (cd m_Tk_pairKind) 6 = .ok (.iload_n 1, 1) := by decide +kernel
theorem d_Tk_pairKind_7 : decode (cd m_Tk_pairKind) 7 = .ok (.bipush 45, 2) := by decide +kernel
theorem d_Tk_pairKind_9 : decode (cd m_Tk_pairKind) 9 = .ok (.if_icmp .ne 6, 3) := by decide +kernel
theorem d_Tk_pairKind_12 : decode (cd m_Tk_pairKind) 12 = .ok (.bipush 11, 2) := by decide +kernel
theorem d_Tk_pairKind_14 : decode (cd m_Tk_pairKind) 14 = .ok (.ireturn, 1) := by decide +kernel
theorem d_Tk_pairKind_15 : decode (cd m_Tk_pairKind) 15 = .ok (.iload_n 0, 1) := by decide +kernel
theorem d_Tk_pairKind_16 : decode (cd m_Tk_pairKind) 16 = .ok (.bipush 33, 2) := by decide +kernel
theorem d_Tk_pairKind_18 : decode (cd m_Tk_pairKind) 18 = .ok (.if_icmp .eq 15, 3) := by decide +kernel
theorem d_Tk_pairKind_21 : decode (cd m_Tk_pairKind) 21 = .ok (.iload_n 0, 1) := by decide +kernel
theorem d_Tk_pairKind_22 : decode (cd m_Tk_pairKind) 22 = .ok (.bipush 60, 2) := by decide +kernel
theorem d_Tk_pairKind_24 : decode (cd m_Tk_pairKind) 24 = .ok (.if_icmp .eq 9, 3) := by decide +kernel
theorem d_Tk_pairKind_27 : decode (cd m_Tk_pairKind) 27 = .ok (.iload_n 0, 1) := by decide +kernel
theorem d_Tk_pairKind_28 : decode (cd m_Tk_pairKind) 28 = .ok (.bipush 62, 2) := by decide +kernel
theorem d_Tk_pairKind_30 : decode (cd m_Tk_pairKind) 30 = .ok (.if_icmp .ne 7, 3) := by decide +kernel
theorem d_Tk_pairKind_33 : decode (cd m_Tk_pairKind) 33 = .ok (.iconst 1, 1) := by decide +kernel
theorem d_Tk_pairKind_34 : decode (cd m_Tk_pairKind) 34 = .ok (.goto 4, 3) := by decide +kernel
theorem d_Tk_pairKind_37 : decode (cd m_Tk_pairKind) 37 = .ok (.iconst 0, 1) := by decide +kernel
theorem d_Tk_pairKind_38 : decode (cd m_Tk_pairKind) 38 = .ok (.istore_n 2, 1) := by decide +kernel
theorem d_Tk_pairKind_39 : decode (cd m_Tk_pairKind) 39 = .ok (.iload_n 2, 1) := by decide +kernel
theorem d_Tk_pairKind_40 : decode (cd m_Tk_pairKind) 40 = .ok (.ifCond .eq 14, 3) := by decide +kernel
theorem d_Tk_pairKind_43 : decode (cd m_Tk_pairKind) 43 = .ok (.iload_n 1, 1) := by decide +kernel
theorem d_Tk_pairKind_44 : decode (cd m_Tk_pairKind) 44 = .ok (.bipush 61, 2) := by decide +kernel
theorem d_Tk_pairKind_46 : decode (cd m_Tk_pairKind) 46 = .ok (.if_icmp .ne 8, 3) := by decide +kernel
theorem d_Tk_pairKind_49 : decode (cd m_Tk_pairKind) 49 = .ok (.bipush 13, 2) := by decide +kernel
theorem d_Tk_pairKind_51 : decode (cd m_Tk_pairKind) 51 = .ok (.goto 4, 3) := by decide +kernel
theorem d_Tk_pairKind_54 : decode (cd m_Tk_pairKind) 54 = .ok (.iconst 1, 1) := by decide +kernel
theorem d_Tk_pairKind_55 : decode (cd m_Tk_pairKind) 55 = .ok (.ireturn, 1) := by decide +kernel
theorem d_Tk_signKind_0 : decode (cd m_Tk_signKind) 0 = .ok (.iload_n 0, 1) := by decide +kernel
theorem d_Tk_signKind_1 : decode (cd m_Tk_signKind) 1 = .ok (.lookupswitch 152 #[(33, 134), (37, 149), (40, 123), (41, 125), (42, 149), (43, 149), (44, 128), (45, 146), (46, 131), (47, 149), (60, 143), (61, 140), (62, 143), (95, 137)], 123) := by decide +kernel
theorem d_Tk_signKind_124 : decode (cd m_Tk_signKind) 124 = .ok (.iconst 5, 1) := by decide +kernel
theorem d_Tk_signKind_125 : decode (cd m_Tk_signKind) 125 = .ok (.ireturn, 1) := by decide +kernel
theorem d_Tk_signKind_126 : decode (cd m_Tk_signKind) 126 = .ok (.bipush 6, 2) := by decide +kernel
theorem d_Tk_signKind_128 : decode (cd m_Tk_signKind) 128 = .ok (.ireturn, 1) := by decide +kernel
theorem d_Tk_signKind_129 : decode (cd m_Tk_signKind) 129 = .ok (.bipush 7, 2) := by decide +kernel
theorem d_Tk_signKind_131 : decode (cd m_Tk_signKind) 131 = .ok (.ireturn, 1) := by decide +kernel
theorem d_Tk_signKind_132 : decode (cd m_Tk_signKind) 132 = .ok (.bipush 8, 2) := by decide +kernel
theorem d_Tk_signKind_134 : decode (cd m_Tk_signKind) 134 = .ok (.ireturn, 1) := by decide +kernel
theorem d_Tk_signKind_135 : decode (cd m_Tk_signKind) 135 = .ok (.bipush 9, 2) := by decide +kernel
theorem d_Tk_signKind_137 : decode (cd m_Tk_signKind) 137 = .ok (.ireturn, 1) := by decide +kernel
theorem d_Tk_signKind_138 : decode (cd m_Tk_signKind) 138 = .ok (.bipush 10, 2) := by decide +kernel
theorem d_Tk_signKind_140 : decode (cd m_Tk_signKind) 140 = .ok (.ireturn, 1) := by decide +kernel
theorem d_Tk_signKind_141 : decode (cd m_Tk_signKind) 141 = .ok (.bipush 12, 2) := by decide +kernel
theorem d_Tk_signKind_143 : decode (cd m_Tk_signKind) 143 = .ok (.ireturn, 1) := by decide +kernel
theorem d_Tk_signKind_144 : decode (cd m_Tk_signKind) 144 = .ok (.bipush 13, 2) := by decide +kernel
theorem d_Tk_signKind_146 : decode (cd m_Tk_signKind) 146 = .ok (.ireturn, 1) := by decide +kernel
theorem d_Tk_signKind_147 : decode (cd m_Tk_signKind) 147 = .ok (.bipush 14, 2) := by decide +kernel
theorem d_Tk_signKind_149 : decode (cd m_Tk_signKind) 149 = .ok (.ireturn, 1) := by decide +kernel
theorem d_Tk_signKind_150 : decode (cd m_Tk_signKind) 150 = .ok (.bipush 15, 2) := by decide +kernel
theorem d_Tk_signKind_152 : decode (cd m_Tk_signKind) 152 = .ok (.ireturn, 1) := by decide +kernel
theorem d_Tk_signKind_153 : decode (cd m_Tk_signKind) 153 = .ok (.iconst 1, 1) := by decide +kernel
theorem d_Tk_signKind_154 : decode (cd m_Tk_signKind) 154 = .ok (.ireturn, 1) := by decide +kernel

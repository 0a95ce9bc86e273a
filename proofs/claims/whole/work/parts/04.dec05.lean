theorem d_Mod_growth_4 : decode b_Mod_growth 4 = .ok (.invokestatic 51, 3) := by decide +kernel
theorem d_Mod_growth_7 : decode b_Mod_growth 7 = .ok (.iconst 1, 1) := by decide +kernel
theorem d_Mod_growth_8 : decode b_Mod_growth 8 = .ok (.iconst 1, 1) := by decide +kernel
theorem d_Mod_growth_9 : decode b_Mod_growth 9 = .ok (.invokevirtual 59, 3) := by decide +kernel
theorem d_Mod_growth_12 : decode b_Mod_growth 12 = .ok (.ifCond .ne 5, 3) := by decide +kernel
theorem d_Mod_growth_15 : decode b_Mod_growth 15 = .ok (.lconst 0, 1) := by decide +kernel
theorem d_Mod_growth_16 : decode b_Mod_growth 16 = .ok (.lreturn, 1) := by decide +kernel
theorem d_Mod_growth_17 : decode b_Mod_growth 17 = .ok (.lconst 0, 1) := by decide +kernel
theorem d_Mod_growth_18 : decode b_Mod_growth 18 = .ok (.lstore_n 2, 1) := by decide +kernel
theorem d_Mod_growth_19 : decode b_Mod_growth 19 = .ok (.lconst 0, 1) := by decide +kernel
theorem d_Mod_growth_20 : decode b_Mod_growth 20 = .ok (.lstore 4, 2) := by decide +kernel
theorem d_Mod_growth_22 : decode b_Mod_growth 22 = .ok (.iconst 0, 1) := by decide +kernel
theorem d_Mod_growth_23 : decode b_Mod_growth 23 = .ok (.istore 6, 2) := by decide +kernel
theorem d_Mod_growth_25 : decode b_Mod_growth 25 = .ok (.iload 6, 2) := by decide +kernel
theorem d_Mod_growth_27 : decode b_Mod_growth 27 = .ok (.aload_n 0, 1) := by decide +kernel
theorem d_Mod_growth_28 : decode b_Mod_growth 28 = .ok (.getfield 147, 3) := by decide +kernel
theorem d_Mod_growth_31 : decode b_Mod_growth 31 = .ok (.if_icmp .ge 75, 3) := by decide +kernel
theorem d_Mod_growth_34 : decode b_Mod_growth 34 = .ok (.iconst 0, 1) := by decide +kernel
theorem d_Mod_growth_35 : decode b_Mod_growth 35 = .ok (.istore 7, 2) := by decide +kernel
theorem d_Mod_growth_37 : decode b_Mod_growth 37 = .ok (.iload 7, 2) := by decide +kernel
theorem d_Mod_growth_39 : decode b_Mod_growth 39 = .ok (.iload 6, 2) := by decide +kernel
theorem d_Mod_growth_41 : decode b_Mod_growth 41 = .ok (.if_icmp .ge 59, 3) := by decide +kernel
theorem d_Mod_growth_44 : decode b_Mod_growth 44 = .ok (.aload_n 0, 1) := by decide +kernel
theorem d_Mod_growth_45 : decode b_Mod_growth 45 = .ok (.getfield 36, 3) := by decide +kernel
theorem d_Mod_growth_48 : decode b_Mod_growth 48 = .ok (.iload 6, 2) := by decide +kernel
theorem d_Mod_growth_50 : decode b_Mod_growth 50 = .ok (.iaload, 1) := by decide +kernel
theorem d_Mod_growth_51 : decode b_Mod_growth 51 = .ok (.aload_n 0, 1) := by decide +kernel
theorem d_Mod_growth_52 : decode b_Mod_growth 52 = .ok (.getfield 36, 3) := by decide +kernel
theorem d_Mod_growth_55 : decode b_Mod_growth 55 = .ok (.iload 7, 2) := by decide +kernel
theorem d_Mod_growth_57 : decode b_Mod_growth 57 = .ok (.iaload, 1) := by decide +kernel
theorem d_Mod_growth_58 : decode b_Mod_growth 58 = .ok (.isub, 1) := by decide +kernel
theorem d_Mod_growth_59 : decode b_Mod_growth 59 = .ok (.i2l, 1) := by decide +kernel
theorem d_Mod_growth_60 : decode b_Mod_growth 60 = .ok (.lstore 8, 2) := by decide +kernel
theorem d_Mod_growth_62 : decode b_Mod_growth 62 = .ok (.lload_n 2, 1) := by decide +kernel
theorem d_Mod_growth_63 : decode b_Mod_growth 63 = .ok (.lload 8, 2) := by decide +kernel
theorem d_Mod_growth_65 : decode b_Mod_growth 65 = .ok (.aload_n 0, 1) := by decide +kernel
theorem d_Mod_growth_66 : decode b_Mod_growth 66 = .ok (.getfield 39, 3) := by decide +kernel
theorem d_Mod_growth_69 : decode b_Mod_growth 69 = .ok (.iload 6, 2) := by decide +kernel
theorem d_Mod_growth_71 : decode b_Mod_growth 71 = .ok (.iaload, 1) := by decide +kernel
theorem d_Mod_growth_72 : decode b_Mod_growth 72 = .ok (.aload_n 0, 1) := by decide +kernel
theorem d_Mod_growth_73 : decode b_Mod_growth 73 = .ok (.getfield 39, 3) := by decide +kernel
theorem d_Mod_growth_76 : decode b_Mod_growth 76 = .ok (.iload 7, 2) := by decide +kernel
theorem d_Mod_growth_78 : decode b_Mod_growth 78 = .ok (.iaload, 1) := by decide +kernel
theorem d_Mod_growth_79 : decode b_Mod_growth 79 = .ok (.isub, 1) := by decide +kernel
theorem d_Mod_growth_80 : decode b_Mod_growth 80 = .ok (.i2l, 1) := by decide +kernel
theorem d_Mod_growth_81 : decode b_Mod_growth 81 = .ok (.lmul, 1) := by decide +kernel
theorem d_Mod_growth_82 : decode b_Mod_growth 82 = .ok (.ladd, 1) := by decide +kernel
theorem d_Mod_growth_83 : decode b_Mod_growth 83 = .ok (.lstore_n 2, 1) := by decide +kernel
theorem d_Mod_growth_84 : decode b_Mod_growth 84 = .ok (.lload 4, 2) := by decide +kernel
theorem d_Mod_growth_86 : decode b_Mod_growth 86 = .ok (.lload 8, 2) := by decide +kernel
theorem d_Mod_growth_88 : decode b_Mod_growth 88 = .ok (.lload 8, 2) := by decide +kernel
theorem d_Mod_growth_90 : decode b_Mod_growth 90 = .ok (.lmul, 1) := by decide +kernel
theorem d_Mod_growth_91 : decode b_Mod_growth 91 = .ok (.ladd, 1) := by decide +kernel
theorem d_Mod_growth_92 : decode b_Mod_growth 92 = .ok (.lstore 4, 2) := by decide +kernel
theorem d_Mod_growth_94 : decode b_Mod_growth 94 = .ok (.iinc 7 1, 3) := by decide +kernel
theorem d_Mod_growth_97 : decode b_Mod_growth 97 = .ok (.goto (-60), 3) := by decide +kernel
theorem d_Mod_growth_100 : decode b_Mod_growth 100 = .ok (.iinc 6 1, 3) := by decide +kernel
theorem d_Mod_growth_103 : decode b_Mod_growth 103 = .ok (.goto (-78), 3) := by decide +kernel
theorem d_Mod_growth_106 : decode b_Mod_growth 106 = .ok (.lload 4, 2) := by decide +kernel
theorem d_Mod_growth_108 : decode b_Mod_growth 108 = .ok (.lconst 0, 1) := by decide +kernel
theorem d_Mod_growth_109 : decode b_Mod_growth 109 = .ok (.lcmp, 1) := by decide +kernel
theorem d_Mod_growth_110 : decode b_Mod_growth 110 = .ok (.ifCond .ne 6, 3) := by decide +kernel
theorem d_Mod_growth_113 : decode b_Mod_growth 113 = .ok (.iload_n 1, 1) := by decide +kernel
theorem d_Mod_growth_114 : decode b_Mod_growth 114 = .ok (.i2l, 1) := by decide +kernel
theorem d_Mod_growth_115 : decode b_Mod_growth 115 = .ok (.lreturn, 1) := by decide +kernel
theorem d_Mod_growth_116 : decode b_Mod_growth 116 = .ok (.lload_n 2, 1) := by decide +kernel
theorem d_Mod_growth_117 : decode b_Mod_growth 117 = .ok (.lload 4, 2) := by decide +kernel
theorem d_Mod_growth_119 : decode b_Mod_growth 119 = .ok (.invokestatic 104, 3) := by decide +kernel
theorem d_Mod_growth_122 : decode b_Mod_growth 122 = .ok (.lstore 6, 2) := by decide +kernel
theorem d_Mod_growth_124 : decode b_Mod_growth 124 = .ok (.iload_n 1, 1) := by decide +kernel
theorem d_Mod_growth_125 : decode b_Mod_growth 125 = .ok (.ifCond .ne 10, 3) := by decide +kernel
theorem d_Mod_growth_128 : decode b_Mod_growth 128 = .ok (.lload_n 2, 1) := by decide +kernel
theorem d_Mod_growth_129 : decode b_Mod_growth 129 = .ok (.lload 6, 2) := by decide +kernel
theorem d_Mod_growth_131 : decode b_Mod_growth 131 = .ok (.ldiv, 1) := by decide +kernel
theorem d_Mod_growth_132 : decode b_Mod_growth 132 = .ok (.goto 8, 3) := by decide +kernel
theorem d_Mod_growth_135 : decode b_Mod_growth 135 = .ok (.lload 4, 2) := by decide +kernel
theorem d_Mod_growth_137 : decode b_Mod_growth 137 = .ok (.lload 6, 2) := by decide +kernel
theorem d_Mod_growth_139 : decode b_Mod_growth 139 = .ok (.ldiv, 1) := by decide +kernel
theorem d_Mod_growth_140 : decode b_Mod_growth 140 = .ok (.lreturn, 1) := by decide +kernel
theorem d_Mod_count_0 : decode b_Mod_count 0 = .ok (.aload_n 0, 1) := by decide +kernel
theorem d_Mod_count_1 : decode b_Mod_count 1 = .ok (.iload_n 1, 1) := by decide +kernel
theorem d_Mod_count_2 : decode b_Mod_count 2 = .ok (.iconst 0, 1) := by decide +kernel
theorem d_Mod_count_3 : decode b_Mod_count 3 = .ok (.bipush 6, 2) := by decide +kernel
theorem d_Mod_count_5 : decode b_Mod_count 5 = .ok (.invokestatic 51, 3) := by decide +kernel
theorem d_Mod_count_8 : decode b_Mod_count 8 = .ok (.iconst 1, 1) := by decide +kernel
theorem d_Mod_count_9 : decode b_Mod_count 9 = .ok (.iconst 1, 1) := by decide +kernel
theorem d_Mod_count_10 : decode b_Mod_count 10 = .ok (.invokevirtual 59, 3) := by decide +kernel
theorem d_Mod_count_13 : decode b_Mod_count 13 = .ok (.ifCond .ne 5, 3) := by decide +kernel
theorem d_Mod_count_16 : decode b_Mod_count 16 = .ok (.iconst 0, 1) := by decide +kernel
theorem d_Mod_count_17 : decode b_Mod_count 17 = .ok (.ireturn, 1) := by decide +kernel
theorem d_Mod_count_18 : decode b_Mod_count 18 = .ok (.iload_n 1, 1) := by decide +kernel
theorem d_Mod_count_19 : decode b_Mod_count 19 = .ok (.tableswitch 67 0 5 #[37, 42, 47, 52, 57, 62], 37) := by decide +kernel
theorem d_Mod_count_56 : decode b_Mod_count 56 = .ok (.aload_n 0, 1) := by decide +kernel
theorem d_Mod_count_57 : decode b_Mod_count 57 = .ok (.getfield 42, 3) := by decide +kernel
theorem d_Mod_count_60 : decode b_Mod_count 60 = .ok (.ireturn, 1) := by decide +kernel
theorem d_Mod_count_61 : decode b_Mod_count 61 = .ok (.aload_n 0, 1) := by decide +kernel
theorem d_Mod_count_62 : decode b_Mod_count 62 = .ok (.getfield 45, 3) := by decide +kernel
theorem d_Mod_count_65 : decode b_Mod_count 65 = .ok (.ireturn, 1) := by decide +kernel
theorem d_Mod_count_66 : decode b_Mod_count 66 = .ok (.aload_n 0, 1) := by decide +kernel
theorem d_Mod_count_67 : decode b_Mod_count 67 = .ok (.invokevirtual 94, 3) := by decide +kernel
theorem d_Mod_count_70 : decode b_Mod_count 70 = .ok (.ireturn, 1) := by decide +kernel
theorem d_Mod_count_71 : decode b_Mod_count 71 = .ok (.aload_n 0, 1) := by decide +kernel
theorem d_Mod_count_72 : decode b_Mod_count 72 = .ok (.getfield 135, 3) := by decide +kernel
theorem d_Mod_count_75 : decode b_Mod_count 75 = .ok (.ireturn, 1) := by decide +kernel
theorem d_Mod_count_76 : decode b_Mod_count 76 = .ok (.aload_n 0, 1) := by decide +kernel
theorem d_Mod_count_77 : decode b_Mod_count 77 = .ok (.getfield 129, 3) := by decide +kernel
theorem d_Mod_count_80 : decode b_Mod_count 80 = .ok (.ireturn, 1) := by decide +kernel
theorem d_Mod_count_81 : decode b_Mod_count 81 = .ok (.aload_n 0, 1) := by decide +kernel
theorem d_Mod_count_82 : decode b_Mod_count 82 = .ok (.getfield 147, 3) := by decide +kernel
theorem d_Mod_count_85 : decode b_Mod_count 85 = .ok (.ireturn, 1) := by decide +kernel
theorem d_Mod_count_86 : decode b_Mod_count 86 = .ok (.aload_n 0, 1) := by decide +kernel
theorem d_Mod_count_87 : decode b_Mod_count 87 = .ok (.getfield 111, 3) := by decide +kernel
theorem d_Mod_count_90 : decode b_Mod_count 90 = .ok (.ireturn, 1) := by decide +kernel

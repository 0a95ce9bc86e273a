theorem d_Pic_within_0 : decode b_Pic_within 0 = .ok (.iload_n 1, 1) := by decide +kernel
theorem d_Pic_within_1 : decode b_Pic_within 1 = .ok (.iload_n 2, 1) := by decide +kernel
theorem d_Pic_within_2 : decode b_Pic_within 2 = .ok (.iload_n 0, 1) := by decide +kernel
theorem d_Pic_within_3 : decode b_Pic_within 3 = .ok (.invokestatic 223, 3) := by decide +kernel
theorem d_Pic_within_6 : decode b_Pic_within 6 = .ok (.invokestatic 228, 3) := by decide +kernel
theorem d_Pic_within_9 : decode b_Pic_within 9 = .ok (.ireturn, 1) := by decide +kernel
theorem d_Shift_init_0 : decode b_Shift_init 0 = .ok (.aload_n 0, 1) := by decide +kernel
theorem d_Shift_init_1 : decode b_Shift_init 1 = .ok (.invokespecial 1, 3) := by decide +kernel
theorem d_Shift_init_4 : decode b_Shift_init 4 = .ok (.return_, 1) := by decide +kernel
theorem d_Charts_init_0 : decode b_Charts_init 0 = .ok (.aload_n 0, 1) := by decide +kernel
theorem d_Charts_init_1 : decode b_Charts_init 1 = .ok (.invokespecial 3, 3) := by decide +kernel
theorem d_Charts_init_4 : decode b_Charts_init 4 = .ok (.aload_n 0, 1) := by decide +kernel
theorem d_Charts_init_5 : decode b_Charts_init 5 = .ok (.bipush 12, 2) := by decide +kernel
theorem d_Charts_init_7 : decode b_Charts_init 7 = .ok (.newarray .int, 2) := by decide +kernel
theorem d_Charts_init_9 : decode b_Charts_init 9 = .ok (.putfield 11, 3) := by decide +kernel
theorem d_Charts_init_12 : decode b_Charts_init 12 = .ok (.aload_n 0, 1) := by decide +kernel
theorem d_Charts_init_13 : decode b_Charts_init 13 = .ok (.bipush 12, 2) := by decide +kernel
theorem d_Charts_init_15 : decode b_Charts_init 15 = .ok (.newarray .int, 2) := by decide +kernel
theorem d_Charts_init_17 : decode b_Charts_init 17 = .ok (.putfield 15, 3) := by decide +kernel
theorem d_Charts_init_20 : decode b_Charts_init 20 = .ok (.return_, 1) := by decide +kernel
theorem d_Fraction_init_0 : decode b_Fraction_init 0 = .ok (.aload_n 0, 1) := by decide +kernel
theorem d_Fraction_init_1 : decode b_Fraction_init 1 = .ok (.invokespecial 1, 3) := by decide +kernel
theorem d_Fraction_init_4 : decode b_Fraction_init 4 = .ok (.aload_n 0, 1) := by decide +kernel
theorem d_Fraction_init_5 : decode b_Fraction_init 5 = .ok (.lconst 0, 1) := by decide +kernel
theorem d_Fraction_init_6 : decode b_Fraction_init 6 = .ok (.putfield 7, 3) := by decide +kernel
theorem d_Fraction_init_9 : decode b_Fraction_init 9 = .ok (.aload_n 0, 1) := by decide +kernel
theorem d_Fraction_init_10 : decode b_Fraction_init 10 = .ok (.lconst 1, 1) := by decide +kernel
theorem d_Fraction_init_11 : decode b_Fraction_init 11 = .ok (.putfield 13, 3) := by decide +kernel
theorem d_Fraction_init_14 : decode b_Fraction_init 14 = .ok (.return_, 1) := by decide +kernel
theorem d_Noise_init_0 : decode b_Noise_init 0 = .ok (.aload_n 0, 1) := by decide +kernel
theorem d_Noise_init_1 : decode b_Noise_init 1 = .ok (.invokespecial 3, 3) := by decide +kernel
theorem d_Noise_init_4 : decode b_Noise_init 4 = .ok (.aload_n 0, 1) := by decide +kernel
theorem d_Noise_init_5 : decode b_Noise_init 5 = .ok (.bipush 10, 2) := by decide +kernel
theorem d_Noise_init_7 : decode b_Noise_init 7 = .ok (.putfield 11, 3) := by decide +kernel
theorem d_Noise_init_10 : decode b_Noise_init 10 = .ok (.aload_n 0, 1) := by decide +kernel
theorem d_Noise_init_11 : decode b_Noise_init 11 = .ok (.iload_n 1, 1) := by decide +kernel
theorem d_Noise_init_12 : decode b_Noise_init 12 = .ok (.newarray .int, 2) := by decide +kernel
theorem d_Noise_init_14 : decode b_Noise_init 14 = .ok (.putfield 15, 3) := by decide +kernel
theorem d_Noise_init_17 : decode b_Noise_init 17 = .ok (.aload_n 0, 1) := by decide +kernel
theorem d_Noise_init_18 : decode b_Noise_init 18 = .ok (.iload_n 1, 1) := by decide +kernel
theorem d_Noise_init_19 : decode b_Noise_init 19 = .ok (.newarray .int, 2) := by decide +kernel
theorem d_Noise_init_21 : decode b_Noise_init 21 = .ok (.putfield 19, 3) := by decide +kernel
theorem d_Noise_init_24 : decode b_Noise_init 24 = .ok (.iconst 0, 1) := by decide +kernel
theorem d_Noise_init_25 : decode b_Noise_init 25 = .ok (.istore_n 2, 1) := by decide +kernel
theorem d_Noise_init_26 : decode b_Noise_init 26 = .ok (.iload_n 2, 1) := by decide +kernel
theorem d_Noise_init_27 : decode b_Noise_init 27 = .ok (.iload_n 1, 1) := by decide +kernel
theorem d_Noise_init_28 : decode b_Noise_init 28 = .ok (.if_icmp .ge 23, 3) := by decide +kernel
theorem d_Noise_init_31 : decode b_Noise_init 31 = .ok (.aload_n 0, 1) := by decide +kernel
theorem d_Noise_init_32 : decode b_Noise_init 32 = .ok (.getfield 15, 3) := by decide +kernel
theorem d_Noise_init_35 : decode b_Noise_init 35 = .ok (.iload_n 2, 1) := by decide +kernel
theorem d_Noise_init_36 : decode b_Noise_init 36 = .ok (.iconst (-1), 1) := by decide +kernel
theorem d_Noise_init_37 : decode b_Noise_init 37 = .ok (.iastore, 1) := by decide +kernel
theorem d_Noise_init_38 : decode b_Noise_init 38 = .ok (.aload_n 0, 1) := by decide +kernel
theorem d_Noise_init_39 : decode b_Noise_init 39 = .ok (.getfield 19, 3) := by decide +kernel
theorem d_Noise_init_42 : decode b_Noise_init 42 = .ok (.iload_n 2, 1) := by decide +kernel
theorem d_Noise_init_43 : decode b_Noise_init 43 = .ok (.iconst (-1), 1) := by decide +kernel
theorem d_Noise_init_44 : decode b_Noise_init 44 = .ok (.iastore, 1) := by decide +kernel
theorem d_Noise_init_45 : decode b_Noise_init 45 = .ok (.iinc 2 1, 3) := by decide +kernel
theorem d_Noise_init_48 : decode b_Noise_init 48 = .ok (.goto (-22), 3) := by decide +kernel
theorem d_Noise_init_51 : decode b_Noise_init 51 = .ok (.return_, 1) := by decide +kernel
theorem d_Spots_init_0 : decode b_Spots_init 0 = .ok (.aload_n 0, 1) := by decide +kernel
theorem d_Spots_init_1 : decode b_Spots_init 1 = .ok (.invokespecial 3, 3) := by decide +kernel
theorem d_Spots_init_4 : decode b_Spots_init 4 = .ok (.aload_n 0, 1) := by decide +kernel
theorem d_Spots_init_5 : decode b_Spots_init 5 = .ok (.iload_n 1, 1) := by decide +kernel
theorem d_Spots_init_6 : decode b_Spots_init 6 = .ok (.putfield 9, 3) := by decide +kernel
theorem d_Spots_init_9 : decode b_Spots_init 9 = .ok (.aload_n 0, 1) := by decide +kernel
theorem d_Spots_init_10 : decode b_Spots_init 10 = .ok (.iload_n 2, 1) := by decide +kernel
theorem d_Spots_init_11 : decode b_Spots_init 11 = .ok (.putfield 15, 3) := by decide +kernel
theorem d_Spots_init_14 : decode b_Spots_init 14 = .ok (.iload_n 1, 1) := by decide +kernel
theorem d_Spots_init_15 : decode b_Spots_init 15 = .ok (.iload_n 2, 1) := by decide +kernel
theorem d_Spots_init_16 : decode b_Spots_init 16 = .ok (.imul, 1) := by decide +kernel
theorem d_Spots_init_17 : decode b_Spots_init 17 = .ok (.istore_n 3, 1) := by decide +kernel
theorem d_Spots_init_18 : decode b_Spots_init 18 = .ok (.aload_n 0, 1) := by decide +kernel
theorem d_Spots_init_19 : decode b_Spots_init 19 = .ok (.iload_n 3, 1) := by decide +kernel
theorem d_Spots_init_20 : decode b_Spots_init 20 = .ok (.newarray .int, 2) := by decide +kernel
theorem d_Spots_init_22 : decode b_Spots_init 22 = .ok (.putfield 18, 3) := by decide +kernel
theorem d_Spots_init_25 : decode b_Spots_init 25 = .ok (.aload_n 0, 1) := by decide +kernel
theorem d_Spots_init_26 : decode b_Spots_init 26 = .ok (.iload_n 3, 1) := by decide +kernel
theorem d_Spots_init_27 : decode b_Spots_init 27 = .ok (.newarray .int, 2) := by decide +kernel
theorem d_Spots_init_29 : decode b_Spots_init 29 = .ok (.putfield 22, 3) := by decide +kernel
theorem d_Spots_init_32 : decode b_Spots_init 32 = .ok (.aload_n 0, 1) := by decide +kernel
theorem d_Spots_init_33 : decode b_Spots_init 33 = .ok (.iload_n 3, 1) := by decide +kernel
theorem d_Spots_init_34 : decode b_Spots_init 34 = .ok (.newarray .int, 2) := by decide +kernel
theorem d_Spots_init_36 : decode b_Spots_init 36 = .ok (.putfield 25, 3) := by decide +kernel
theorem d_Spots_init_39 : decode b_Spots_init 39 = .ok (.aload_n 0, 1) := by decide +kernel
theorem d_Spots_init_40 : decode b_Spots_init 40 = .ok (.iload_n 3, 1) := by decide +kernel
theorem d_Spots_init_41 : decode b_Spots_init 41 = .ok (.newarray .int, 2) := by decide +kernel
theorem d_Spots_init_43 : decode b_Spots_init 43 = .ok (.putfield 28, 3) := by decide +kernel
theorem d_Spots_init_46 : decode b_Spots_init 46 = .ok (.aload_n 0, 1) := by decide +kernel
theorem d_Spots_init_47 : decode b_Spots_init 47 = .ok (.bipush 7, 2) := by decide +kernel
theorem d_Spots_init_49 : decode b_Spots_init 49 = .ok (.iload_n 3, 1) := by decide +kernel
theorem d_Spots_init_50 : decode b_Spots_init 50 = .ok (.iconst 1, 1) := by decide +kernel
theorem d_Spots_init_51 : decode b_Spots_init 51 = .ok (.iadd, 1) := by decide +kernel
theorem d_Spots_init_52 : decode b_Spots_init 52 = .ok (.iconst 2, 1) := by decide +kernel
theorem d_Spots_init_53 : decode b_Spots_init 53 = .ok (.idiv, 1) := by decide +kernel
theorem d_Spots_init_54 : decode b_Spots_init 54 = .ok (.imul, 1) := by decide +kernel
theorem d_Spots_init_55 : decode b_Spots_init 55 = .ok (.newarray .int, 2) := by decide +kernel
theorem d_Spots_init_57 : decode b_Spots_init 57 = .ok (.putfield 31, 3) := by decide +kernel
theorem d_Spots_init_60 : decode b_Spots_init 60 = .ok (.iconst 0, 1) := by decide +kernel
theorem d_Spots_init_61 : decode b_Spots_init 61 = .ok (.istore 4, 2) := by decide +kernel
theorem d_Spots_init_63 : decode b_Spots_init 63 = .ok (.iload 4, 2) := by decide +kernel
theorem d_Spots_init_65 : decode b_Spots_init 65 = .ok (.iload_n 3, 1) := by decide +kernel
theorem d_Spots_init_66 : decode b_Spots_init 66 = .ok (.if_icmp .ge 17, 3) := by decide +kernel
theorem d_Spots_init_69 : decode b_Spots_init 69 = .ok (.aload_n 0, 1) := by decide +kernel
theorem d_Spots_init_70 : decode b_Spots_init 70 = .ok (.getfield 18, 3) := by decide +kernel
theorem d_Spots_init_73 : decode b_Spots_init 73 = .ok (.iload 4, 2) := by decide +kernel
theorem d_Spots_init_75 : decode b_Spots_init 75 = .ok (.iconst (-1), 1) := by decide +kernel
theorem d_Spots_init_76 : decode b_Spots_init 76 = .ok (.iastore, 1) := by decide +kernel
theorem d_Spots_init_77 : decode b_Spots_init 77 = .ok (.iinc 4 1, 3) := by decide +kernel
theorem d_Spots_init_80 : decode b_Spots_init 80 = .ok (.goto (-17), 3) := by decide +kernel
theorem d_Spots_init_83 : decode b_Spots_init 83 = .ok (.return_, 1) := by decide +kernel
theorem d_Days_init_0 : decode b_Days_init 0 = .ok (.aload_n 0, 1) := by decide +kernel
theorem d_Days_init_1 : decode b_Days_init 1 = .ok (.invokespecial 3, 3) := by decide +kernel
theorem d_Days_init_4 : decode b_Days_init 4 = .ok (.aload_n 0, 1) := by decide +kernel
theorem d_Days_init_5 : decode b_Days_init 5 = .ok (.bipush 30, 2) := by decide +kernel
theorem d_Days_init_7 : decode b_Days_init 7 = .ok (.newarray .int, 2) := by decide +kernel
theorem d_Days_init_9 : decode b_Days_init 9 = .ok (.putfield 11, 3) := by decide +kernel
theorem d_Days_init_12 : decode b_Days_init 12 = .ok (.aload_n 0, 1) := by decide +kernel
theorem d_Days_init_13 : decode b_Days_init 13 = .ok (.bipush 30, 2) := by decide +kernel
theorem d_Days_init_15 : decode b_Days_init 15 = .ok (.newarray .int, 2) := by decide +kernel
theorem d_Days_init_17 : decode b_Days_init 17 = .ok (.putfield 15, 3) := by decide +kernel
theorem d_Days_init_20 : decode b_Days_init 20 = .ok (.return_, 1) := by decide +kernel
theorem d_Pic_init_0 : decode b_Pic_init 0 = .ok (.aload_n 0, 1) := by decide +kernel
theorem d_Pic_init_1 : decode b_Pic_init 1 = .ok (.invokespecial 1, 3) := by decide +kernel
theorem d_Pic_init_4 : decode b_Pic_init 4 = .ok (.aload_n 0, 1) := by decide +kernel
theorem d_Pic_init_5 : decode b_Pic_init 5 = .ok (.iload_n 1, 1) := by decide +kernel
theorem d_Pic_init_6 : decode b_Pic_init 6 = .ok (.iconst 4, 1) := by decide +kernel
theorem d_Pic_init_7 : decode b_Pic_init 7 = .ok (.bipush 24, 2) := by decide +kernel
theorem d_Pic_init_9 : decode b_Pic_init 9 = .ok (.invokestatic 9, 3) := by decide +kernel
theorem d_Pic_init_12 : decode b_Pic_init 12 = .ok (.putfield 13, 3) := by decide +kernel
theorem d_Pic_init_15 : decode b_Pic_init 15 = .ok (.aload_n 0, 1) := by decide +kernel
theorem d_Pic_init_16 : decode b_Pic_init 16 = .ok (.iload_n 2, 1) := by decide +kernel
theorem d_Pic_init_17 : decode b_Pic_init 17 = .ok (.iconst 4, 1) := by decide +kernel
theorem d_Pic_init_18 : decode b_Pic_init 18 = .ok (.bipush 24, 2) := by decide +kernel
theorem d_Pic_init_20 : decode b_Pic_init 20 = .ok (.invokestatic 9, 3) := by decide +kernel
theorem d_Pic_init_23 : decode b_Pic_init 23 = .ok (.putfield 17, 3) := by decide +kernel
theorem d_Pic_init_26 : decode b_Pic_init 26 = .ok (.aload_n 0, 1) := by decide +kernel
theorem d_Pic_init_27 : decode b_Pic_init 27 = .ok (.getfield 13, 3) := by decide +kernel
theorem d_Pic_init_30 : decode b_Pic_init 30 = .ok (.aload_n 0, 1) := by decide +kernel
theorem d_Pic_init_31 : decode b_Pic_init 31 = .ok (.getfield 17, 3) := by decide +kernel
theorem d_Pic_init_34 : decode b_Pic_init 34 = .ok (.imul, 1) := by decide +kernel
theorem d_Pic_init_35 : decode b_Pic_init 35 = .ok (.istore_n 3, 1) := by decide +kernel
theorem d_Pic_init_36 : decode b_Pic_init 36 = .ok (.aload_n 0, 1) := by decide +kernel
theorem d_Pic_init_37 : decode b_Pic_init 37 = .ok (.iload_n 3, 1) := by decide +kernel
theorem d_Pic_init_38 : decode b_Pic_init 38 = .ok (.newarray .int, 2) := by decide +kernel
theorem d_Pic_init_40 : decode b_Pic_init 40 = .ok (.putfield 20, 3) := by decide +kernel
theorem d_Pic_init_43 : decode b_Pic_init 43 = .ok (.aload_n 0, 1) := by decide +kernel
theorem d_Pic_init_44 : decode b_Pic_init 44 = .ok (.iload_n 3, 1) := by decide +kernel
theorem d_Pic_init_45 : decode b_Pic_init 45 = .ok (.newarray .int, 2) := by decide +kernel
theorem d_Pic_init_47 : decode b_Pic_init 47 = .ok (.putfield 24, 3) := by decide +kernel
theorem d_Pic_init_50 : decode b_Pic_init 50 = .ok (.aload_n 0, 1) := by decide +kernel
theorem d_Pic_init_51 : decode b_Pic_init 51 = .ok (.new 27, 3) := by decide +kernel
theorem d_Pic_init_54 : decode b_Pic_init 54 = .ok (.dup, 1) := by decide +kernel
theorem d_Pic_init_55 : decode b_Pic_init 55 = .ok (.invokespecial 29, 3) := by decide +kernel
theorem d_Pic_init_58 : decode b_Pic_init 58 = .ok (.putfield 30, 3) := by decide +kernel
theorem d_Pic_init_61 : decode b_Pic_init 61 = .ok (.aload_n 0, 1) := by decide +kernel
theorem d_Pic_init_62 : decode b_Pic_init 62 = .ok (.new 27, 3) := by decide +kernel
theorem d_Pic_init_65 : decode b_Pic_init 65 = .ok (.dup, 1) := by decide +kernel
theorem d_Pic_init_66 : decode b_Pic_init 66 = .ok (.invokespecial 29, 3) := by decide +kernel
theorem d_Pic_init_69 : decode b_Pic_init 69 = .ok (.putfield 34, 3) := by decide +kernel
theorem d_Pic_init_72 : decode b_Pic_init 72 = .ok (.aload_n 0, 1) := by decide +kernel
theorem d_Pic_init_73 : decode b_Pic_init 73 = .ok (.new 37, 3) := by decide +kernel
theorem d_Pic_init_76 : decode b_Pic_init 76 = .ok (.dup, 1) := by decide +kernel
theorem d_Pic_init_77 : decode b_Pic_init 77 = .ok (.invokespecial 39, 3) := by decide +kernel
theorem d_Pic_init_80 : decode b_Pic_init 80 = .ok (.putfield 40, 3) := by decide +kernel
theorem d_Pic_init_83 : decode b_Pic_init 83 = .ok (.aload_n 0, 1) := by decide +kernel
theorem d_Pic_init_84 : decode b_Pic_init 84 = .ok (.new 44, 3) := by decide +kernel
theorem d_Pic_init_87 : decode b_Pic_init 87 = .ok (.dup, 1) := by decide +kernel
theorem d_Pic_init_88 : decode b_Pic_init 88 = .ok (.invokespecial 46, 3) := by decide +kernel
theorem d_Pic_init_91 : decode b_Pic_init 91 = .ok (.putfield 47, 3) := by decide +kernel
theorem d_Pic_init_94 : decode b_Pic_init 94 = .ok (.aload_n 0, 1) := by decide +kernel
theorem d_Pic_init_95 : decode b_Pic_init 95 = .ok (.new 51, 3) := by decide +kernel
theorem d_Pic_init_98 : decode b_Pic_init 98 = .ok (.dup, 1) := by decide +kernel
theorem d_Pic_init_99 : decode b_Pic_init 99 = .ok (.iload_n 3, 1) := by decide +kernel
theorem d_Pic_init_100 : decode b_Pic_init 100 = .ok (.invokespecial 53, 3) := by decide +kernel
theorem d_Pic_init_103 : decode b_Pic_init 103 = .ok (.putfield 56, 3) := by decide +kernel
theorem d_Pic_init_106 : decode b_Pic_init 106 = .ok (.aload_n 0, 1) := by decide +kernel
theorem d_Pic_init_107 : decode b_Pic_init 107 = .ok (.new 60, 3) := by decide +kernel
theorem d_Pic_init_110 : decode b_Pic_init 110 = .ok (.dup, 1) := by decide +kernel
theorem d_Pic_init_111 : decode b_Pic_init 111 = .ok (.aload_n 0, 1) := by decide +kernel
theorem d_Pic_init_112 : decode b_Pic_init 112 = .ok (.getfield 13, 3) := by decide +kernel
theorem d_Pic_init_115 : decode b_Pic_init 115 = .ok (.aload_n 0, 1) := by decide +kernel
theorem d_Pic_init_116 : decode b_Pic_init 116 = .ok (.getfield 17, 3) := by decide +kernel
theorem d_Pic_init_119 : decode b_Pic_init 119 = .ok (.invokespecial 62, 3) := by decide +kernel
theorem d_Pic_init_122 : decode b_Pic_init 122 = .ok (.putfield 65, 3) := by decide +kernel
theorem d_Pic_init_125 : decode b_Pic_init 125 = .ok (.aload_n 0, 1) := by decide +kernel
theorem d_Pic_init_126 : decode b_Pic_init 126 = .ok (.new 69, 3) := by decide +kernel
theorem d_Pic_init_129 : decode b_Pic_init 129 = .ok (.dup, 1) := by decide +kernel
theorem d_Pic_init_130 : decode b_Pic_init 130 = .ok (.invokespecial 71, 3) := by decide +kernel
theorem d_Pic_init_133 : decode b_Pic_init 133 = .ok (.putfield 72, 3) := by decide +kernel
theorem d_Pic_init_136 : decode b_Pic_init 136 = .ok (.aload_n 0, 1) := by decide +kernel
theorem d_Pic_init_137 : decode b_Pic_init 137 = .ok (.new 44, 3) := by decide +kernel
theorem d_Pic_init_140 : decode b_Pic_init 140 = .ok (.dup, 1) := by decide +kernel
theorem d_Pic_init_141 : decode b_Pic_init 141 = .ok (.invokespecial 46, 3) := by decide +kernel
theorem d_Pic_init_144 : decode b_Pic_init 144 = .ok (.putfield 76, 3) := by decide +kernel
theorem d_Pic_init_147 : decode b_Pic_init 147 = .ok (.return_, 1) := by decide +kernel
theorem d_Pic_hasCell_0 : decode b_Pic_hasCell 0 = .ok (.iload_n 1, 1) := by decide +kernel
theorem d_Pic_hasCell_1 : decode b_Pic_hasCell 1 = .ok (.ifCond .lt 27, 3) := by decide +kernel
theorem d_Pic_hasCell_4 : decode b_Pic_hasCell 4 = .ok (.iload_n 1, 1) := by decide +kernel
theorem d_Pic_hasCell_5 : decode b_Pic_hasCell 5 = .ok (.aload_n 0, 1) := by decide +kernel
theorem d_Pic_hasCell_6 : decode b_Pic_hasCell 6 = .ok (.getfield 13, 3) := by decide +kernel
theorem d_Pic_hasCell_9 : decode b_Pic_hasCell 9 = .ok (.if_icmp .ge 19, 3) := by decide +kernel
theorem d_Pic_hasCell_12 : decode b_Pic_hasCell 12 = .ok (.iload_n 2, 1) := by decide +kernel
theorem d_Pic_hasCell_13 : decode b_Pic_hasCell 13 = .ok (.ifCond .lt 15, 3) := by decide +kernel
theorem d_Pic_hasCell_16 : decode b_Pic_hasCell 16 = .ok (.iload_n 2, 1) := by decide +kernel
theorem d_Pic_hasCell_17 : decode b_Pic_hasCell 17 = .ok (.aload_n 0, 1) := by decide +kernel
theorem d_Pic_hasCell_18 : decode b_Pic_hasCell 18 = .ok (.getfield 17, 3) := by decide +kernel
theorem d_Pic_hasCell_21 : decode b_Pic_hasCell 21 = .ok (.if_icmp .ge 7, 3) := by decide +kernel
theorem d_Pic_hasCell_24 : decode b_Pic_hasCell 24 = .ok (.iconst 1, 1) := by decide +kernel
theorem d_Pic_hasCell_25 : decode b_Pic_hasCell 25 = .ok (.goto 4, 3) := by decide +kernel
theorem d_Pic_hasCell_28 : decode b_Pic_hasCell 28 = .ok (.iconst 0, 1) := by decide +kernel
theorem d_Pic_hasCell_29 : decode b_Pic_hasCell 29 = .ok (.ireturn, 1) := by decide +kernel
theorem d_Pic_needCell_0 : decode b_Pic_needCell 0 = .ok (.aload_n 0, 1) := by decide +kernel
theorem d_Pic_needCell_1 : decode b_Pic_needCell 1 = .ok (.iload_n 1, 1) := by decide +kernel
theorem d_Pic_needCell_2 : decode b_Pic_needCell 2 = .ok (.iload_n 2, 1) := by decide +kernel
theorem d_Pic_needCell_3 : decode b_Pic_needCell 3 = .ok (.invokevirtual 231, 3) := by decide +kernel
theorem d_Pic_needCell_6 : decode b_Pic_needCell 6 = .ok (.ifCond .ne 13, 3) := by decide +kernel
theorem d_Pic_needCell_9 : decode b_Pic_needCell 9 = .ok (.new 175, 3) := by decide +kernel
theorem d_Pic_needCell_12 : decode b_Pic_needCell 12 = .ok (.dup, 1) := by decide +kernel
theorem d_Pic_needCell_13 : decode b_Pic_needCell 13 = .ok (.ldc 235, 2) := by decide +kernel
theorem d_Pic_needCell_15 : decode b_Pic_needCell 15 = .ok (.invokespecial 179, 3) := by decide +kernel
theorem d_Pic_needCell_18 : decode b_Pic_needCell 18 = .ok (.athrow, 1) := by decide +kernel
theorem d_Pic_needCell_19 : decode b_Pic_needCell 19 = .ok (.return_, 1) := by decide +kernel
theorem d_Pic_needValue_0 : decode b_Pic_needValue 0 = .ok (.iload_n 0, 1) := by decide +kernel
theorem d_Pic_needValue_1 : decode b_Pic_needValue 1 = .ok (.ifCond .lt 10, 3) := by decide +kernel
theorem d_Pic_needValue_4 : decode b_Pic_needValue 4 = .ok (.iload_n 0, 1) := by decide +kernel
theorem d_Pic_needValue_5 : decode b_Pic_needValue 5 = .ok (.sipush 255, 3) := by decide +kernel
theorem d_Pic_needValue_8 : decode b_Pic_needValue 8 = .ok (.if_icmp .le 13, 3) := by decide +kernel
theorem d_Pic_needValue_11 : decode b_Pic_needValue 11 = .ok (.new 89, 3) := by decide +kernel
theorem d_Pic_needValue_14 : decode b_Pic_needValue 14 = .ok (.dup, 1) := by decide +kernel
theorem d_Pic_needValue_15 : decode b_Pic_needValue 15 = .ok (.ldc 237, 2) := by decide +kernel
theorem d_Pic_needValue_17 : decode b_Pic_needValue 17 = .ok (.invokespecial 93, 3) := by decide +kernel
theorem d_Pic_needValue_20 : decode b_Pic_needValue 20 = .ok (.athrow, 1) := by decide +kernel
theorem d_Pic_needValue_21 : decode b_Pic_needValue 21 = .ok (.return_, 1) := by decide +kernel
theorem d_Pic_placeOf_0 : decode b_Pic_placeOf 0 = .ok (.iload_n 2, 1) := by decide +kernel
theorem d_Pic_placeOf_1 : decode b_Pic_placeOf 1 = .ok (.aload_n 0, 1) := by decide +kernel
theorem d_Pic_placeOf_2 : decode b_Pic_placeOf 2 = .ok (.getfield 13, 3) := by decide +kernel
theorem d_Pic_placeOf_5 : decode b_Pic_placeOf 5 = .ok (.imul, 1) := by decide +kernel
theorem d_Pic_placeOf_6 : decode b_Pic_placeOf 6 = .ok (.iload_n 1, 1) := by decide +kernel
theorem d_Pic_placeOf_7 : decode b_Pic_placeOf 7 = .ok (.iadd, 1) := by decide +kernel
theorem d_Pic_placeOf_8 : decode b_Pic_placeOf 8 = .ok (.ireturn, 1) := by decide +kernel
theorem d_Pic_cell_0 : decode b_Pic_cell 0 = .ok (.aload_n 0, 1) := by decide +kernel
theorem d_Pic_cell_1 : decode b_Pic_cell 1 = .ok (.iload_n 2, 1) := by decide +kernel
theorem d_Pic_cell_2 : decode b_Pic_cell 2 = .ok (.iload_n 3, 1) := by decide +kernel
theorem d_Pic_cell_3 : decode b_Pic_cell 3 = .ok (.invokevirtual 79, 3) := by decide +kernel
theorem d_Pic_cell_6 : decode b_Pic_cell 6 = .ok (.iload 4, 2) := by decide +kernel
theorem d_Pic_cell_8 : decode b_Pic_cell 8 = .ok (.invokestatic 82, 3) := by decide +kernel
theorem d_Pic_cell_11 : decode b_Pic_cell 11 = .ok (.iload_n 1, 1) := by decide +kernel
theorem d_Pic_cell_12 : decode b_Pic_cell 12 = .ok (.ifCond .eq 10, 3) := by decide +kernel
theorem d_Pic_cell_15 : decode b_Pic_cell 15 = .ok (.aload_n 0, 1) := by decide +kernel
theorem d_Pic_cell_16 : decode b_Pic_cell 16 = .ok (.getfield 24, 3) := by decide +kernel
theorem d_Pic_cell_19 : decode b_Pic_cell 19 = .ok (.goto 7, 3) := by decide +kernel
theorem d_Pic_cell_22 : decode b_Pic_cell 22 = .ok (.aload_n 0, 1) := by decide +kernel
theorem d_Pic_cell_23 : decode b_Pic_cell 23 = .ok (.getfield 20, 3) := by decide +kernel
theorem d_Pic_cell_26 : decode b_Pic_cell 26 = .ok (.astore 5, 2) := by decide +kernel
theorem d_Pic_cell_28 : decode b_Pic_cell 28 = .ok (.aload_n 0, 1) := by decide +kernel
theorem d_Pic_cell_29 : decode b_Pic_cell 29 = .ok (.iload_n 2, 1) := by decide +kernel
theorem d_Pic_cell_30 : decode b_Pic_cell 30 = .ok (.iload_n 3, 1) := by decide +kernel
theorem d_Pic_cell_31 : decode b_Pic_cell 31 = .ok (.invokevirtual 85, 3) := by decide +kernel
theorem d_Pic_cell_34 : decode b_Pic_cell 34 = .ok (.istore 6, 2) := by decide +kernel
theorem d_Pic_cell_36 : decode b_Pic_cell 36 = .ok (.aload 5, 2) := by decide +kernel
theorem d_Pic_cell_38 : decode b_Pic_cell 38 = .ok (.iload 6, 2) := by decide +kernel
theorem d_Pic_cell_40 : decode b_Pic_cell 40 = .ok (.iaload, 1) := by decide +kernel
theorem d_Pic_cell_41 : decode b_Pic_cell 41 = .ok (.istore 7, 2) := by decide +kernel
theorem d_Pic_cell_43 : decode b_Pic_cell 43 = .ok (.aload 5, 2) := by decide +kernel
theorem d_Pic_cell_45 : decode b_Pic_cell 45 = .ok (.iload 6, 2) := by decide +kernel
theorem d_Pic_cell_47 : decode b_Pic_cell 47 = .ok (.iload 4, 2) := by decide +kernel
theorem d_Pic_cell_49 : decode b_Pic_cell 49 = .ok (.iastore, 1) := by decide +kernel
theorem d_Pic_cell_50 : decode b_Pic_cell 50 = .ok (.iload 7, 2) := by decide +kernel
theorem d_Pic_cell_52 : decode b_Pic_cell 52 = .ok (.ireturn, 1) := by decide +kernel
theorem d_Shift_moveTo_0 : decode b_Shift_moveTo 0 = .ok (.aload_n 0, 1) := by decide +kernel
theorem d_Shift_moveTo_1 : decode b_Shift_moveTo 1 = .ok (.iload_n 1, 1) := by decide +kernel
theorem d_Shift_moveTo_2 : decode b_Shift_moveTo 2 = .ok (.putfield 7, 3) := by decide +kernel
theorem d_Shift_moveTo_5 : decode b_Shift_moveTo 5 = .ok (.aload_n 0, 1) := by decide +kernel
theorem d_Shift_moveTo_6 : decode b_Shift_moveTo 6 = .ok (.iload_n 2, 1) := by decide +kernel
theorem d_Shift_moveTo_7 : decode b_Shift_moveTo 7 = .ok (.putfield 13, 3) := by decide +kernel
theorem d_Shift_moveTo_10 : decode b_Shift_moveTo 10 = .ok (.aload_n 0, 1) := by decide +kernel
theorem d_Shift_moveTo_11 : decode b_Shift_moveTo 11 = .ok (.iconst 0, 1) := by decide +kernel
theorem d_Shift_moveTo_12 : decode b_Shift_moveTo 12 = .ok (.putfield 16, 3) := by decide +kernel
theorem d_Shift_moveTo_15 : decode b_Shift_moveTo 15 = .ok (.aload_n 0, 1) := by decide +kernel
theorem d_Shift_moveTo_16 : decode b_Shift_moveTo 16 = .ok (.iconst 0, 1) := by decide +kernel
theorem d_Shift_moveTo_17 : decode b_Shift_moveTo 17 = .ok (.putfield 19, 3) := by decide +kernel
theorem d_Shift_moveTo_20 : decode b_Shift_moveTo 20 = .ok (.return_, 1) := by decide +kernel
theorem d_Shift_add_0 : decode b_Shift_add 0 = .ok (.aload_n 0, 1) := by decide +kernel
theorem d_Shift_add_1 : decode b_Shift_add 1 = .ok (.dup, 1) := by decide +kernel
theorem d_Shift_add_2 : decode b_Shift_add 2 = .ok (.getfield 16, 3) := by decide +kernel
theorem d_Shift_add_5 : decode b_Shift_add 5 = .ok (.iload_n 1, 1) := by decide +kernel
theorem d_Shift_add_6 : decode b_Shift_add 6 = .ok (.iadd, 1) := by decide +kernel
theorem d_Shift_add_7 : decode b_Shift_add 7 = .ok (.putfield 16, 3) := by decide +kernel
theorem d_Shift_add_10 : decode b_Shift_add 10 = .ok (.aload_n 0, 1) := by decide +kernel
theorem d_Shift_add_11 : decode b_Shift_add 11 = .ok (.dup, 1) := by decide +kernel
theorem d_Shift_add_12 : decode b_Shift_add 12 = .ok (.getfield 19, 3) := by decide +kernel
theorem d_Shift_add_15 : decode b_Shift_add 15 = .ok (.iconst 1, 1) := by decide +kernel
theorem d_Shift_add_16 : decode b_Shift_add 16 = .ok (.iadd, 1) := by decide +kernel
theorem d_Shift_add_17 : decode b_Shift_add 17 = .ok (.putfield 19, 3) := by decide +kernel
theorem d_Shift_add_20 : decode b_Shift_add 20 = .ok (.return_, 1) := by decide +kernel
theorem d_Pic_compareAt_0 : decode b_Pic_compareAt 0 = .ok (.iconst 0, 1) := by decide +kernel
theorem d_Pic_compareAt_1 : decode b_Pic_compareAt 1 = .ok (.istore_n 2, 1) := by decide +kernel
theorem d_Pic_compareAt_2 : decode b_Pic_compareAt 2 = .ok (.iload_n 2, 1) := by decide +kernel
theorem d_Pic_compareAt_3 : decode b_Pic_compareAt 3 = .ok (.aload_n 0, 1) := by decide +kernel
theorem d_Pic_compareAt_4 : decode b_Pic_compareAt 4 = .ok (.getfield 17, 3) := by decide +kernel
theorem d_Pic_compareAt_7 : decode b_Pic_compareAt 7 = .ok (.if_icmp .ge 84, 3) := by decide +kernel
theorem d_Pic_compareAt_10 : decode b_Pic_compareAt 10 = .ok (.iconst 0, 1) := by decide +kernel
theorem d_Pic_compareAt_11 : decode b_Pic_compareAt 11 = .ok (.istore_n 3, 1) := by decide +kernel
theorem d_Pic_compareAt_12 : decode b_Pic_compareAt 12 = .ok (.iload_n 3, 1) := by decide +kernel
theorem d_Pic_compareAt_13 : decode b_Pic_compareAt 13 = .ok (.aload_n 0, 1) := by decide +kernel
theorem d_Pic_compareAt_14 : decode b_Pic_compareAt 14 = .ok (.getfield 13, 3) := by decide +kernel
theorem d_Pic_compareAt_17 : decode b_Pic_compareAt 17 = .ok (.if_icmp .ge 68, 3) := by decide +kernel
theorem d_Pic_compareAt_20 : decode b_Pic_compareAt 20 = .ok (.iload_n 3, 1) := by decide +kernel
theorem d_Pic_compareAt_21 : decode b_Pic_compareAt 21 = .ok (.aload_n 1, 1) := by decide +kernel
theorem d_Pic_compareAt_22 : decode b_Pic_compareAt 22 = .ok (.getfield 116, 3) := by decide +kernel
theorem d_Pic_compareAt_25 : decode b_Pic_compareAt 25 = .ok (.iadd, 1) := by decide +kernel
theorem d_Pic_compareAt_26 : decode b_Pic_compareAt 26 = .ok (.istore 4, 2) := by decide +kernel
theorem d_Pic_compareAt_28 : decode b_Pic_compareAt 28 = .ok (.iload_n 2, 1) := by decide +kernel
theorem d_Pic_compareAt_29 : decode b_Pic_compareAt 29 = .ok (.aload_n 1, 1) := by decide +kernel
theorem d_Pic_compareAt_30 : decode b_Pic_compareAt 30 = .ok (.getfield 119, 3) := by decide +kernel
theorem d_Pic_compareAt_33 : decode b_Pic_compareAt 33 = .ok (.iadd, 1) := by decide +kernel
theorem d_Pic_compareAt_34 : decode b_Pic_compareAt 34 = .ok (.istore 5, 2) := by decide +kernel
theorem d_Pic_compareAt_36 : decode b_Pic_compareAt 36 = .ok (.aload_n 0, 1) := by decide +kernel
theorem d_Pic_compareAt_37 : decode b_Pic_compareAt 37 = .ok (.iload 4, 2) := by decide +kernel
theorem d_Pic_compareAt_39 : decode b_Pic_compareAt 39 = .ok (.iload 5, 2) := by decide +kernel
theorem d_Pic_compareAt_41 : decode b_Pic_compareAt 41 = .ok (.invokevirtual 231, 3) := by decide +kernel
theorem d_Pic_compareAt_44 : decode b_Pic_compareAt 44 = .ok (.ifCond .eq 35, 3) := by decide +kernel
theorem d_Pic_compareAt_47 : decode b_Pic_compareAt 47 = .ok (.aload_n 1, 1) := by decide +kernel
theorem d_Pic_compareAt_48 : decode b_Pic_compareAt 48 = .ok (.aload_n 0, 1) := by decide +kernel
theorem d_Pic_compareAt_49 : decode b_Pic_compareAt 49 = .ok (.getfield 20, 3) := by decide +kernel
theorem d_Pic_compareAt_52 : decode b_Pic_compareAt 52 = .ok (.aload_n 0, 1) := by decide +kernel
theorem d_Pic_compareAt_53 : decode b_Pic_compareAt 53 = .ok (.iload_n 3, 1) := by decide +kernel
theorem d_Pic_compareAt_54 : decode b_Pic_compareAt 54 = .ok (.iload_n 2, 1) := by decide +kernel
theorem d_Pic_compareAt_55 : decode b_Pic_compareAt 55 = .ok (.invokevirtual 85, 3) := by decide +kernel
theorem d_Pic_compareAt_58 : decode b_Pic_compareAt 58 = .ok (.iaload, 1) := by decide +kernel
theorem d_Pic_compareAt_59 : decode b_Pic_compareAt 59 = .ok (.aload_n 0, 1) := by decide +kernel
theorem d_Pic_compareAt_60 : decode b_Pic_compareAt 60 = .ok (.getfield 24, 3) := by decide +kernel
theorem d_Pic_compareAt_63 : decode b_Pic_compareAt 63 = .ok (.aload_n 0, 1) := by decide +kernel
theorem d_Pic_compareAt_64 : decode b_Pic_compareAt 64 = .ok (.iload 4, 2) := by decide +kernel
theorem d_Pic_compareAt_66 : decode b_Pic_compareAt 66 = .ok (.iload 5, 2) := by decide +kernel
theorem d_Pic_compareAt_68 : decode b_Pic_compareAt 68 = .ok (.invokevirtual 85, 3) := by decide +kernel
theorem d_Pic_compareAt_71 : decode b_Pic_compareAt 71 = .ok (.iaload, 1) := by decide +kernel
theorem d_Pic_compareAt_72 : decode b_Pic_compareAt 72 = .ok (.isub, 1) := by decide +kernel
theorem d_Pic_compareAt_73 : decode b_Pic_compareAt 73 = .ok (.invokestatic 241, 3) := by decide +kernel
theorem d_Pic_compareAt_76 : decode b_Pic_compareAt 76 = .ok (.invokevirtual 245, 3) := by decide +kernel
theorem d_Pic_compareAt_79 : decode b_Pic_compareAt 79 = .ok (.iinc 3 1, 3) := by decide +kernel
theorem d_Pic_compareAt_82 : decode b_Pic_compareAt 82 = .ok (.goto (-70), 3) := by decide +kernel
theorem d_Pic_compareAt_85 : decode b_Pic_compareAt 85 = .ok (.iinc 2 1, 3) := by decide +kernel
theorem d_Pic_compareAt_88 : decode b_Pic_compareAt 88 = .ok (.goto (-86), 3) := by decide +kernel
theorem d_Pic_compareAt_91 : decode b_Pic_compareAt 91 = .ok (.return_, 1) := by decide +kernel
theorem d_Shift_together_0 : decode b_Shift_together 0 = .ok (.aload_n 0, 1) := by decide +kernel
theorem d_Shift_together_1 : decode b_Shift_together 1 = .ok (.getfield 7, 3) := by decide +kernel
theorem d_Shift_together_4 : decode b_Shift_together 4 = .ok (.invokestatic 26, 3) := by decide +kernel
theorem d_Shift_together_7 : decode b_Shift_together 7 = .ok (.aload_n 0, 1) := by decide +kernel
theorem d_Shift_together_8 : decode b_Shift_together 8 = .ok (.getfield 13, 3) := by decide +kernel
theorem d_Shift_together_11 : decode b_Shift_together 11 = .ok (.invokestatic 26, 3) := by decide +kernel
theorem d_Shift_together_14 : decode b_Shift_together 14 = .ok (.iadd, 1) := by decide +kernel
theorem d_Shift_together_15 : decode b_Shift_together 15 = .ok (.ireturn, 1) := by decide +kernel
theorem d_Shift_isBetterThan_0 : decode b_Shift_isBetterThan 0 = .ok (.aload_n 0, 1) := by decide +kernel
theorem d_Shift_isBetterThan_1 : decode b_Shift_isBetterThan 1 = .ok (.getfield 16, 3) := by decide +kernel
theorem d_Shift_isBetterThan_4 : decode b_Shift_isBetterThan 4 = .ok (.i2l, 1) := by decide +kernel
theorem d_Shift_isBetterThan_5 : decode b_Shift_isBetterThan 5 = .ok (.aload_n 1, 1) := by decide +kernel
theorem d_Shift_isBetterThan_6 : decode b_Shift_isBetterThan 6 = .ok (.getfield 19, 3) := by decide +kernel
theorem d_Shift_isBetterThan_9 : decode b_Shift_isBetterThan 9 = .ok (.i2l, 1) := by decide +kernel
theorem d_Shift_isBetterThan_10 : decode b_Shift_isBetterThan 10 = .ok (.lmul, 1) := by decide +kernel
theorem d_Shift_isBetterThan_11 : decode b_Shift_isBetterThan 11 = .ok (.lstore_n 2, 1) := by decide +kernel
theorem d_Shift_isBetterThan_12 : decode b_Shift_isBetterThan 12 = .ok (.aload_n 1, 1) := by decide +kernel
theorem d_Shift_isBetterThan_13 : decode b_Shift_isBetterThan 13 = .ok (.getfield 16, 3) := by decide +kernel
theorem d_Shift_isBetterThan_16 : decode b_Shift_isBetterThan 16 = .ok (.i2l, 1) := by decide +kernel
theorem d_Shift_isBetterThan_17 : decode b_Shift_isBetterThan 17 = .ok (.aload_n 0, 1) := by decide +kernel
theorem d_Shift_isBetterThan_18 : decode b_Shift_isBetterThan 18 = .ok (.getfield 19, 3) := by decide +kernel
theorem d_Shift_isBetterThan_21 : decode b_Shift_isBetterThan 21 = .ok (.i2l, 1) := by decide +kernel
theorem d_Shift_isBetterThan_22 : decode b_Shift_isBetterThan 22 = .ok (.lmul, 1) := by decide +kernel
theorem d_Shift_isBetterThan_23 : decode b_Shift_isBetterThan 23 = .ok (.lstore 4, 2) := by decide +kernel
theorem d_Shift_isBetterThan_25 : decode b_Shift_isBetterThan 25 = .ok (.lload_n 2, 1) := by decide +kernel
theorem d_Shift_isBetterThan_26 : decode b_Shift_isBetterThan 26 = .ok (.lload 4, 2) := by decide +kernel
theorem d_Shift_isBetterThan_28 : decode b_Shift_isBetterThan 28 = .ok (.lcmp, 1) := by decide +kernel
theorem d_Shift_isBetterThan_29 : decode b_Shift_isBetterThan 29 = .ok (.ifCond .eq 16, 3) := by decide +kernel
theorem d_Shift_isBetterThan_32 : decode b_Shift_isBetterThan 32 = .ok (.lload_n 2, 1) := by decide +kernel
theorem d_Shift_isBetterThan_33 : decode b_Shift_isBetterThan 33 = .ok (.lload 4, 2) := by decide +kernel
theorem d_Shift_isBetterThan_35 : decode b_Shift_isBetterThan 35 = .ok (.lcmp, 1) := by decide +kernel
theorem d_Shift_isBetterThan_36 : decode b_Shift_isBetterThan 36 = .ok (.ifCond .ge 7, 3) := by decide +kernel
theorem d_Shift_isBetterThan_39 : decode b_Shift_isBetterThan 39 = .ok (.iconst 1, 1) := by decide +kernel
theorem d_Shift_isBetterThan_40 : decode b_Shift_isBetterThan 40 = .ok (.goto 4, 3) := by decide +kernel
theorem d_Shift_isBetterThan_43 : decode b_Shift_isBetterThan 43 = .ok (.iconst 0, 1) := by decide +kernel
theorem d_Shift_isBetterThan_44 : decode b_Shift_isBetterThan 44 = .ok (.ireturn, 1) := by decide +kernel
theorem d_Shift_isBetterThan_45 : decode b_Shift_isBetterThan 45 = .ok (.aload_n 0, 1) := by decide +kernel
theorem d_Shift_isBetterThan_46 : decode b_Shift_isBetterThan 46 = .ok (.invokevirtual 22, 3) := by decide +kernel
theorem d_Shift_isBetterThan_49 : decode b_Shift_isBetterThan 49 = .ok (.aload_n 1, 1) := by decide +kernel
theorem d_Shift_isBetterThan_50 : decode b_Shift_isBetterThan 50 = .ok (.invokevirtual 22, 3) := by decide +kernel
theorem d_Shift_isBetterThan_53 : decode b_Shift_isBetterThan 53 = .ok (.if_icmp .eq 20, 3) := by decide +kernel
theorem d_Shift_isBetterThan_56 : decode b_Shift_isBetterThan 56 = .ok (.aload_n 0, 1) := by decide +kernel
theorem d_Shift_isBetterThan_57 : decode b_Shift_isBetterThan 57 = .ok (.invokevirtual 22, 3) := by decide +kernel
theorem d_Shift_isBetterThan_60 : decode b_Shift_isBetterThan 60 = .ok (.aload_n 1, 1) := by decide +kernel
theorem d_Shift_isBetterThan_61 : decode b_Shift_isBetterThan 61 = .ok (.invokevirtual 22, 3) := by decide +kernel
theorem d_Shift_isBetterThan_64 : decode b_Shift_isBetterThan 64 = .ok (.if_icmp .ge 7, 3) := by decide +kernel
theorem d_Shift_isBetterThan_67 : decode b_Shift_isBetterThan 67 = .ok (.iconst 1, 1) := by decide +kernel
theorem d_Shift_isBetterThan_68 : decode b_Shift_isBetterThan 68 = .ok (.goto 4, 3) := by decide +kernel
theorem d_Shift_isBetterThan_71 : decode b_Shift_isBetterThan 71 = .ok (.iconst 0, 1) := by decide +kernel
theorem d_Shift_isBetterThan_72 : decode b_Shift_isBetterThan 72 = .ok (.ireturn, 1) := by decide +kernel
theorem d_Shift_isBetterThan_73 : decode b_Shift_isBetterThan 73 = .ok (.aload_n 0, 1) := by decide +kernel
theorem d_Shift_isBetterThan_74 : decode b_Shift_isBetterThan 74 = .ok (.getfield 7, 3) := by decide +kernel
theorem d_Shift_isBetterThan_77 : decode b_Shift_isBetterThan 77 = .ok (.aload_n 1, 1) := by decide +kernel
theorem d_Shift_isBetterThan_78 : decode b_Shift_isBetterThan 78 = .ok (.getfield 7, 3) := by decide +kernel
theorem d_Shift_isBetterThan_81 : decode b_Shift_isBetterThan 81 = .ok (.if_icmp .eq 20, 3) := by decide +kernel
theorem d_Shift_isBetterThan_84 : decode b_Shift_isBetterThan 84 = .ok (.aload_n 0, 1) := by decide +kernel
theorem d_Shift_isBetterThan_85 : decode b_Shift_isBetterThan 85 = .ok (.getfield 7, 3) := by decide +kernel
theorem d_Shift_isBetterThan_88 : decode b_Shift_isBetterThan 88 = .ok (.aload_n 1, 1) := by decide +kernel
theorem d_Shift_isBetterThan_89 : decode b_Shift_isBetterThan 89 = .ok (.getfield 7, 3) := by decide +kernel
theorem d_Shift_isBetterThan_92 : decode b_Shift_isBetterThan 92 = .ok (.if_icmp .ge 7, 3) := by decide +kernel
theorem d_Shift_isBetterThan_95 : decode b_Shift_isBetterThan 95 = .ok (.iconst 1, 1) := by decide +kernel
theorem d_Shift_isBetterThan_96 : decode b_Shift_isBetterThan 96 = .ok (.goto 4, 3) := by decide +kernel
theorem d_Shift_isBetterThan_99 : decode b_Shift_isBetterThan 99 = .ok (.iconst 0, 1) := by decide +kernel
theorem d_Shift_isBetterThan_100 : decode b_Shift_isBetterThan 100 = .ok (.ireturn, 1) := by decide +kernel
theorem d_Shift_isBetterThan_101 : decode b_Shift_isBetterThan 101 = .ok (.aload_n 0, 1) := by decide +kernel
theorem d_Shift_isBetterThan_102 : decode b_Shift_isBetterThan 102 = .ok (.getfield 13, 3) := by decide +kernel
theorem d_Shift_isBetterThan_105 : decode b_Shift_isBetterThan 105 = .ok (.aload_n 1, 1) := by decide +kernel
theorem d_Shift_isBetterThan_106 : decode b_Shift_isBetterThan 106 = .ok (.getfield 13, 3) := by decide +kernel
theorem d_Shift_isBetterThan_109 : decode b_Shift_isBetterThan 109 = .ok (.if_icmp .ge 7, 3) := by decide +kernel
theorem d_Shift_isBetterThan_112 : decode b_Shift_isBetterThan 112 = .ok (.iconst 1, 1) := by decide +kernel
theorem d_Shift_isBetterThan_113 : decode b_Shift_isBetterThan 113 = .ok (.goto 4, 3) := by decide +kernel
theorem d_Shift_isBetterThan_116 : decode b_Shift_isBetterThan 116 = .ok (.iconst 0, 1) := by decide +kernel
theorem d_Shift_isBetterThan_117 : decode b_Shift_isBetterThan 117 = .ok (.ireturn, 1) := by decide +kernel
theorem d_Shift_become_0 : decode b_Shift_become 0 = .ok (.aload_n 0, 1) := by decide +kernel
theorem d_Shift_become_1 : decode b_Shift_become 1 = .ok (.aload_n 1, 1) := by decide +kernel
theorem d_Shift_become_2 : decode b_Shift_become 2 = .ok (.getfield 7, 3) := by decide +kernel
theorem d_Shift_become_5 : decode b_Shift_become 5 = .ok (.putfield 7, 3) := by decide +kernel
theorem d_Shift_become_8 : decode b_Shift_become 8 = .ok (.aload_n 0, 1) := by decide +kernel
theorem d_Shift_become_9 : decode b_Shift_become 9 = .ok (.aload_n 1, 1) := by decide +kernel
theorem d_Shift_become_10 : decode b_Shift_become 10 = .ok (.getfield 13, 3) := by decide +kernel
theorem d_Shift_become_13 : decode b_Shift_become 13 = .ok (.putfield 13, 3) := by decide +kernel
theorem d_Shift_become_16 : decode b_Shift_become 16 = .ok (.aload_n 0, 1) := by decide +kernel
theorem d_Shift_become_17 : decode b_Shift_become 17 = .ok (.aload_n 1, 1) := by decide +kernel
theorem d_Shift_become_18 : decode b_Shift_become 18 = .ok (.getfield 16, 3) := by decide +kernel
theorem d_Shift_become_21 : decode b_Shift_become 21 = .ok (.putfield 16, 3) := by decide +kernel
theorem d_Shift_become_24 : decode b_Shift_become 24 = .ok (.aload_n 0, 1) := by decide +kernel
theorem d_Shift_become_25 : decode b_Shift_become 25 = .ok (.aload_n 1, 1) := by decide +kernel
theorem d_Shift_become_26 : decode b_Shift_become 26 = .ok (.getfield 19, 3) := by decide +kernel
theorem d_Shift_become_29 : decode b_Shift_become 29 = .ok (.putfield 19, 3) := by decide +kernel
theorem d_Shift_become_32 : decode b_Shift_become 32 = .ok (.return_, 1) := by decide +kernel
theorem d_Pic_register_0 : decode b_Pic_register 0 = .ok (.iload_n 1, 1) := by decide +kernel
theorem d_Pic_register_1 : decode b_Pic_register 1 = .ok (.ifCond .lt 8, 3) := by decide +kernel
theorem d_Pic_register_4 : decode b_Pic_register 4 = .ok (.iload_n 1, 1) := by decide +kernel
theorem d_Pic_register_5 : decode b_Pic_register 5 = .ok (.iconst 3, 1) := by decide +kernel
theorem d_Pic_register_6 : decode b_Pic_register 6 = .ok (.if_icmp .le 13, 3) := by decide +kernel
theorem d_Pic_register_9 : decode b_Pic_register 9 = .ok (.new 89, 3) := by decide +kernel
theorem d_Pic_register_12 : decode b_Pic_register 12 = .ok (.dup, 1) := by decide +kernel
theorem d_Pic_register_13 : decode b_Pic_register 13 = .ok (.ldc 91, 2) := by decide +kernel
theorem d_Pic_register_15 : decode b_Pic_register 15 = .ok (.invokespecial 93, 3) := by decide +kernel
theorem d_Pic_register_18 : decode b_Pic_register 18 = .ok (.athrow, 1) := by decide +kernel
theorem d_Pic_register_19 : decode b_Pic_register 19 = .ok (.aload_n 0, 1) := by decide +kernel
theorem d_Pic_register_20 : decode b_Pic_register 20 = .ok (.getfield 30, 3) := by decide +kernel
theorem d_Pic_register_23 : decode b_Pic_register 23 = .ok (.iconst 0, 1) := by decide +kernel
theorem d_Pic_register_24 : decode b_Pic_register 24 = .ok (.iconst 0, 1) := by decide +kernel
theorem d_Pic_register_25 : decode b_Pic_register 25 = .ok (.invokevirtual 96, 3) := by decide +kernel
theorem d_Pic_register_28 : decode b_Pic_register 28 = .ok (.aload_n 0, 1) := by decide +kernel
theorem d_Pic_register_29 : decode b_Pic_register 29 = .ok (.aload_n 0, 1) := by decide +kernel
theorem d_Pic_register_30 : decode b_Pic_register 30 = .ok (.getfield 30, 3) := by decide +kernel
theorem d_Pic_register_33 : decode b_Pic_register 33 = .ok (.invokevirtual 99, 3) := by decide +kernel
theorem d_Pic_register_36 : decode b_Pic_register 36 = .ok (.iload_n 1, 1) := by decide +kernel
theorem d_Pic_register_37 : decode b_Pic_register 37 = .ok (.ineg, 1) := by decide +kernel
theorem d_Pic_register_38 : decode b_Pic_register 38 = .ok (.istore_n 2, 1) := by decide +kernel
theorem d_Pic_register_39 : decode b_Pic_register 39 = .ok (.iload_n 2, 1) := by decide +kernel
theorem d_Pic_register_40 : decode b_Pic_register 40 = .ok (.iload_n 1, 1) := by decide +kernel
theorem d_Pic_register_41 : decode b_Pic_register 41 = .ok (.if_icmp .gt 65, 3) := by decide +kernel
theorem d_Pic_register_44 : decode b_Pic_register 44 = .ok (.iload_n 1, 1) := by decide +kernel
theorem d_Pic_register_45 : decode b_Pic_register 45 = .ok (.ineg, 1) := by decide +kernel
theorem d_Pic_register_46 : decode b_Pic_register 46 = .ok (.istore_n 3, 1) := by decide +kernel
theorem d_Pic_register_47 : decode b_Pic_register 47 = .ok (.iload_n 3, 1) := by decide +kernel
theorem d_Pic_register_48 : decode b_Pic_register 48 = .ok (.iload_n 1, 1) := by decide +kernel
theorem d_Pic_register_49 : decode b_Pic_register 49 = .ok (.if_icmp .gt 51, 3) := by decide +kernel
theorem d_Pic_register_52 : decode b_Pic_register 52 = .ok (.aload_n 0, 1) := by decide +kernel
theorem d_Pic_register_53 : decode b_Pic_register 53 = .ok (.getfield 34, 3) := by decide +kernel
theorem d_Pic_register_56 : decode b_Pic_register 56 = .ok (.iload_n 2, 1) := by decide +kernel
theorem d_Pic_register_57 : decode b_Pic_register 57 = .ok (.iload_n 3, 1) := by decide +kernel
theorem d_Pic_register_58 : decode b_Pic_register 58 = .ok (.invokevirtual 96, 3) := by decide +kernel
theorem d_Pic_register_61 : decode b_Pic_register 61 = .ok (.aload_n 0, 1) := by decide +kernel
theorem d_Pic_register_62 : decode b_Pic_register 62 = .ok (.aload_n 0, 1) := by decide +kernel
theorem d_Pic_register_63 : decode b_Pic_register 63 = .ok (.getfield 34, 3) := by decide +kernel
theorem d_Pic_register_66 : decode b_Pic_register 66 = .ok (.invokevirtual 99, 3) := by decide +kernel
theorem d_Pic_register_69 : decode b_Pic_register 69 = .ok (.aload_n 0, 1) := by decide +kernel
theorem d_Pic_register_70 : decode b_Pic_register 70 = .ok (.getfield 34, 3) := by decide +kernel
theorem d_Pic_register_73 : decode b_Pic_register 73 = .ok (.aload_n 0, 1) := by decide +kernel
theorem d_Pic_register_74 : decode b_Pic_register 74 = .ok (.getfield 30, 3) := by decide +kernel
theorem d_Pic_register_77 : decode b_Pic_register 77 = .ok (.invokevirtual 103, 3) := by decide +kernel
theorem d_Pic_register_80 : decode b_Pic_register 80 = .ok (.ifCond .eq 14, 3) := by decide +kernel
theorem d_Pic_register_83 : decode b_Pic_register 83 = .ok (.aload_n 0, 1) := by decide +kernel
theorem d_Pic_register_84 : decode b_Pic_register 84 = .ok (.getfield 30, 3) := by decide +kernel
theorem d_Pic_register_87 : decode b_Pic_register 87 = .ok (.aload_n 0, 1) := by decide +kernel
theorem d_Pic_register_88 : decode b_Pic_register 88 = .ok (.getfield 34, 3) := by decide +kernel
theorem d_Pic_register_91 : decode b_Pic_register 91 = .ok (.invokevirtual 107, 3) := by decide +kernel
theorem d_Pic_register_94 : decode b_Pic_register 94 = .ok (.iinc 3 1, 3) := by decide +kernel
theorem d_Pic_register_97 : decode b_Pic_register 97 = .ok (.goto (-50), 3) := by decide +kernel
theorem d_Pic_register_100 : decode b_Pic_register 100 = .ok (.iinc 2 1, 3) := by decide +kernel
theorem d_Pic_register_103 : decode b_Pic_register 103 = .ok (.goto (-64), 3) := by decide +kernel
theorem d_Pic_register_106 : decode b_Pic_register 106 = .ok (.aload_n 0, 1) := by decide +kernel
theorem d_Pic_register_107 : decode b_Pic_register 107 = .ok (.getfield 30, 3) := by decide +kernel
theorem d_Pic_register_110 : decode b_Pic_register 110 = .ok (.getfield 110, 3) := by decide +kernel
theorem d_Pic_register_113 : decode b_Pic_register 113 = .ok (.ireturn, 1) := by decide +kernel
theorem d_Pic_needHalf_0 : decode b_Pic_needHalf 0 = .ok (.iload_n 0, 1) := by decide +kernel
theorem d_Pic_needHalf_1 : decode b_Pic_needHalf 1 = .ok (.ifCond .eq 18, 3) := by decide +kernel
theorem d_Pic_needHalf_4 : decode b_Pic_needHalf 4 = .ok (.iload_n 0, 1) := by decide +kernel
theorem d_Pic_needHalf_5 : decode b_Pic_needHalf 5 = .ok (.iconst 1, 1) := by decide +kernel
theorem d_Pic_needHalf_6 : decode b_Pic_needHalf 6 = .ok (.if_icmp .eq 13, 3) := by decide +kernel
theorem d_Pic_needHalf_9 : decode b_Pic_needHalf 9 = .ok (.new 175, 3) := by decide +kernel
theorem d_Pic_needHalf_12 : decode b_Pic_needHalf 12 = .ok (.dup, 1) := by decide +kernel
theorem d_Pic_needHalf_13 : decode b_Pic_needHalf 13 = .ok (.ldc 239, 2) := by decide +kernel
theorem d_Pic_needHalf_15 : decode b_Pic_needHalf 15 = .ok (.invokespecial 179, 3) := by decide +kernel
theorem d_Pic_needHalf_18 : decode b_Pic_needHalf 18 = .ok (.athrow, 1) := by decide +kernel
theorem d_Pic_needHalf_19 : decode b_Pic_needHalf 19 = .ok (.return_, 1) := by decide +kernel
theorem d_Pic_shift_0 : decode b_Pic_shift 0 = .ok (.iload_n 1, 1) := by decide +kernel
theorem d_Pic_shift_1 : decode b_Pic_shift 1 = .ok (.invokestatic 113, 3) := by decide +kernel
theorem d_Pic_shift_4 : decode b_Pic_shift 4 = .ok (.iload_n 1, 1) := by decide +kernel
theorem d_Pic_shift_5 : decode b_Pic_shift 5 = .ok (.ifCond .ne 13, 3) := by decide +kernel
theorem d_Pic_shift_8 : decode b_Pic_shift 8 = .ok (.aload_n 0, 1) := by decide +kernel
theorem d_Pic_shift_9 : decode b_Pic_shift 9 = .ok (.getfield 30, 3) := by decide +kernel
theorem d_Pic_shift_12 : decode b_Pic_shift 12 = .ok (.getfield 116, 3) := by decide +kernel
theorem d_Pic_shift_15 : decode b_Pic_shift 15 = .ok (.goto 10, 3) := by decide +kernel
theorem d_Pic_shift_18 : decode b_Pic_shift 18 = .ok (.aload_n 0, 1) := by decide +kernel
theorem d_Pic_shift_19 : decode b_Pic_shift 19 = .ok (.getfield 30, 3) := by decide +kernel
theorem d_Pic_shift_22 : decode b_Pic_shift 22 = .ok (.getfield 119, 3) := by decide +kernel
theorem d_Pic_shift_25 : decode b_Pic_shift 25 = .ok (.ireturn, 1) := by decide +kernel
theorem d_Charts_find_0 : decode b_Charts_find 0 = .ok (.iconst 0, 1) := by decide +kernel
theorem d_Charts_find_1 : decode b_Charts_find 1 = .ok (.istore_n 3, 1) := by decide +kernel
theorem d_Charts_find_2 : decode b_Charts_find 2 = .ok (.iload_n 3, 1) := by decide +kernel
theorem d_Charts_find_3 : decode b_Charts_find 3 = .ok (.aload_n 0, 1) := by decide +kernel
theorem d_Charts_find_4 : decode b_Charts_find 4 = .ok (.getfield 18, 3) := by decide +kernel
theorem d_Charts_find_7 : decode b_Charts_find 7 = .ok (.if_icmp .ge 31, 3) := by decide +kernel
theorem d_Charts_find_10 : decode b_Charts_find 10 = .ok (.aload_n 0, 1) := by decide +kernel
theorem d_Charts_find_11 : decode b_Charts_find 11 = .ok (.getfield 11, 3) := by decide +kernel
theorem d_Charts_find_14 : decode b_Charts_find 14 = .ok (.iload_n 3, 1) := by decide +kernel
theorem d_Charts_find_15 : decode b_Charts_find 15 = .ok (.iaload, 1) := by decide +kernel
theorem d_Charts_find_16 : decode b_Charts_find 16 = .ok (.iload_n 1, 1) := by decide +kernel
theorem d_Charts_find_17 : decode b_Charts_find 17 = .ok (.if_icmp .ne 15, 3) := by decide +kernel
theorem d_Charts_find_20 : decode b_Charts_find 20 = .ok (.aload_n 0, 1) := by decide +kernel
theorem d_Charts_find_21 : decode b_Charts_find 21 = .ok (.getfield 15, 3) := by decide +kernel
theorem d_Charts_find_24 : decode b_Charts_find 24 = .ok (.iload_n 3, 1) := by decide +kernel
theorem d_Charts_find_25 : decode b_Charts_find 25 = .ok (.iaload, 1) := by decide +kernel
theorem d_Charts_find_26 : decode b_Charts_find 26 = .ok (.iload_n 2, 1) := by decide +kernel
theorem d_Charts_find_27 : decode b_Charts_find 27 = .ok (.if_icmp .ne 5, 3) := by decide +kernel
theorem d_Charts_find_30 : decode b_Charts_find 30 = .ok (.iload_n 3, 1) := by decide +kernel
theorem d_Charts_find_31 : decode b_Charts_find 31 = .ok (.ireturn, 1) := by decide +kernel
theorem d_Charts_find_32 : decode b_Charts_find 32 = .ok (.iinc 3 1, 3) := by decide +kernel
theorem d_Charts_find_35 : decode b_Charts_find 35 = .ok (.goto (-33), 3) := by decide +kernel
theorem d_Charts_find_38 : decode b_Charts_find 38 = .ok (.iconst (-1), 1) := by decide +kernel
theorem d_Charts_find_39 : decode b_Charts_find 39 = .ok (.ireturn, 1) := by decide +kernel
theorem d_Charts_remove_0 : decode b_Charts_remove 0 = .ok (.iload_n 1, 1) := by decide +kernel
theorem d_Charts_remove_1 : decode b_Charts_remove 1 = .ok (.ifCond .lt 51, 3) := by decide +kernel
theorem d_Charts_remove_4 : decode b_Charts_remove 4 = .ok (.iload_n 1, 1) := by decide +kernel
theorem d_Charts_remove_5 : decode b_Charts_remove 5 = .ok (.aload_n 0, 1) := by decide +kernel
theorem d_Charts_remove_6 : decode b_Charts_remove 6 = .ok (.getfield 18, 3) := by decide +kernel
theorem d_Charts_remove_9 : decode b_Charts_remove 9 = .ok (.if_icmp .ge 43, 3) := by decide +kernel
theorem d_Charts_remove_12 : decode b_Charts_remove 12 = .ok (.aload_n 0, 1) := by decide +kernel
theorem d_Charts_remove_13 : decode b_Charts_remove 13 = .ok (.dup, 1) := by decide +kernel
theorem d_Charts_remove_14 : decode b_Charts_remove 14 = .ok (.getfield 18, 3) := by decide +kernel
theorem d_Charts_remove_17 : decode b_Charts_remove 17 = .ok (.iconst 1, 1) := by decide +kernel
theorem d_Charts_remove_18 : decode b_Charts_remove 18 = .ok (.isub, 1) := by decide +kernel
theorem d_Charts_remove_19 : decode b_Charts_remove 19 = .ok (.putfield 18, 3) := by decide +kernel
theorem d_Charts_remove_22 : decode b_Charts_remove 22 = .ok (.aload_n 0, 1) := by decide +kernel
theorem d_Charts_remove_23 : decode b_Charts_remove 23 = .ok (.getfield 11, 3) := by decide +kernel
theorem d_Charts_remove_26 : decode b_Charts_remove 26 = .ok (.iload_n 1, 1) := by decide +kernel
theorem d_Charts_remove_27 : decode b_Charts_remove 27 = .ok (.aload_n 0, 1) := by decide +kernel
theorem d_Charts_remove_28 : decode b_Charts_remove 28 = .ok (.getfield 11, 3) := by decide +kernel
theorem d_Charts_remove_31 : decode b_Charts_remove 31 = .ok (.aload_n 0, 1) := by decide +kernel
theorem d_Charts_remove_32 : decode b_Charts_remove 32 = .ok (.getfield 18, 3) := by decide +kernel
theorem d_Charts_remove_35 : decode b_Charts_remove 35 = .ok (.iaload, 1) := by decide +kernel
theorem d_Charts_remove_36 : decode b_Charts_remove 36 = .ok (.iastore, 1) := by decide +kernel
theorem d_Charts_remove_37 : decode b_Charts_remove 37 = .ok (.aload_n 0, 1) := by decide +kernel
theorem d_Charts_remove_38 : decode b_Charts_remove 38 = .ok (.getfield 15, 3) := by decide +kernel
theorem d_Charts_remove_41 : decode b_Charts_remove 41 = .ok (.iload_n 1, 1) := by decide +kernel
theorem d_Charts_remove_42 : decode b_Charts_remove 42 = .ok (.aload_n 0, 1) := by decide +kernel
theorem d_Charts_remove_43 : decode b_Charts_remove 43 = .ok (.getfield 15, 3) := by decide +kernel
theorem d_Charts_remove_46 : decode b_Charts_remove 46 = .ok (.aload_n 0, 1) := by decide +kernel
theorem d_Charts_remove_47 : decode b_Charts_remove 47 = .ok (.getfield 18, 3) := by decide +kernel
theorem d_Charts_remove_50 : decode b_Charts_remove 50 = .ok (.iaload, 1) := by decide +kernel
theorem d_Charts_remove_51 : decode b_Charts_remove 51 = .ok (.iastore, 1) := by decide +kernel
theorem d_Charts_remove_52 : decode b_Charts_remove 52 = .ok (.return_, 1) := by decide +kernel
theorem d_Charts_isFull_0 : decode b_Charts_isFull 0 = .ok (.aload_n 0, 1) := by decide +kernel
theorem d_Charts_isFull_1 : decode b_Charts_isFull 1 = .ok (.getfield 18, 3) := by decide +kernel
theorem d_Charts_isFull_4 : decode b_Charts_isFull 4 = .ok (.bipush 12, 2) := by decide +kernel
theorem d_Charts_isFull_6 : decode b_Charts_isFull 6 = .ok (.if_icmp .lt 7, 3) := by decide +kernel
theorem d_Charts_isFull_9 : decode b_Charts_isFull 9 = .ok (.iconst 1, 1) := by decide +kernel
theorem d_Charts_isFull_10 : decode b_Charts_isFull 10 = .ok (.goto 4, 3) := by decide +kernel
theorem d_Charts_isFull_13 : decode b_Charts_isFull 13 = .ok (.iconst 0, 1) := by decide +kernel
theorem d_Charts_isFull_14 : decode b_Charts_isFull 14 = .ok (.ireturn, 1) := by decide +kernel
theorem d_Charts_add_0 : decode b_Charts_add 0 = .ok (.aload_n 0, 1) := by decide +kernel
theorem d_Charts_add_1 : decode b_Charts_add 1 = .ok (.getfield 18, 3) := by decide +kernel
theorem d_Charts_add_4 : decode b_Charts_add 4 = .ok (.bipush 12, 2) := by decide +kernel
theorem d_Charts_add_6 : decode b_Charts_add 6 = .ok (.if_icmp .ge 33, 3) := by decide +kernel
theorem d_Charts_add_9 : decode b_Charts_add 9 = .ok (.aload_n 0, 1) := by decide +kernel
theorem d_Charts_add_10 : decode b_Charts_add 10 = .ok (.getfield 11, 3) := by decide +kernel
theorem d_Charts_add_13 : decode b_Charts_add 13 = .ok (.aload_n 0, 1) := by decide +kernel
theorem d_Charts_add_14 : decode b_Charts_add 14 = .ok (.getfield 18, 3) := by decide +kernel
theorem d_Charts_add_17 : decode b_Charts_add 17 = .ok (.iload_n 1, 1) := by decide +kernel
theorem d_Charts_add_18 : decode b_Charts_add 18 = .ok (.iastore, 1) := by decide +kernel
theorem d_Charts_add_19 : decode b_Charts_add 19 = .ok (.aload_n 0, 1) := by decide +kernel
theorem d_Charts_add_20 : decode b_Charts_add 20 = .ok (.getfield 15, 3) := by decide +kernel
theorem d_Charts_add_23 : decode b_Charts_add 23 = .ok (.aload_n 0, 1) := by decide +kernel
theorem d_Charts_add_24 : decode b_Charts_add 24 = .ok (.getfield 18, 3) := by decide +kernel
theorem d_Charts_add_27 : decode b_Charts_add 27 = .ok (.iload_n 2, 1) := by decide +kernel
theorem d_Charts_add_28 : decode b_Charts_add 28 = .ok (.iastore, 1) := by decide +kernel
theorem d_Charts_add_29 : decode b_Charts_add 29 = .ok (.aload_n 0, 1) := by decide +kernel
theorem d_Charts_add_30 : decode b_Charts_add 30 = .ok (.dup, 1) := by decide +kernel
theorem d_Charts_add_31 : decode b_Charts_add 31 = .ok (.getfield 18, 3) := by decide +kernel
theorem d_Charts_add_34 : decode b_Charts_add 34 = .ok (.iconst 1, 1) := by decide +kernel
theorem d_Charts_add_35 : decode b_Charts_add 35 = .ok (.iadd, 1) := by decide +kernel
theorem d_Charts_add_36 : decode b_Charts_add 36 = .ok (.putfield 18, 3) := by decide +kernel
theorem d_Charts_add_39 : decode b_Charts_add 39 = .ok (.return_, 1) := by decide +kernel
theorem d_Pic_chart_0 : decode b_Pic_chart 0 = .ok (.aload_n 0, 1) := by decide +kernel
theorem d_Pic_chart_1 : decode b_Pic_chart 1 = .ok (.iload_n 1, 1) := by decide +kernel
theorem d_Pic_chart_2 : decode b_Pic_chart 2 = .ok (.iload_n 2, 1) := by decide +kernel
theorem d_Pic_chart_3 : decode b_Pic_chart 3 = .ok (.invokevirtual 79, 3) := by decide +kernel
theorem d_Pic_chart_6 : decode b_Pic_chart 6 = .ok (.aload_n 0, 1) := by decide +kernel
theorem d_Pic_chart_7 : decode b_Pic_chart 7 = .ok (.getfield 40, 3) := by decide +kernel
theorem d_Pic_chart_10 : decode b_Pic_chart 10 = .ok (.iload_n 1, 1) := by decide +kernel
theorem d_Pic_chart_11 : decode b_Pic_chart 11 = .ok (.iload_n 2, 1) := by decide +kernel
theorem d_Pic_chart_12 : decode b_Pic_chart 12 = .ok (.invokevirtual 122, 3) := by decide +kernel
theorem d_Pic_chart_15 : decode b_Pic_chart 15 = .ok (.istore 4, 2) := by decide +kernel
theorem d_Pic_chart_17 : decode b_Pic_chart 17 = .ok (.iload 4, 2) := by decide +kernel
theorem d_Pic_chart_19 : decode b_Pic_chart 19 = .ok (.iconst (-1), 1) := by decide +kernel
theorem d_Pic_chart_20 : decode b_Pic_chart 20 = .ok (.if_icmp .eq 7, 3) := by decide +kernel
theorem d_Pic_chart_23 : decode b_Pic_chart 23 = .ok (.iconst 1, 1) := by decide +kernel
theorem d_Pic_chart_24 : decode b_Pic_chart 24 = .ok (.goto 4, 3) := by decide +kernel
theorem d_Pic_chart_27 : decode b_Pic_chart 27 = .ok (.iconst 0, 1) := by decide +kernel
theorem d_Pic_chart_28 : decode b_Pic_chart 28 = .ok (.istore 5, 2) := by decide +kernel
theorem d_Pic_chart_30 : decode b_Pic_chart 30 = .ok (.iload 5, 2) := by decide +kernel
theorem d_Pic_chart_32 : decode b_Pic_chart 32 = .ok (.iload_n 3, 1) := by decide +kernel
theorem d_Pic_chart_33 : decode b_Pic_chart 33 = .ok (.if_icmp .ne 5, 3) := by decide +kernel
theorem d_Pic_chart_36 : decode b_Pic_chart 36 = .ok (.iconst 0, 1) := by decide +kernel
theorem d_Pic_chart_37 : decode b_Pic_chart 37 = .ok (.ireturn, 1) := by decide +kernel
theorem d_Pic_chart_38 : decode b_Pic_chart 38 = .ok (.iload_n 3, 1) := by decide +kernel
theorem d_Pic_chart_39 : decode b_Pic_chart 39 = .ok (.ifCond .ne 14, 3) := by decide +kernel
theorem d_Pic_chart_42 : decode b_Pic_chart 42 = .ok (.aload_n 0, 1) := by decide +kernel
theorem d_Pic_chart_43 : decode b_Pic_chart 43 = .ok (.getfield 40, 3) := by decide +kernel
theorem d_Pic_chart_46 : decode b_Pic_chart 46 = .ok (.iload 4, 2) := by decide +kernel
theorem d_Pic_chart_48 : decode b_Pic_chart 48 = .ok (.invokevirtual 125, 3) := by decide +kernel
theorem d_Pic_chart_51 : decode b_Pic_chart 51 = .ok (.iconst 1, 1) := by decide +kernel
theorem d_Pic_chart_52 : decode b_Pic_chart 52 = .ok (.ireturn, 1) := by decide +kernel
theorem d_Pic_chart_53 : decode b_Pic_chart 53 = .ok (.aload_n 0, 1) := by decide +kernel
theorem d_Pic_chart_54 : decode b_Pic_chart 54 = .ok (.getfield 40, 3) := by decide +kernel
theorem d_Pic_chart_57 : decode b_Pic_chart 57 = .ok (.invokevirtual 128, 3) := by decide +kernel
theorem d_Pic_chart_60 : decode b_Pic_chart 60 = .ok (.ifCond .eq 13, 3) := by decide +kernel
theorem d_Pic_chart_63 : decode b_Pic_chart 63 = .ok (.new 132, 3) := by decide +kernel
theorem d_Pic_chart_66 : decode b_Pic_chart 66 = .ok (.dup, 1) := by decide +kernel
theorem d_Pic_chart_67 : decode b_Pic_chart 67 = .ok (.ldc 134, 2) := by decide +kernel
theorem d_Pic_chart_69 : decode b_Pic_chart 69 = .ok (.invokespecial 136, 3) := by decide +kernel
theorem d_Pic_chart_72 : decode b_Pic_chart 72 = .ok (.athrow, 1) := by decide +kernel
theorem d_Pic_chart_73 : decode b_Pic_chart 73 = .ok (.aload_n 0, 1) := by decide +kernel
theorem d_Pic_chart_74 : decode b_Pic_chart 74 = .ok (.getfield 40, 3) := by decide +kernel
theorem d_Pic_chart_77 : decode b_Pic_chart 77 = .ok (.iload_n 1, 1) := by decide +kernel
theorem d_Pic_chart_78 : decode b_Pic_chart 78 = .ok (.iload_n 2, 1) := by decide +kernel
theorem d_Pic_chart_79 : decode b_Pic_chart 79 = .ok (.invokevirtual 137, 3) := by decide +kernel
theorem d_Pic_chart_82 : decode b_Pic_chart 82 = .ok (.iconst 1, 1) := by decide +kernel
theorem d_Pic_chart_83 : decode b_Pic_chart 83 = .ok (.ireturn, 1) := by decide +kernel
theorem d_Fraction_commonOf_0 : decode b_Fraction_commonOf 0 = .ok (.lload_n 0, 1) := by decide +kernel
theorem d_Fraction_commonOf_1 : decode b_Fraction_commonOf 1 = .ok (.lstore 4, 2) := by decide +kernel
theorem d_Fraction_commonOf_3 : decode b_Fraction_commonOf 3 = .ok (.lload_n 2, 1) := by decide +kernel
theorem d_Fraction_commonOf_4 : decode b_Fraction_commonOf 4 = .ok (.lstore 6, 2) := by decide +kernel
theorem d_Fraction_commonOf_6 : decode b_Fraction_commonOf 6 = .ok (.iconst 0, 1) := by decide +kernel
theorem d_Fraction_commonOf_7 : decode b_Fraction_commonOf 7 = .ok (.istore 8, 2) := by decide +kernel
theorem d_Fraction_commonOf_9 : decode b_Fraction_commonOf 9 = .ok (.iload 8, 2) := by decide +kernel
theorem d_Fraction_commonOf_11 : decode b_Fraction_commonOf 11 = .ok (.bipush 100, 2) := by decide +kernel
theorem d_Fraction_commonOf_13 : decode b_Fraction_commonOf 13 = .ok (.if_icmp .ge 31, 3) := by decide +kernel
theorem d_Fraction_commonOf_16 : decode b_Fraction_commonOf 16 = .ok (.lload 6, 2) := by decide +kernel
theorem d_Fraction_commonOf_18 : decode b_Fraction_commonOf 18 = .ok (.lconst 0, 1) := by decide +kernel
theorem d_Fraction_commonOf_19 : decode b_Fraction_commonOf 19 = .ok (.lcmp, 1) := by decide +kernel
theorem d_Fraction_commonOf_20 : decode b_Fraction_commonOf 20 = .ok (.ifCond .eq 24, 3) := by decide +kernel
theorem d_Fraction_commonOf_23 : decode b_Fraction_commonOf 23 = .ok (.lload 4, 2) := by decide +kernel
theorem d_Fraction_commonOf_25 : decode b_Fraction_commonOf 25 = .ok (.lload 6, 2) := by decide +kernel
theorem d_Fraction_commonOf_27 : decode b_Fraction_commonOf 27 = .ok (.lrem, 1) := by decide +kernel
theorem d_Fraction_commonOf_28 : decode b_Fraction_commonOf 28 = .ok (.lstore 9, 2) := by decide +kernel
theorem d_Fraction_commonOf_30 : decode b_Fraction_commonOf 30 = .ok (.lload 6, 2) := by decide +kernel
theorem d_Fraction_commonOf_32 : decode b_Fraction_commonOf 32 = .ok (.lstore 4, 2) := by decide +kernel
theorem d_Fraction_commonOf_34 : decode b_Fraction_commonOf 34 = .ok (.lload 9, 2) := by decide +kernel
theorem d_Fraction_commonOf_36 : decode b_Fraction_commonOf 36 = .ok (.lstore 6, 2) := by decide +kernel
theorem d_Fraction_commonOf_38 : decode b_Fraction_commonOf 38 = .ok (.iinc 8 1, 3) := by decide +kernel
theorem d_Fraction_commonOf_41 : decode b_Fraction_commonOf 41 = .ok (.goto (-32), 3) := by decide +kernel
theorem d_Fraction_commonOf_44 : decode b_Fraction_commonOf 44 = .ok (.lload 4, 2) := by decide +kernel
theorem d_Fraction_commonOf_46 : decode b_Fraction_commonOf 46 = .ok (.lreturn, 1) := by decide +kernel
theorem d_Fraction_become_0 : decode b_Fraction_become 0 = .ok (.lload_n 1, 1) := by decide +kernel
theorem d_Fraction_become_1 : decode b_Fraction_become 1 = .ok (.invokestatic 16, 3) := by decide +kernel
theorem d_Fraction_become_4 : decode b_Fraction_become 4 = .ok (.lload_n 3, 1) := by decide +kernel
theorem d_Fraction_become_5 : decode b_Fraction_become 5 = .ok (.invokestatic 22, 3) := by decide +kernel
theorem d_Fraction_become_8 : decode b_Fraction_become 8 = .ok (.lstore 5, 2) := by decide +kernel
theorem d_Fraction_become_10 : decode b_Fraction_become 10 = .ok (.lload 5, 2) := by decide +kernel
theorem d_Fraction_become_12 : decode b_Fraction_become 12 = .ok (.lconst 0, 1) := by decide +kernel
theorem d_Fraction_become_13 : decode b_Fraction_become 13 = .ok (.lcmp, 1) := by decide +kernel
theorem d_Fraction_become_14 : decode b_Fraction_become 14 = .ok (.ifCond .le 19, 3) := by decide +kernel
theorem d_Fraction_become_17 : decode b_Fraction_become 17 = .ok (.aload_n 0, 1) := by decide +kernel
theorem d_Fraction_become_18 : decode b_Fraction_become 18 = .ok (.lload_n 1, 1) := by decide +kernel
theorem d_Fraction_become_19 : decode b_Fraction_become 19 = .ok (.lload 5, 2) := by decide +kernel
theorem d_Fraction_become_21 : decode b_Fraction_become 21 = .ok (.ldiv, 1) := by decide +kernel
theorem d_Fraction_become_22 : decode b_Fraction_become 22 = .ok (.putfield 7, 3) := by decide +kernel
theorem d_Fraction_become_25 : decode b_Fraction_become 25 = .ok (.aload_n 0, 1) := by decide +kernel
theorem d_Fraction_become_26 : decode b_Fraction_become 26 = .ok (.lload_n 3, 1) := by decide +kernel
theorem d_Fraction_become_27 : decode b_Fraction_become 27 = .ok (.lload 5, 2) := by decide +kernel
theorem d_Fraction_become_29 : decode b_Fraction_become 29 = .ok (.ldiv, 1) := by decide +kernel
theorem d_Fraction_become_30 : decode b_Fraction_become 30 = .ok (.putfield 13, 3) := by decide +kernel
theorem d_Fraction_become_33 : decode b_Fraction_become 33 = .ok (.return_, 1) := by decide +kernel
theorem d_Pic_weighLight_0 : decode b_Pic_weighLight 0 = .ok (.lconst 0, 1) := by decide +kernel
theorem d_Pic_weighLight_1 : decode b_Pic_weighLight 1 = .ok (.lstore_n 1, 1) := by decide +kernel
theorem d_Pic_weighLight_2 : decode b_Pic_weighLight 2 = .ok (.lconst 0, 1) := by decide +kernel
theorem d_Pic_weighLight_3 : decode b_Pic_weighLight 3 = .ok (.lstore_n 3, 1) := by decide +kernel
theorem d_Pic_weighLight_4 : decode b_Pic_weighLight 4 = .ok (.iconst 0, 1) := by decide +kernel

theorem d_Pic_weighLight_5 : decode b_Pic_weighLight 5 = .ok (.istore 5, 2) := by decide +kernel
theorem d_Pic_weighLight_7 : decode b_Pic_weighLight 7 = .ok (.iload 5, 2) := by decide +kernel
theorem d_Pic_weighLight_9 : decode b_Pic_weighLight 9 = .ok (.aload_n 0, 1) := by decide +kernel
theorem d_Pic_weighLight_10 : decode b_Pic_weighLight 10 = .ok (.getfield 40, 3) := by decide +kernel
theorem d_Pic_weighLight_13 : decode b_Pic_weighLight 13 = .ok (.getfield 217, 3) := by decide +kernel
theorem d_Pic_weighLight_16 : decode b_Pic_weighLight 16 = .ok (.if_icmp .ge 123, 3) := by decide +kernel
theorem d_Pic_weighLight_19 : decode b_Pic_weighLight 19 = .ok (.aload_n 0, 1) := by decide +kernel
theorem d_Pic_weighLight_20 : decode b_Pic_weighLight 20 = .ok (.getfield 40, 3) := by decide +kernel
theorem d_Pic_weighLight_23 : decode b_Pic_weighLight 23 = .ok (.getfield 247, 3) := by decide +kernel
theorem d_Pic_weighLight_26 : decode b_Pic_weighLight 26 = .ok (.iload 5, 2) := by decide +kernel
theorem d_Pic_weighLight_28 : decode b_Pic_weighLight 28 = .ok (.iaload, 1) := by decide +kernel
theorem d_Pic_weighLight_29 : decode b_Pic_weighLight 29 = .ok (.istore 6, 2) := by decide +kernel
theorem d_Pic_weighLight_31 : decode b_Pic_weighLight 31 = .ok (.aload_n 0, 1) := by decide +kernel
theorem d_Pic_weighLight_32 : decode b_Pic_weighLight 32 = .ok (.getfield 40, 3) := by decide +kernel
theorem d_Pic_weighLight_35 : decode b_Pic_weighLight 35 = .ok (.getfield 250, 3) := by decide +kernel
theorem d_Pic_weighLight_38 : decode b_Pic_weighLight 38 = .ok (.iload 5, 2) := by decide +kernel
theorem d_Pic_weighLight_40 : decode b_Pic_weighLight 40 = .ok (.iaload, 1) := by decide +kernel
theorem d_Pic_weighLight_41 : decode b_Pic_weighLight 41 = .ok (.istore 7, 2) := by decide +kernel
theorem d_Pic_weighLight_43 : decode b_Pic_weighLight 43 = .ok (.iload 6, 2) := by decide +kernel
theorem d_Pic_weighLight_45 : decode b_Pic_weighLight 45 = .ok (.aload_n 0, 1) := by decide +kernel
theorem d_Pic_weighLight_46 : decode b_Pic_weighLight 46 = .ok (.getfield 30, 3) := by decide +kernel
theorem d_Pic_weighLight_49 : decode b_Pic_weighLight 49 = .ok (.getfield 116, 3) := by decide +kernel
theorem d_Pic_weighLight_52 : decode b_Pic_weighLight 52 = .ok (.iadd, 1) := by decide +kernel
theorem d_Pic_weighLight_53 : decode b_Pic_weighLight 53 = .ok (.istore 8, 2) := by decide +kernel
theorem d_Pic_weighLight_55 : decode b_Pic_weighLight 55 = .ok (.iload 7, 2) := by decide +kernel
theorem d_Pic_weighLight_57 : decode b_Pic_weighLight 57 = .ok (.aload_n 0, 1) := by decide +kernel
theorem d_Pic_weighLight_58 : decode b_Pic_weighLight 58 = .ok (.getfield 30, 3) := by decide +kernel
theorem d_Pic_weighLight_61 : decode b_Pic_weighLight 61 = .ok (.getfield 119, 3) := by decide +kernel
theorem d_Pic_weighLight_64 : decode b_Pic_weighLight 64 = .ok (.iadd, 1) := by decide +kernel
theorem d_Pic_weighLight_65 : decode b_Pic_weighLight 65 = .ok (.istore 9, 2) := by decide +kernel
theorem d_Pic_weighLight_67 : decode b_Pic_weighLight 67 = .ok (.aload_n 0, 1) := by decide +kernel
theorem d_Pic_weighLight_68 : decode b_Pic_weighLight 68 = .ok (.iload 6, 2) := by decide +kernel
theorem d_Pic_weighLight_70 : decode b_Pic_weighLight 70 = .ok (.iload 7, 2) := by decide +kernel
theorem d_Pic_weighLight_72 : decode b_Pic_weighLight 72 = .ok (.invokevirtual 231, 3) := by decide +kernel
theorem d_Pic_weighLight_75 : decode b_Pic_weighLight 75 = .ok (.ifCond .eq 58, 3) := by decide +kernel
theorem d_Pic_weighLight_78 : decode b_Pic_weighLight 78 = .ok (.aload_n 0, 1) := by decide +kernel
theorem d_Pic_weighLight_79 : decode b_Pic_weighLight 79 = .ok (.iload 8, 2) := by decide +kernel
theorem d_Pic_weighLight_81 : decode b_Pic_weighLight 81 = .ok (.iload 9, 2) := by decide +kernel
theorem d_Pic_weighLight_83 : decode b_Pic_weighLight 83 = .ok (.invokevirtual 231, 3) := by decide +kernel
theorem d_Pic_weighLight_86 : decode b_Pic_weighLight 86 = .ok (.ifCond .eq 47, 3) := by decide +kernel
theorem d_Pic_weighLight_89 : decode b_Pic_weighLight 89 = .ok (.aload_n 0, 1) := by decide +kernel
theorem d_Pic_weighLight_90 : decode b_Pic_weighLight 90 = .ok (.getfield 24, 3) := by decide +kernel
theorem d_Pic_weighLight_93 : decode b_Pic_weighLight 93 = .ok (.aload_n 0, 1) := by decide +kernel
theorem d_Pic_weighLight_94 : decode b_Pic_weighLight 94 = .ok (.iload 8, 2) := by decide +kernel
theorem d_Pic_weighLight_96 : decode b_Pic_weighLight 96 = .ok (.iload 9, 2) := by decide +kernel
theorem d_Pic_weighLight_98 : decode b_Pic_weighLight 98 = .ok (.invokevirtual 85, 3) := by decide +kernel
theorem d_Pic_weighLight_101 : decode b_Pic_weighLight 101 = .ok (.iaload, 1) := by decide +kernel
theorem d_Pic_weighLight_102 : decode b_Pic_weighLight 102 = .ok (.istore 10, 2) := by decide +kernel
theorem d_Pic_weighLight_104 : decode b_Pic_weighLight 104 = .ok (.lload_n 1, 1) := by decide +kernel
theorem d_Pic_weighLight_105 : decode b_Pic_weighLight 105 = .ok (.aload_n 0, 1) := by decide +kernel
theorem d_Pic_weighLight_106 : decode b_Pic_weighLight 106 = .ok (.getfield 20, 3) := by decide +kernel
theorem d_Pic_weighLight_109 : decode b_Pic_weighLight 109 = .ok (.aload_n 0, 1) := by decide +kernel
theorem d_Pic_weighLight_110 : decode b_Pic_weighLight 110 = .ok (.iload 6, 2) := by decide +kernel
theorem d_Pic_weighLight_112 : decode b_Pic_weighLight 112 = .ok (.iload 7, 2) := by decide +kernel
theorem d_Pic_weighLight_114 : decode b_Pic_weighLight 114 = .ok (.invokevirtual 85, 3) := by decide +kernel
theorem d_Pic_weighLight_117 : decode b_Pic_weighLight 117 = .ok (.iaload, 1) := by decide +kernel
theorem d_Pic_weighLight_118 : decode b_Pic_weighLight 118 = .ok (.iload 10, 2) := by decide +kernel
theorem d_Pic_weighLight_120 : decode b_Pic_weighLight 120 = .ok (.imul, 1) := by decide +kernel
theorem d_Pic_weighLight_121 : decode b_Pic_weighLight 121 = .ok (.i2l, 1) := by decide +kernel
theorem d_Pic_weighLight_122 : decode b_Pic_weighLight 122 = .ok (.ladd, 1) := by decide +kernel
theorem d_Pic_weighLight_123 : decode b_Pic_weighLight 123 = .ok (.lstore_n 1, 1) := by decide +kernel
theorem d_Pic_weighLight_124 : decode b_Pic_weighLight 124 = .ok (.lload_n 3, 1) := by decide +kernel
theorem d_Pic_weighLight_125 : decode b_Pic_weighLight 125 = .ok (.iload 10, 2) := by decide +kernel
theorem d_Pic_weighLight_127 : decode b_Pic_weighLight 127 = .ok (.iload 10, 2) := by decide +kernel
theorem d_Pic_weighLight_129 : decode b_Pic_weighLight 129 = .ok (.imul, 1) := by decide +kernel
theorem d_Pic_weighLight_130 : decode b_Pic_weighLight 130 = .ok (.i2l, 1) := by decide +kernel
theorem d_Pic_weighLight_131 : decode b_Pic_weighLight 131 = .ok (.ladd, 1) := by decide +kernel
theorem d_Pic_weighLight_132 : decode b_Pic_weighLight 132 = .ok (.lstore_n 3, 1) := by decide +kernel
theorem d_Pic_weighLight_133 : decode b_Pic_weighLight 133 = .ok (.iinc 5 1, 3) := by decide +kernel
theorem d_Pic_weighLight_136 : decode b_Pic_weighLight 136 = .ok (.goto (-129), 3) := by decide +kernel
theorem d_Pic_weighLight_139 : decode b_Pic_weighLight 139 = .ok (.lload_n 1, 1) := by decide +kernel
theorem d_Pic_weighLight_140 : decode b_Pic_weighLight 140 = .ok (.lconst 0, 1) := by decide +kernel
theorem d_Pic_weighLight_141 : decode b_Pic_weighLight 141 = .ok (.lcmp, 1) := by decide +kernel
theorem d_Pic_weighLight_142 : decode b_Pic_weighLight 142 = .ok (.ifCond .eq 9, 3) := by decide +kernel
theorem d_Pic_weighLight_145 : decode b_Pic_weighLight 145 = .ok (.lload_n 3, 1) := by decide +kernel
theorem d_Pic_weighLight_146 : decode b_Pic_weighLight 146 = .ok (.lconst 0, 1) := by decide +kernel
theorem d_Pic_weighLight_147 : decode b_Pic_weighLight 147 = .ok (.lcmp, 1) := by decide +kernel
theorem d_Pic_weighLight_148 : decode b_Pic_weighLight 148 = .ok (.ifCond .ne 15, 3) := by decide +kernel
theorem d_Pic_weighLight_151 : decode b_Pic_weighLight 151 = .ok (.aload_n 0, 1) := by decide +kernel
theorem d_Pic_weighLight_152 : decode b_Pic_weighLight 152 = .ok (.getfield 47, 3) := by decide +kernel
theorem d_Pic_weighLight_155 : decode b_Pic_weighLight 155 = .ok (.lconst 1, 1) := by decide +kernel
theorem d_Pic_weighLight_156 : decode b_Pic_weighLight 156 = .ok (.lconst 1, 1) := by decide +kernel
theorem d_Pic_weighLight_157 : decode b_Pic_weighLight 157 = .ok (.invokevirtual 253, 3) := by decide +kernel
theorem d_Pic_weighLight_160 : decode b_Pic_weighLight 160 = .ok (.goto 12, 3) := by decide +kernel
theorem d_Pic_weighLight_163 : decode b_Pic_weighLight 163 = .ok (.aload_n 0, 1) := by decide +kernel
theorem d_Pic_weighLight_164 : decode b_Pic_weighLight 164 = .ok (.getfield 47, 3) := by decide +kernel
theorem d_Pic_weighLight_167 : decode b_Pic_weighLight 167 = .ok (.lload_n 1, 1) := by decide +kernel
theorem d_Pic_weighLight_168 : decode b_Pic_weighLight 168 = .ok (.lload_n 3, 1) := by decide +kernel
theorem d_Pic_weighLight_169 : decode b_Pic_weighLight 169 = .ok (.invokevirtual 253, 3) := by decide +kernel
theorem d_Pic_weighLight_172 : decode b_Pic_weighLight 172 = .ok (.return_, 1) := by decide +kernel
theorem d_Pic_gain_0 : decode b_Pic_gain 0 = .ok (.iload_n 1, 1) := by decide +kernel
theorem d_Pic_gain_1 : decode b_Pic_gain 1 = .ok (.invokestatic 113, 3) := by decide +kernel
theorem d_Pic_gain_4 : decode b_Pic_gain 4 = .ok (.aload_n 0, 1) := by decide +kernel
theorem d_Pic_gain_5 : decode b_Pic_gain 5 = .ok (.invokevirtual 140, 3) := by decide +kernel
theorem d_Pic_gain_8 : decode b_Pic_gain 8 = .ok (.iload_n 1, 1) := by decide +kernel
theorem d_Pic_gain_9 : decode b_Pic_gain 9 = .ok (.ifCond .ne 13, 3) := by decide +kernel
theorem d_Pic_gain_12 : decode b_Pic_gain 12 = .ok (.aload_n 0, 1) := by decide +kernel
theorem d_Pic_gain_13 : decode b_Pic_gain 13 = .ok (.getfield 47, 3) := by decide +kernel
theorem d_Pic_gain_16 : decode b_Pic_gain 16 = .ok (.getfield 143, 3) := by decide +kernel
theorem d_Pic_gain_19 : decode b_Pic_gain 19 = .ok (.goto 10, 3) := by decide +kernel
theorem d_Pic_gain_22 : decode b_Pic_gain 22 = .ok (.aload_n 0, 1) := by decide +kernel
theorem d_Pic_gain_23 : decode b_Pic_gain 23 = .ok (.getfield 47, 3) := by decide +kernel
theorem d_Pic_gain_26 : decode b_Pic_gain 26 = .ok (.getfield 147, 3) := by decide +kernel
theorem d_Pic_gain_29 : decode b_Pic_gain 29 = .ok (.l2i, 1) := by decide +kernel
theorem d_Pic_gain_30 : decode b_Pic_gain 30 = .ok (.ireturn, 1) := by decide +kernel
theorem d_Noise_tell_0 : decode b_Noise_tell 0 = .ok (.aload_n 0, 1) := by decide +kernel
theorem d_Noise_tell_1 : decode b_Noise_tell 1 = .ok (.getfield 15, 3) := by decide +kernel
theorem d_Noise_tell_4 : decode b_Noise_tell 4 = .ok (.iload_n 1, 1) := by decide +kernel
theorem d_Noise_tell_5 : decode b_Noise_tell 5 = .ok (.aload_n 0, 1) := by decide +kernel
theorem d_Noise_tell_6 : decode b_Noise_tell 6 = .ok (.getfield 15, 3) := by decide +kernel
theorem d_Noise_tell_9 : decode b_Noise_tell 9 = .ok (.iload_n 1, 1) := by decide +kernel
theorem d_Noise_tell_10 : decode b_Noise_tell 10 = .ok (.iaload, 1) := by decide +kernel
theorem d_Noise_tell_11 : decode b_Noise_tell 11 = .ok (.iconst (-1), 1) := by decide +kernel
theorem d_Noise_tell_12 : decode b_Noise_tell 12 = .ok (.if_icmp .ne 7, 3) := by decide +kernel
theorem d_Noise_tell_15 : decode b_Noise_tell 15 = .ok (.iload_n 2, 1) := by decide +kernel
theorem d_Noise_tell_16 : decode b_Noise_tell 16 = .ok (.goto 13, 3) := by decide +kernel
theorem d_Noise_tell_19 : decode b_Noise_tell 19 = .ok (.aload_n 0, 1) := by decide +kernel
theorem d_Noise_tell_20 : decode b_Noise_tell 20 = .ok (.getfield 15, 3) := by decide +kernel
theorem d_Noise_tell_23 : decode b_Noise_tell 23 = .ok (.iload_n 1, 1) := by decide +kernel
theorem d_Noise_tell_24 : decode b_Noise_tell 24 = .ok (.iaload, 1) := by decide +kernel
theorem d_Noise_tell_25 : decode b_Noise_tell 25 = .ok (.iload_n 2, 1) := by decide +kernel
theorem d_Noise_tell_26 : decode b_Noise_tell 26 = .ok (.invokestatic 22, 3) := by decide +kernel
theorem d_Noise_tell_29 : decode b_Noise_tell 29 = .ok (.iastore, 1) := by decide +kernel
theorem d_Noise_tell_30 : decode b_Noise_tell 30 = .ok (.aload_n 0, 1) := by decide +kernel
theorem d_Noise_tell_31 : decode b_Noise_tell 31 = .ok (.getfield 19, 3) := by decide +kernel
theorem d_Noise_tell_34 : decode b_Noise_tell 34 = .ok (.iload_n 1, 1) := by decide +kernel
theorem d_Noise_tell_35 : decode b_Noise_tell 35 = .ok (.aload_n 0, 1) := by decide +kernel
theorem d_Noise_tell_36 : decode b_Noise_tell 36 = .ok (.getfield 19, 3) := by decide +kernel
theorem d_Noise_tell_39 : decode b_Noise_tell 39 = .ok (.iload_n 1, 1) := by decide +kernel
theorem d_Noise_tell_40 : decode b_Noise_tell 40 = .ok (.iaload, 1) := by decide +kernel
theorem d_Noise_tell_41 : decode b_Noise_tell 41 = .ok (.iload_n 2, 1) := by decide +kernel
theorem d_Noise_tell_42 : decode b_Noise_tell 42 = .ok (.invokestatic 28, 3) := by decide +kernel
theorem d_Noise_tell_45 : decode b_Noise_tell 45 = .ok (.iastore, 1) := by decide +kernel
theorem d_Noise_tell_46 : decode b_Noise_tell 46 = .ok (.aload_n 0, 1) := by decide +kernel
theorem d_Noise_tell_47 : decode b_Noise_tell 47 = .ok (.dup, 1) := by decide +kernel
theorem d_Noise_tell_48 : decode b_Noise_tell 48 = .ok (.getfield 31, 3) := by decide +kernel
theorem d_Noise_tell_51 : decode b_Noise_tell 51 = .ok (.iconst 1, 1) := by decide +kernel
theorem d_Noise_tell_52 : decode b_Noise_tell 52 = .ok (.iadd, 1) := by decide +kernel
theorem d_Noise_tell_53 : decode b_Noise_tell 53 = .ok (.putfield 31, 3) := by decide +kernel
theorem d_Noise_tell_56 : decode b_Noise_tell 56 = .ok (.iload_n 2, 1) := by decide +kernel
theorem d_Noise_tell_57 : decode b_Noise_tell 57 = .ok (.iload_n 3, 1) := by decide +kernel
theorem d_Noise_tell_58 : decode b_Noise_tell 58 = .ok (.isub, 1) := by decide +kernel
theorem d_Noise_tell_59 : decode b_Noise_tell 59 = .ok (.invokestatic 34, 3) := by decide +kernel
theorem d_Noise_tell_62 : decode b_Noise_tell 62 = .ok (.aload_n 0, 1) := by decide +kernel
theorem d_Noise_tell_63 : decode b_Noise_tell 63 = .ok (.getfield 11, 3) := by decide +kernel
theorem d_Noise_tell_66 : decode b_Noise_tell 66 = .ok (.if_icmp .le 13, 3) := by decide +kernel
theorem d_Noise_tell_69 : decode b_Noise_tell 69 = .ok (.aload_n 0, 1) := by decide +kernel
theorem d_Noise_tell_70 : decode b_Noise_tell 70 = .ok (.dup, 1) := by decide +kernel
theorem d_Noise_tell_71 : decode b_Noise_tell 71 = .ok (.getfield 38, 3) := by decide +kernel
theorem d_Noise_tell_74 : decode b_Noise_tell 74 = .ok (.iconst 1, 1) := by decide +kernel
theorem d_Noise_tell_75 : decode b_Noise_tell 75 = .ok (.iadd, 1) := by decide +kernel
theorem d_Noise_tell_76 : decode b_Noise_tell 76 = .ok (.putfield 38, 3) := by decide +kernel
theorem d_Noise_tell_79 : decode b_Noise_tell 79 = .ok (.return_, 1) := by decide +kernel
theorem d_Noise_boundOf_0 : decode b_Noise_boundOf 0 = .ok (.aload_n 0, 1) := by decide +kernel
theorem d_Noise_boundOf_1 : decode b_Noise_boundOf 1 = .ok (.getfield 15, 3) := by decide +kernel
theorem d_Noise_boundOf_4 : decode b_Noise_boundOf 4 = .ok (.iload_n 1, 1) := by decide +kernel
theorem d_Noise_boundOf_5 : decode b_Noise_boundOf 5 = .ok (.iaload, 1) := by decide +kernel
theorem d_Noise_boundOf_6 : decode b_Noise_boundOf 6 = .ok (.iconst (-1), 1) := by decide +kernel
theorem d_Noise_boundOf_7 : decode b_Noise_boundOf 7 = .ok (.if_icmp .ne 8, 3) := by decide +kernel
theorem d_Noise_boundOf_10 : decode b_Noise_boundOf 10 = .ok (.aload_n 0, 1) := by decide +kernel
theorem d_Noise_boundOf_11 : decode b_Noise_boundOf 11 = .ok (.getfield 11, 3) := by decide +kernel
theorem d_Noise_boundOf_14 : decode b_Noise_boundOf 14 = .ok (.ireturn, 1) := by decide +kernel
theorem d_Noise_boundOf_15 : decode b_Noise_boundOf 15 = .ok (.aload_n 0, 1) := by decide +kernel
theorem d_Noise_boundOf_16 : decode b_Noise_boundOf 16 = .ok (.getfield 15, 3) := by decide +kernel
theorem d_Noise_boundOf_19 : decode b_Noise_boundOf 19 = .ok (.iload_n 1, 1) := by decide +kernel
theorem d_Noise_boundOf_20 : decode b_Noise_boundOf 20 = .ok (.iaload, 1) := by decide +kernel
theorem d_Noise_boundOf_21 : decode b_Noise_boundOf 21 = .ok (.iload_n 2, 1) := by decide +kernel
theorem d_Noise_boundOf_22 : decode b_Noise_boundOf 22 = .ok (.isub, 1) := by decide +kernel
theorem d_Noise_boundOf_23 : decode b_Noise_boundOf 23 = .ok (.invokestatic 34, 3) := by decide +kernel
theorem d_Noise_boundOf_26 : decode b_Noise_boundOf 26 = .ok (.aload_n 0, 1) := by decide +kernel
theorem d_Noise_boundOf_27 : decode b_Noise_boundOf 27 = .ok (.getfield 19, 3) := by decide +kernel
theorem d_Noise_boundOf_30 : decode b_Noise_boundOf 30 = .ok (.iload_n 1, 1) := by decide +kernel
theorem d_Noise_boundOf_31 : decode b_Noise_boundOf 31 = .ok (.iaload, 1) := by decide +kernel
theorem d_Noise_boundOf_32 : decode b_Noise_boundOf 32 = .ok (.iload_n 2, 1) := by decide +kernel
theorem d_Noise_boundOf_33 : decode b_Noise_boundOf 33 = .ok (.isub, 1) := by decide +kernel
theorem d_Noise_boundOf_34 : decode b_Noise_boundOf 34 = .ok (.invokestatic 34, 3) := by decide +kernel
theorem d_Noise_boundOf_37 : decode b_Noise_boundOf 37 = .ok (.invokestatic 28, 3) := by decide +kernel
theorem d_Noise_boundOf_40 : decode b_Noise_boundOf 40 = .ok (.istore_n 3, 1) := by decide +kernel
theorem d_Noise_boundOf_41 : decode b_Noise_boundOf 41 = .ok (.aload_n 0, 1) := by decide +kernel
theorem d_Noise_boundOf_42 : decode b_Noise_boundOf 42 = .ok (.getfield 11, 3) := by decide +kernel
theorem d_Noise_boundOf_45 : decode b_Noise_boundOf 45 = .ok (.iload_n 3, 1) := by decide +kernel
theorem d_Noise_boundOf_46 : decode b_Noise_boundOf 46 = .ok (.iadd, 1) := by decide +kernel
theorem d_Noise_boundOf_47 : decode b_Noise_boundOf 47 = .ok (.ireturn, 1) := by decide +kernel
theorem d_Pic_boundAt_0 : decode b_Pic_boundAt 0 = .ok (.aload_n 0, 1) := by decide +kernel
theorem d_Pic_boundAt_1 : decode b_Pic_boundAt 1 = .ok (.iload_n 1, 1) := by decide +kernel
theorem d_Pic_boundAt_2 : decode b_Pic_boundAt 2 = .ok (.iload_n 2, 1) := by decide +kernel
theorem d_Pic_boundAt_3 : decode b_Pic_boundAt 3 = .ok (.invokevirtual 85, 3) := by decide +kernel
theorem d_Pic_boundAt_6 : decode b_Pic_boundAt 6 = .ok (.istore_n 3, 1) := by decide +kernel
theorem d_Pic_boundAt_7 : decode b_Pic_boundAt 7 = .ok (.aload_n 0, 1) := by decide +kernel
theorem d_Pic_boundAt_8 : decode b_Pic_boundAt 8 = .ok (.getfield 56, 3) := by decide +kernel
theorem d_Pic_boundAt_11 : decode b_Pic_boundAt 11 = .ok (.iload_n 3, 1) := by decide +kernel
theorem d_Pic_boundAt_12 : decode b_Pic_boundAt 12 = .ok (.aload_n 0, 1) := by decide +kernel
theorem d_Pic_boundAt_13 : decode b_Pic_boundAt 13 = .ok (.getfield 20, 3) := by decide +kernel
theorem d_Pic_boundAt_16 : decode b_Pic_boundAt 16 = .ok (.iload_n 3, 1) := by decide +kernel
theorem d_Pic_boundAt_17 : decode b_Pic_boundAt 17 = .ok (.iaload, 1) := by decide +kernel
theorem d_Pic_boundAt_18 : decode b_Pic_boundAt 18 = .ok (.invokevirtual 259, 3) := by decide +kernel
theorem d_Pic_boundAt_21 : decode b_Pic_boundAt 21 = .ok (.ireturn, 1) := by decide +kernel
theorem d_Pic_repeat_0 : decode b_Pic_repeat 0 = .ok (.aload_n 0, 1) := by decide +kernel
theorem d_Pic_repeat_1 : decode b_Pic_repeat 1 = .ok (.iload_n 1, 1) := by decide +kernel
theorem d_Pic_repeat_2 : decode b_Pic_repeat 2 = .ok (.iload_n 2, 1) := by decide +kernel
theorem d_Pic_repeat_3 : decode b_Pic_repeat 3 = .ok (.invokevirtual 79, 3) := by decide +kernel
theorem d_Pic_repeat_6 : decode b_Pic_repeat 6 = .ok (.iload_n 3, 1) := by decide +kernel
theorem d_Pic_repeat_7 : decode b_Pic_repeat 7 = .ok (.invokestatic 82, 3) := by decide +kernel
theorem d_Pic_repeat_10 : decode b_Pic_repeat 10 = .ok (.aload_n 0, 1) := by decide +kernel
theorem d_Pic_repeat_11 : decode b_Pic_repeat 11 = .ok (.iload_n 1, 1) := by decide +kernel
theorem d_Pic_repeat_12 : decode b_Pic_repeat 12 = .ok (.iload_n 2, 1) := by decide +kernel
theorem d_Pic_repeat_13 : decode b_Pic_repeat 13 = .ok (.invokevirtual 85, 3) := by decide +kernel
theorem d_Pic_repeat_16 : decode b_Pic_repeat 16 = .ok (.istore 4, 2) := by decide +kernel
theorem d_Pic_repeat_18 : decode b_Pic_repeat 18 = .ok (.aload_n 0, 1) := by decide +kernel
theorem d_Pic_repeat_19 : decode b_Pic_repeat 19 = .ok (.getfield 56, 3) := by decide +kernel
theorem d_Pic_repeat_22 : decode b_Pic_repeat 22 = .ok (.iload 4, 2) := by decide +kernel
theorem d_Pic_repeat_24 : decode b_Pic_repeat 24 = .ok (.iload_n 3, 1) := by decide +kernel
theorem d_Pic_repeat_25 : decode b_Pic_repeat 25 = .ok (.aload_n 0, 1) := by decide +kernel
theorem d_Pic_repeat_26 : decode b_Pic_repeat 26 = .ok (.getfield 20, 3) := by decide +kernel
theorem d_Pic_repeat_29 : decode b_Pic_repeat 29 = .ok (.iload 4, 2) := by decide +kernel
theorem d_Pic_repeat_31 : decode b_Pic_repeat 31 = .ok (.iaload, 1) := by decide +kernel
theorem d_Pic_repeat_32 : decode b_Pic_repeat 32 = .ok (.invokevirtual 150, 3) := by decide +kernel
theorem d_Pic_repeat_35 : decode b_Pic_repeat 35 = .ok (.aload_n 0, 1) := by decide +kernel
theorem d_Pic_repeat_36 : decode b_Pic_repeat 36 = .ok (.iload_n 1, 1) := by decide +kernel
theorem d_Pic_repeat_37 : decode b_Pic_repeat 37 = .ok (.iload_n 2, 1) := by decide +kernel
theorem d_Pic_repeat_38 : decode b_Pic_repeat 38 = .ok (.invokevirtual 154, 3) := by decide +kernel
theorem d_Pic_repeat_41 : decode b_Pic_repeat 41 = .ok (.ireturn, 1) := by decide +kernel
theorem d_Pic_floor_0 : decode b_Pic_floor 0 = .ok (.iload_n 1, 1) := by decide +kernel
theorem d_Pic_floor_1 : decode b_Pic_floor 1 = .ok (.invokestatic 82, 3) := by decide +kernel
theorem d_Pic_floor_4 : decode b_Pic_floor 4 = .ok (.aload_n 0, 1) := by decide +kernel
theorem d_Pic_floor_5 : decode b_Pic_floor 5 = .ok (.getfield 56, 3) := by decide +kernel
theorem d_Pic_floor_8 : decode b_Pic_floor 8 = .ok (.getfield 157, 3) := by decide +kernel
theorem d_Pic_floor_11 : decode b_Pic_floor 11 = .ok (.istore_n 2, 1) := by decide +kernel
theorem d_Pic_floor_12 : decode b_Pic_floor 12 = .ok (.aload_n 0, 1) := by decide +kernel
theorem d_Pic_floor_13 : decode b_Pic_floor 13 = .ok (.getfield 56, 3) := by decide +kernel
theorem d_Pic_floor_16 : decode b_Pic_floor 16 = .ok (.iload_n 1, 1) := by decide +kernel
theorem d_Pic_floor_17 : decode b_Pic_floor 17 = .ok (.putfield 157, 3) := by decide +kernel
theorem d_Pic_floor_20 : decode b_Pic_floor 20 = .ok (.iload_n 2, 1) := by decide +kernel
theorem d_Pic_floor_21 : decode b_Pic_floor 21 = .ok (.ireturn, 1) := by decide +kernel
theorem d_Pic_bound_0 : decode b_Pic_bound 0 = .ok (.aload_n 0, 1) := by decide +kernel
theorem d_Pic_bound_1 : decode b_Pic_bound 1 = .ok (.iload_n 1, 1) := by decide +kernel
theorem d_Pic_bound_2 : decode b_Pic_bound 2 = .ok (.iload_n 2, 1) := by decide +kernel
theorem d_Pic_bound_3 : decode b_Pic_bound 3 = .ok (.invokevirtual 79, 3) := by decide +kernel
theorem d_Pic_bound_6 : decode b_Pic_bound 6 = .ok (.aload_n 0, 1) := by decide +kernel
theorem d_Pic_bound_7 : decode b_Pic_bound 7 = .ok (.iload_n 1, 1) := by decide +kernel
theorem d_Pic_bound_8 : decode b_Pic_bound 8 = .ok (.iload_n 2, 1) := by decide +kernel
theorem d_Pic_bound_9 : decode b_Pic_bound 9 = .ok (.invokevirtual 154, 3) := by decide +kernel
theorem d_Pic_bound_12 : decode b_Pic_bound 12 = .ok (.ireturn, 1) := by decide +kernel
theorem d_Fraction_timesRounded_0 : decode b_Fraction_timesRounded 0 = .ok (.aload_n 0, 1) := by decide +kernel
theorem d_Fraction_timesRounded_1 : decode b_Fraction_timesRounded 1 = .ok (.getfield 13, 3) := by decide +kernel
theorem d_Fraction_timesRounded_4 : decode b_Fraction_timesRounded 4 = .ok (.lconst 0, 1) := by decide +kernel
theorem d_Fraction_timesRounded_5 : decode b_Fraction_timesRounded 5 = .ok (.lcmp, 1) := by decide +kernel
theorem d_Fraction_timesRounded_6 : decode b_Fraction_timesRounded 6 = .ok (.ifCond .gt 5, 3) := by decide +kernel
theorem d_Fraction_timesRounded_9 : decode b_Fraction_timesRounded 9 = .ok (.iconst 0, 1) := by decide +kernel
theorem d_Fraction_timesRounded_10 : decode b_Fraction_timesRounded 10 = .ok (.ireturn, 1) := by decide +kernel
theorem d_Fraction_timesRounded_11 : decode b_Fraction_timesRounded 11 = .ok (.ldc2_w 26, 3) := by decide +kernel
theorem d_Fraction_timesRounded_14 : decode b_Fraction_timesRounded 14 = .ok (.aload_n 0, 1) := by decide +kernel
theorem d_Fraction_timesRounded_15 : decode b_Fraction_timesRounded 15 = .ok (.getfield 7, 3) := by decide +kernel
theorem d_Fraction_timesRounded_18 : decode b_Fraction_timesRounded 18 = .ok (.lmul, 1) := by decide +kernel
theorem d_Fraction_timesRounded_19 : decode b_Fraction_timesRounded 19 = .ok (.iload_n 1, 1) := by decide +kernel
theorem d_Fraction_timesRounded_20 : decode b_Fraction_timesRounded 20 = .ok (.i2l, 1) := by decide +kernel
theorem d_Fraction_timesRounded_21 : decode b_Fraction_timesRounded 21 = .ok (.lmul, 1) := by decide +kernel
theorem d_Fraction_timesRounded_22 : decode b_Fraction_timesRounded 22 = .ok (.aload_n 0, 1) := by decide +kernel
theorem d_Fraction_timesRounded_23 : decode b_Fraction_timesRounded 23 = .ok (.getfield 13, 3) := by decide +kernel
theorem d_Fraction_timesRounded_26 : decode b_Fraction_timesRounded 26 = .ok (.ladd, 1) := by decide +kernel
theorem d_Fraction_timesRounded_27 : decode b_Fraction_timesRounded 27 = .ok (.ldc2_w 26, 3) := by decide +kernel
theorem d_Fraction_timesRounded_30 : decode b_Fraction_timesRounded 30 = .ok (.aload_n 0, 1) := by decide +kernel
theorem d_Fraction_timesRounded_31 : decode b_Fraction_timesRounded 31 = .ok (.getfield 13, 3) := by decide +kernel
theorem d_Fraction_timesRounded_34 : decode b_Fraction_timesRounded 34 = .ok (.lmul, 1) := by decide +kernel
theorem d_Fraction_timesRounded_35 : decode b_Fraction_timesRounded 35 = .ok (.ldiv, 1) := by decide +kernel
theorem d_Fraction_timesRounded_36 : decode b_Fraction_timesRounded 36 = .ok (.l2i, 1) := by decide +kernel
theorem d_Fraction_timesRounded_37 : decode b_Fraction_timesRounded 37 = .ok (.ireturn, 1) := by decide +kernel
theorem d_Pic_changeAt_0 : decode b_Pic_changeAt 0 = .ok (.iload_n 1, 1) := by decide +kernel
theorem d_Pic_changeAt_1 : decode b_Pic_changeAt 1 = .ok (.aload_n 0, 1) := by decide +kernel
theorem d_Pic_changeAt_2 : decode b_Pic_changeAt 2 = .ok (.getfield 30, 3) := by decide +kernel
theorem d_Pic_changeAt_5 : decode b_Pic_changeAt 5 = .ok (.getfield 116, 3) := by decide +kernel
theorem d_Pic_changeAt_8 : decode b_Pic_changeAt 8 = .ok (.iadd, 1) := by decide +kernel
theorem d_Pic_changeAt_9 : decode b_Pic_changeAt 9 = .ok (.istore_n 3, 1) := by decide +kernel
theorem d_Pic_changeAt_10 : decode b_Pic_changeAt 10 = .ok (.iload_n 2, 1) := by decide +kernel
theorem d_Pic_changeAt_11 : decode b_Pic_changeAt 11 = .ok (.aload_n 0, 1) := by decide +kernel
theorem d_Pic_changeAt_12 : decode b_Pic_changeAt 12 = .ok (.getfield 30, 3) := by decide +kernel
theorem d_Pic_changeAt_15 : decode b_Pic_changeAt 15 = .ok (.getfield 119, 3) := by decide +kernel
theorem d_Pic_changeAt_18 : decode b_Pic_changeAt 18 = .ok (.iadd, 1) := by decide +kernel
theorem d_Pic_changeAt_19 : decode b_Pic_changeAt 19 = .ok (.istore 4, 2) := by decide +kernel
theorem d_Pic_changeAt_21 : decode b_Pic_changeAt 21 = .ok (.aload_n 0, 1) := by decide +kernel
theorem d_Pic_changeAt_22 : decode b_Pic_changeAt 22 = .ok (.iload_n 3, 1) := by decide +kernel
theorem d_Pic_changeAt_23 : decode b_Pic_changeAt 23 = .ok (.iload 4, 2) := by decide +kernel
theorem d_Pic_changeAt_25 : decode b_Pic_changeAt 25 = .ok (.invokevirtual 231, 3) := by decide +kernel
theorem d_Pic_changeAt_28 : decode b_Pic_changeAt 28 = .ok (.ifCond .ne 5, 3) := by decide +kernel
theorem d_Pic_changeAt_31 : decode b_Pic_changeAt 31 = .ok (.iconst 0, 1) := by decide +kernel
theorem d_Pic_changeAt_32 : decode b_Pic_changeAt 32 = .ok (.ireturn, 1) := by decide +kernel
theorem d_Pic_changeAt_33 : decode b_Pic_changeAt 33 = .ok (.aload_n 0, 1) := by decide +kernel
theorem d_Pic_changeAt_34 : decode b_Pic_changeAt 34 = .ok (.getfield 47, 3) := by decide +kernel
theorem d_Pic_changeAt_37 : decode b_Pic_changeAt 37 = .ok (.aload_n 0, 1) := by decide +kernel
theorem d_Pic_changeAt_38 : decode b_Pic_changeAt 38 = .ok (.getfield 24, 3) := by decide +kernel
theorem d_Pic_changeAt_41 : decode b_Pic_changeAt 41 = .ok (.aload_n 0, 1) := by decide +kernel
theorem d_Pic_changeAt_42 : decode b_Pic_changeAt 42 = .ok (.iload_n 3, 1) := by decide +kernel
theorem d_Pic_changeAt_43 : decode b_Pic_changeAt 43 = .ok (.iload 4, 2) := by decide +kernel
theorem d_Pic_changeAt_45 : decode b_Pic_changeAt 45 = .ok (.invokevirtual 85, 3) := by decide +kernel
theorem d_Pic_changeAt_48 : decode b_Pic_changeAt 48 = .ok (.iaload, 1) := by decide +kernel
theorem d_Pic_changeAt_49 : decode b_Pic_changeAt 49 = .ok (.invokevirtual 256, 3) := by decide +kernel
theorem d_Pic_changeAt_52 : decode b_Pic_changeAt 52 = .ok (.istore 5, 2) := by decide +kernel
theorem d_Pic_changeAt_54 : decode b_Pic_changeAt 54 = .ok (.aload_n 0, 1) := by decide +kernel
theorem d_Pic_changeAt_55 : decode b_Pic_changeAt 55 = .ok (.getfield 20, 3) := by decide +kernel
theorem d_Pic_changeAt_58 : decode b_Pic_changeAt 58 = .ok (.aload_n 0, 1) := by decide +kernel
theorem d_Pic_changeAt_59 : decode b_Pic_changeAt 59 = .ok (.iload_n 1, 1) := by decide +kernel
theorem d_Pic_changeAt_60 : decode b_Pic_changeAt 60 = .ok (.iload_n 2, 1) := by decide +kernel
theorem d_Pic_changeAt_61 : decode b_Pic_changeAt 61 = .ok (.invokevirtual 85, 3) := by decide +kernel
theorem d_Pic_changeAt_64 : decode b_Pic_changeAt 64 = .ok (.iaload, 1) := by decide +kernel
theorem d_Pic_changeAt_65 : decode b_Pic_changeAt 65 = .ok (.iload 5, 2) := by decide +kernel
theorem d_Pic_changeAt_67 : decode b_Pic_changeAt 67 = .ok (.isub, 1) := by decide +kernel
theorem d_Pic_changeAt_68 : decode b_Pic_changeAt 68 = .ok (.invokestatic 241, 3) := by decide +kernel
theorem d_Pic_changeAt_71 : decode b_Pic_changeAt 71 = .ok (.ireturn, 1) := by decide +kernel
theorem d_Pic_change_0 : decode b_Pic_change 0 = .ok (.aload_n 0, 1) := by decide +kernel
theorem d_Pic_change_1 : decode b_Pic_change 1 = .ok (.iload_n 1, 1) := by decide +kernel
theorem d_Pic_change_2 : decode b_Pic_change 2 = .ok (.iload_n 2, 1) := by decide +kernel
theorem d_Pic_change_3 : decode b_Pic_change 3 = .ok (.invokevirtual 79, 3) := by decide +kernel
theorem d_Pic_change_6 : decode b_Pic_change 6 = .ok (.aload_n 0, 1) := by decide +kernel
theorem d_Pic_change_7 : decode b_Pic_change 7 = .ok (.invokevirtual 140, 3) := by decide +kernel
theorem d_Pic_change_10 : decode b_Pic_change 10 = .ok (.aload_n 0, 1) := by decide +kernel
theorem d_Pic_change_11 : decode b_Pic_change 11 = .ok (.iload_n 1, 1) := by decide +kernel
theorem d_Pic_change_12 : decode b_Pic_change 12 = .ok (.iload_n 2, 1) := by decide +kernel
theorem d_Pic_change_13 : decode b_Pic_change 13 = .ok (.invokevirtual 160, 3) := by decide +kernel
theorem d_Pic_change_16 : decode b_Pic_change 16 = .ok (.ireturn, 1) := by decide +kernel
theorem d_Spots_clear_0 : decode b_Spots_clear 0 = .ok (.aload_n 0, 1) := by decide +kernel
theorem d_Spots_clear_1 : decode b_Spots_clear 1 = .ok (.iconst 0, 1) := by decide +kernel
theorem d_Spots_clear_2 : decode b_Spots_clear 2 = .ok (.putfield 34, 3) := by decide +kernel
theorem d_Spots_clear_5 : decode b_Spots_clear 5 = .ok (.aload_n 0, 1) := by decide +kernel
theorem d_Spots_clear_6 : decode b_Spots_clear 6 = .ok (.iconst 0, 1) := by decide +kernel
theorem d_Spots_clear_7 : decode b_Spots_clear 7 = .ok (.putfield 37, 3) := by decide +kernel
theorem d_Spots_clear_10 : decode b_Spots_clear 10 = .ok (.iconst 0, 1) := by decide +kernel
theorem d_Spots_clear_11 : decode b_Spots_clear 11 = .ok (.istore_n 1, 1) := by decide +kernel
theorem d_Spots_clear_12 : decode b_Spots_clear 12 = .ok (.iload_n 1, 1) := by decide +kernel
theorem d_Spots_clear_13 : decode b_Spots_clear 13 = .ok (.aload_n 0, 1) := by decide +kernel
theorem d_Spots_clear_14 : decode b_Spots_clear 14 = .ok (.getfield 18, 3) := by decide +kernel
theorem d_Spots_clear_17 : decode b_Spots_clear 17 = .ok (.arraylength, 1) := by decide +kernel
theorem d_Spots_clear_18 : decode b_Spots_clear 18 = .ok (.if_icmp .ge 16, 3) := by decide +kernel
theorem d_Spots_clear_21 : decode b_Spots_clear 21 = .ok (.aload_n 0, 1) := by decide +kernel
theorem d_Spots_clear_22 : decode b_Spots_clear 22 = .ok (.getfield 18, 3) := by decide +kernel
theorem d_Spots_clear_25 : decode b_Spots_clear 25 = .ok (.iload_n 1, 1) := by decide +kernel
theorem d_Spots_clear_26 : decode b_Spots_clear 26 = .ok (.iconst (-1), 1) := by decide +kernel
theorem d_Spots_clear_27 : decode b_Spots_clear 27 = .ok (.iastore, 1) := by decide +kernel
theorem d_Spots_clear_28 : decode b_Spots_clear 28 = .ok (.iinc 1 1, 3) := by decide +kernel
theorem d_Spots_clear_31 : decode b_Spots_clear 31 = .ok (.goto (-19), 3) := by decide +kernel
theorem d_Spots_clear_34 : decode b_Spots_clear 34 = .ok (.return_, 1) := by decide +kernel
theorem d_Spots_mark_0 : decode b_Spots_mark 0 = .ok (.aload_n 0, 1) := by decide +kernel
theorem d_Spots_mark_1 : decode b_Spots_mark 1 = .ok (.getfield 18, 3) := by decide +kernel
theorem d_Spots_mark_4 : decode b_Spots_mark 4 = .ok (.iload_n 2, 1) := by decide +kernel
theorem d_Spots_mark_5 : decode b_Spots_mark 5 = .ok (.aload_n 0, 1) := by decide +kernel
theorem d_Spots_mark_6 : decode b_Spots_mark 6 = .ok (.getfield 9, 3) := by decide +kernel
theorem d_Spots_mark_9 : decode b_Spots_mark 9 = .ok (.imul, 1) := by decide +kernel
theorem d_Spots_mark_10 : decode b_Spots_mark 10 = .ok (.iload_n 1, 1) := by decide +kernel
theorem d_Spots_mark_11 : decode b_Spots_mark 11 = .ok (.iadd, 1) := by decide +kernel
theorem d_Spots_mark_12 : decode b_Spots_mark 12 = .ok (.bipush (-2), 2) := by decide +kernel
theorem d_Spots_mark_14 : decode b_Spots_mark 14 = .ok (.iastore, 1) := by decide +kernel
theorem d_Spots_mark_15 : decode b_Spots_mark 15 = .ok (.aload_n 0, 1) := by decide +kernel
theorem d_Spots_mark_16 : decode b_Spots_mark 16 = .ok (.getfield 22, 3) := by decide +kernel
theorem d_Spots_mark_19 : decode b_Spots_mark 19 = .ok (.iload_n 2, 1) := by decide +kernel
theorem d_Spots_mark_20 : decode b_Spots_mark 20 = .ok (.aload_n 0, 1) := by decide +kernel
theorem d_Spots_mark_21 : decode b_Spots_mark 21 = .ok (.getfield 9, 3) := by decide +kernel
theorem d_Spots_mark_24 : decode b_Spots_mark 24 = .ok (.imul, 1) := by decide +kernel
theorem d_Spots_mark_25 : decode b_Spots_mark 25 = .ok (.iload_n 1, 1) := by decide +kernel
theorem d_Spots_mark_26 : decode b_Spots_mark 26 = .ok (.iadd, 1) := by decide +kernel
theorem d_Spots_mark_27 : decode b_Spots_mark 27 = .ok (.iload_n 3, 1) := by decide +kernel
theorem d_Spots_mark_28 : decode b_Spots_mark 28 = .ok (.iastore, 1) := by decide +kernel
theorem d_Spots_mark_29 : decode b_Spots_mark 29 = .ok (.aload_n 0, 1) := by decide +kernel
theorem d_Spots_mark_30 : decode b_Spots_mark 30 = .ok (.dup, 1) := by decide +kernel
theorem d_Spots_mark_31 : decode b_Spots_mark 31 = .ok (.getfield 37, 3) := by decide +kernel
theorem d_Spots_mark_34 : decode b_Spots_mark 34 = .ok (.iconst 1, 1) := by decide +kernel
theorem d_Spots_mark_35 : decode b_Spots_mark 35 = .ok (.iadd, 1) := by decide +kernel
theorem d_Spots_mark_36 : decode b_Spots_mark 36 = .ok (.putfield 37, 3) := by decide +kernel
theorem d_Spots_mark_39 : decode b_Spots_mark 39 = .ok (.return_, 1) := by decide +kernel
theorem d_Spots_spotAt_0 : decode b_Spots_spotAt 0 = .ok (.iload_n 1, 1) := by decide +kernel
theorem d_Spots_spotAt_1 : decode b_Spots_spotAt 1 = .ok (.ifCond .lt 39, 3) := by decide +kernel
theorem d_Spots_spotAt_4 : decode b_Spots_spotAt 4 = .ok (.iload_n 1, 1) := by decide +kernel
theorem d_Spots_spotAt_5 : decode b_Spots_spotAt 5 = .ok (.aload_n 0, 1) := by decide +kernel
theorem d_Spots_spotAt_6 : decode b_Spots_spotAt 6 = .ok (.getfield 9, 3) := by decide +kernel
theorem d_Spots_spotAt_9 : decode b_Spots_spotAt 9 = .ok (.if_icmp .ge 31, 3) := by decide +kernel
theorem d_Spots_spotAt_12 : decode b_Spots_spotAt 12 = .ok (.iload_n 2, 1) := by decide +kernel
theorem d_Spots_spotAt_13 : decode b_Spots_spotAt 13 = .ok (.ifCond .lt 27, 3) := by decide +kernel
theorem d_Spots_spotAt_16 : decode b_Spots_spotAt 16 = .ok (.iload_n 2, 1) := by decide +kernel
theorem d_Spots_spotAt_17 : decode b_Spots_spotAt 17 = .ok (.aload_n 0, 1) := by decide +kernel
theorem d_Spots_spotAt_18 : decode b_Spots_spotAt 18 = .ok (.getfield 15, 3) := by decide +kernel
theorem d_Spots_spotAt_21 : decode b_Spots_spotAt 21 = .ok (.if_icmp .ge 19, 3) := by decide +kernel
theorem d_Spots_spotAt_24 : decode b_Spots_spotAt 24 = .ok (.aload_n 0, 1) := by decide +kernel
theorem d_Spots_spotAt_25 : decode b_Spots_spotAt 25 = .ok (.getfield 18, 3) := by decide +kernel
theorem d_Spots_spotAt_28 : decode b_Spots_spotAt 28 = .ok (.iload_n 2, 1) := by decide +kernel
theorem d_Spots_spotAt_29 : decode b_Spots_spotAt 29 = .ok (.aload_n 0, 1) := by decide +kernel
theorem d_Spots_spotAt_30 : decode b_Spots_spotAt 30 = .ok (.getfield 9, 3) := by decide +kernel
theorem d_Spots_spotAt_33 : decode b_Spots_spotAt 33 = .ok (.imul, 1) := by decide +kernel
theorem d_Spots_spotAt_34 : decode b_Spots_spotAt 34 = .ok (.iload_n 1, 1) := by decide +kernel
theorem d_Spots_spotAt_35 : decode b_Spots_spotAt 35 = .ok (.iadd, 1) := by decide +kernel
theorem d_Spots_spotAt_36 : decode b_Spots_spotAt 36 = .ok (.iaload, 1) := by decide +kernel
theorem d_Spots_spotAt_37 : decode b_Spots_spotAt 37 = .ok (.goto 4, 3) := by decide +kernel
theorem d_Spots_spotAt_40 : decode b_Spots_spotAt 40 = .ok (.iconst (-1), 1) := by decide +kernel
theorem d_Spots_spotAt_41 : decode b_Spots_spotAt 41 = .ok (.ireturn, 1) := by decide +kernel
theorem d_Spots_take_0 : decode b_Spots_take 0 = .ok (.aload_n 0, 1) := by decide +kernel
theorem d_Spots_take_1 : decode b_Spots_take 1 = .ok (.iload_n 1, 1) := by decide +kernel
theorem d_Spots_take_2 : decode b_Spots_take 2 = .ok (.iload_n 2, 1) := by decide +kernel
theorem d_Spots_take_3 : decode b_Spots_take 3 = .ok (.invokevirtual 40, 3) := by decide +kernel
theorem d_Spots_take_6 : decode b_Spots_take 6 = .ok (.bipush (-2), 2) := by decide +kernel
theorem d_Spots_take_8 : decode b_Spots_take 8 = .ok (.if_icmp .ne 62, 3) := by decide +kernel
theorem d_Spots_take_11 : decode b_Spots_take 11 = .ok (.aload_n 0, 1) := by decide +kernel
theorem d_Spots_take_12 : decode b_Spots_take 12 = .ok (.getfield 54, 3) := by decide +kernel
theorem d_Spots_take_15 : decode b_Spots_take 15 = .ok (.aload_n 0, 1) := by decide +kernel
theorem d_Spots_take_16 : decode b_Spots_take 16 = .ok (.getfield 25, 3) := by decide +kernel
theorem d_Spots_take_19 : decode b_Spots_take 19 = .ok (.arraylength, 1) := by decide +kernel
theorem d_Spots_take_20 : decode b_Spots_take 20 = .ok (.if_icmp .ge 50, 3) := by decide +kernel
theorem d_Spots_take_23 : decode b_Spots_take 23 = .ok (.aload_n 0, 1) := by decide +kernel
theorem d_Spots_take_24 : decode b_Spots_take 24 = .ok (.getfield 18, 3) := by decide +kernel
theorem d_Spots_take_27 : decode b_Spots_take 27 = .ok (.iload_n 2, 1) := by decide +kernel
theorem d_Spots_take_28 : decode b_Spots_take 28 = .ok (.aload_n 0, 1) := by decide +kernel
theorem d_Spots_take_29 : decode b_Spots_take 29 = .ok (.getfield 9, 3) := by decide +kernel
theorem d_Spots_take_32 : decode b_Spots_take 32 = .ok (.imul, 1) := by decide +kernel
theorem d_Spots_take_33 : decode b_Spots_take 33 = .ok (.iload_n 1, 1) := by decide +kernel
theorem d_Spots_take_34 : decode b_Spots_take 34 = .ok (.iadd, 1) := by decide +kernel
theorem d_Spots_take_35 : decode b_Spots_take 35 = .ok (.aload_n 0, 1) := by decide +kernel
theorem d_Spots_take_36 : decode b_Spots_take 36 = .ok (.getfield 34, 3) := by decide +kernel
theorem d_Spots_take_39 : decode b_Spots_take 39 = .ok (.iastore, 1) := by decide +kernel
theorem d_Spots_take_40 : decode b_Spots_take 40 = .ok (.aload_n 0, 1) := by decide +kernel
theorem d_Spots_take_41 : decode b_Spots_take 41 = .ok (.getfield 25, 3) := by decide +kernel
theorem d_Spots_take_44 : decode b_Spots_take 44 = .ok (.aload_n 0, 1) := by decide +kernel
theorem d_Spots_take_45 : decode b_Spots_take 45 = .ok (.getfield 54, 3) := by decide +kernel
theorem d_Spots_take_48 : decode b_Spots_take 48 = .ok (.iload_n 1, 1) := by decide +kernel
theorem d_Spots_take_49 : decode b_Spots_take 49 = .ok (.iastore, 1) := by decide +kernel
theorem d_Spots_take_50 : decode b_Spots_take 50 = .ok (.aload_n 0, 1) := by decide +kernel
theorem d_Spots_take_51 : decode b_Spots_take 51 = .ok (.getfield 28, 3) := by decide +kernel
theorem d_Spots_take_54 : decode b_Spots_take 54 = .ok (.aload_n 0, 1) := by decide +kernel
theorem d_Spots_take_55 : decode b_Spots_take 55 = .ok (.getfield 54, 3) := by decide +kernel
theorem d_Spots_take_58 : decode b_Spots_take 58 = .ok (.iload_n 2, 1) := by decide +kernel
theorem d_Spots_take_59 : decode b_Spots_take 59 = .ok (.iastore, 1) := by decide +kernel
theorem d_Spots_take_60 : decode b_Spots_take 60 = .ok (.aload_n 0, 1) := by decide +kernel
theorem d_Spots_take_61 : decode b_Spots_take 61 = .ok (.dup, 1) := by decide +kernel
theorem d_Spots_take_62 : decode b_Spots_take 62 = .ok (.getfield 54, 3) := by decide +kernel
theorem d_Spots_take_65 : decode b_Spots_take 65 = .ok (.iconst 1, 1) := by decide +kernel
theorem d_Spots_take_66 : decode b_Spots_take 66 = .ok (.iadd, 1) := by decide +kernel
theorem d_Spots_take_67 : decode b_Spots_take 67 = .ok (.putfield 54, 3) := by decide +kernel
theorem d_Spots_take_70 : decode b_Spots_take 70 = .ok (.return_, 1) := by decide +kernel
theorem d_Spots_joinFrom_0 : decode b_Spots_joinFrom 0 = .ok (.aload_n 0, 1) := by decide +kernel
theorem d_Spots_joinFrom_1 : decode b_Spots_joinFrom 1 = .ok (.iconst 0, 1) := by decide +kernel
theorem d_Spots_joinFrom_2 : decode b_Spots_joinFrom 2 = .ok (.putfield 54, 3) := by decide +kernel
theorem d_Spots_joinFrom_5 : decode b_Spots_joinFrom 5 = .ok (.aload_n 0, 1) := by decide +kernel
theorem d_Spots_joinFrom_6 : decode b_Spots_joinFrom 6 = .ok (.iload_n 1, 1) := by decide +kernel
theorem d_Spots_joinFrom_7 : decode b_Spots_joinFrom 7 = .ok (.iload_n 2, 1) := by decide +kernel
theorem d_Spots_joinFrom_8 : decode b_Spots_joinFrom 8 = .ok (.invokevirtual 57, 3) := by decide +kernel
theorem d_Spots_joinFrom_11 : decode b_Spots_joinFrom 11 = .ok (.iconst 0, 1) := by decide +kernel
theorem d_Spots_joinFrom_12 : decode b_Spots_joinFrom 12 = .ok (.istore_n 3, 1) := by decide +kernel
theorem d_Spots_joinFrom_13 : decode b_Spots_joinFrom 13 = .ok (.iload_n 3, 1) := by decide +kernel
theorem d_Spots_joinFrom_14 : decode b_Spots_joinFrom 14 = .ok (.aload_n 0, 1) := by decide +kernel
theorem d_Spots_joinFrom_15 : decode b_Spots_joinFrom 15 = .ok (.getfield 54, 3) := by decide +kernel
theorem d_Spots_joinFrom_18 : decode b_Spots_joinFrom 18 = .ok (.if_icmp .ge 90, 3) := by decide +kernel
theorem d_Spots_joinFrom_21 : decode b_Spots_joinFrom 21 = .ok (.iload_n 3, 1) := by decide +kernel
theorem d_Spots_joinFrom_22 : decode b_Spots_joinFrom 22 = .ok (.aload_n 0, 1) := by decide +kernel
theorem d_Spots_joinFrom_23 : decode b_Spots_joinFrom 23 = .ok (.getfield 25, 3) := by decide +kernel
theorem d_Spots_joinFrom_26 : decode b_Spots_joinFrom 26 = .ok (.arraylength, 1) := by decide +kernel
theorem d_Spots_joinFrom_27 : decode b_Spots_joinFrom 27 = .ok (.if_icmp .ge 81, 3) := by decide +kernel
theorem d_Spots_joinFrom_30 : decode b_Spots_joinFrom 30 = .ok (.aload_n 0, 1) := by decide +kernel
theorem d_Spots_joinFrom_31 : decode b_Spots_joinFrom 31 = .ok (.aload_n 0, 1) := by decide +kernel
theorem d_Spots_joinFrom_32 : decode b_Spots_joinFrom 32 = .ok (.getfield 25, 3) := by decide +kernel
theorem d_Spots_joinFrom_35 : decode b_Spots_joinFrom 35 = .ok (.iload_n 3, 1) := by decide +kernel
theorem d_Spots_joinFrom_36 : decode b_Spots_joinFrom 36 = .ok (.iaload, 1) := by decide +kernel
theorem d_Spots_joinFrom_37 : decode b_Spots_joinFrom 37 = .ok (.aload_n 0, 1) := by decide +kernel
theorem d_Spots_joinFrom_38 : decode b_Spots_joinFrom 38 = .ok (.getfield 28, 3) := by decide +kernel
theorem d_Spots_joinFrom_41 : decode b_Spots_joinFrom 41 = .ok (.iload_n 3, 1) := by decide +kernel
theorem d_Spots_joinFrom_42 : decode b_Spots_joinFrom 42 = .ok (.iaload, 1) := by decide +kernel
theorem d_Spots_joinFrom_43 : decode b_Spots_joinFrom 43 = .ok (.iconst 1, 1) := by decide +kernel
theorem d_Spots_joinFrom_44 : decode b_Spots_joinFrom 44 = .ok (.isub, 1) := by decide +kernel
theorem d_Spots_joinFrom_45 : decode b_Spots_joinFrom 45 = .ok (.invokevirtual 57, 3) := by decide +kernel
theorem d_Spots_joinFrom_48 : decode b_Spots_joinFrom 48 = .ok (.aload_n 0, 1) := by decide +kernel
theorem d_Spots_joinFrom_49 : decode b_Spots_joinFrom 49 = .ok (.aload_n 0, 1) := by decide +kernel
theorem d_Spots_joinFrom_50 : decode b_Spots_joinFrom 50 = .ok (.getfield 25, 3) := by decide +kernel
theorem d_Spots_joinFrom_53 : decode b_Spots_joinFrom 53 = .ok (.iload_n 3, 1) := by decide +kernel
theorem d_Spots_joinFrom_54 : decode b_Spots_joinFrom 54 = .ok (.iaload, 1) := by decide +kernel
theorem d_Spots_joinFrom_55 : decode b_Spots_joinFrom 55 = .ok (.iconst 1, 1) := by decide +kernel
theorem d_Spots_joinFrom_56 : decode b_Spots_joinFrom 56 = .ok (.isub, 1) := by decide +kernel
theorem d_Spots_joinFrom_57 : decode b_Spots_joinFrom 57 = .ok (.aload_n 0, 1) := by decide +kernel
theorem d_Spots_joinFrom_58 : decode b_Spots_joinFrom 58 = .ok (.getfield 28, 3) := by decide +kernel
theorem d_Spots_joinFrom_61 : decode b_Spots_joinFrom 61 = .ok (.iload_n 3, 1) := by decide +kernel
theorem d_Spots_joinFrom_62 : decode b_Spots_joinFrom 62 = .ok (.iaload, 1) := by decide +kernel
theorem d_Spots_joinFrom_63 : decode b_Spots_joinFrom 63 = .ok (.invokevirtual 57, 3) := by decide +kernel
theorem d_Spots_joinFrom_66 : decode b_Spots_joinFrom 66 = .ok (.aload_n 0, 1) := by decide +kernel
theorem d_Spots_joinFrom_67 : decode b_Spots_joinFrom 67 = .ok (.aload_n 0, 1) := by decide +kernel
theorem d_Spots_joinFrom_68 : decode b_Spots_joinFrom 68 = .ok (.getfield 25, 3) := by decide +kernel
theorem d_Spots_joinFrom_71 : decode b_Spots_joinFrom 71 = .ok (.iload_n 3, 1) := by decide +kernel
theorem d_Spots_joinFrom_72 : decode b_Spots_joinFrom 72 = .ok (.iaload, 1) := by decide +kernel
theorem d_Spots_joinFrom_73 : decode b_Spots_joinFrom 73 = .ok (.iconst 1, 1) := by decide +kernel
theorem d_Spots_joinFrom_74 : decode b_Spots_joinFrom 74 = .ok (.iadd, 1) := by decide +kernel
theorem d_Spots_joinFrom_75 : decode b_Spots_joinFrom 75 = .ok (.aload_n 0, 1) := by decide +kernel
theorem d_Spots_joinFrom_76 : decode b_Spots_joinFrom 76 = .ok (.getfield 28, 3) := by decide +kernel
theorem d_Spots_joinFrom_79 : decode b_Spots_joinFrom 79 = .ok (.iload_n 3, 1) := by decide +kernel
theorem d_Spots_joinFrom_80 : decode b_Spots_joinFrom 80 = .ok (.iaload, 1) := by decide +kernel
theorem d_Spots_joinFrom_81 : decode b_Spots_joinFrom 81 = .ok (.invokevirtual 57, 3) := by decide +kernel
theorem d_Spots_joinFrom_84 : decode b_Spots_joinFrom 84 = .ok (.aload_n 0, 1) := by decide +kernel
theorem d_Spots_joinFrom_85 : decode b_Spots_joinFrom 85 = .ok (.aload_n 0, 1) := by decide +kernel
theorem d_Spots_joinFrom_86 : decode b_Spots_joinFrom 86 = .ok (.getfield 25, 3) := by decide +kernel
theorem d_Spots_joinFrom_89 : decode b_Spots_joinFrom 89 = .ok (.iload_n 3, 1) := by decide +kernel
theorem d_Spots_joinFrom_90 : decode b_Spots_joinFrom 90 = .ok (.iaload, 1) := by decide +kernel
theorem d_Spots_joinFrom_91 : decode b_Spots_joinFrom 91 = .ok (.aload_n 0, 1) := by decide +kernel
theorem d_Spots_joinFrom_92 : decode b_Spots_joinFrom 92 = .ok (.getfield 28, 3) := by decide +kernel
theorem d_Spots_joinFrom_95 : decode b_Spots_joinFrom 95 = .ok (.iload_n 3, 1) := by decide +kernel
theorem d_Spots_joinFrom_96 : decode b_Spots_joinFrom 96 = .ok (.iaload, 1) := by decide +kernel
theorem d_Spots_joinFrom_97 : decode b_Spots_joinFrom 97 = .ok (.iconst 1, 1) := by decide +kernel
theorem d_Spots_joinFrom_98 : decode b_Spots_joinFrom 98 = .ok (.iadd, 1) := by decide +kernel
theorem d_Spots_joinFrom_99 : decode b_Spots_joinFrom 99 = .ok (.invokevirtual 57, 3) := by decide +kernel
theorem d_Spots_joinFrom_102 : decode b_Spots_joinFrom 102 = .ok (.iinc 3 1, 3) := by decide +kernel
theorem d_Spots_joinFrom_105 : decode b_Spots_joinFrom 105 = .ok (.goto (-92), 3) := by decide +kernel
theorem d_Spots_joinFrom_108 : decode b_Spots_joinFrom 108 = .ok (.return_, 1) := by decide +kernel
theorem d_Spots_ownAt_0 : decode b_Spots_ownAt 0 = .ok (.aload_n 0, 1) := by decide +kernel
theorem d_Spots_ownAt_1 : decode b_Spots_ownAt 1 = .ok (.iload_n 1, 1) := by decide +kernel
theorem d_Spots_ownAt_2 : decode b_Spots_ownAt 2 = .ok (.iload_n 2, 1) := by decide +kernel
theorem d_Spots_ownAt_3 : decode b_Spots_ownAt 3 = .ok (.invokevirtual 40, 3) := by decide +kernel
theorem d_Spots_ownAt_6 : decode b_Spots_ownAt 6 = .ok (.aload_n 0, 1) := by decide +kernel
theorem d_Spots_ownAt_7 : decode b_Spots_ownAt 7 = .ok (.getfield 34, 3) := by decide +kernel
theorem d_Spots_ownAt_10 : decode b_Spots_ownAt 10 = .ok (.if_icmp .ne 7, 3) := by decide +kernel
theorem d_Spots_ownAt_13 : decode b_Spots_ownAt 13 = .ok (.iconst 1, 1) := by decide +kernel
theorem d_Spots_ownAt_14 : decode b_Spots_ownAt 14 = .ok (.goto 4, 3) := by decide +kernel
theorem d_Spots_ownAt_17 : decode b_Spots_ownAt 17 = .ok (.iconst 0, 1) := by decide +kernel
theorem d_Spots_ownAt_18 : decode b_Spots_ownAt 18 = .ok (.ireturn, 1) := by decide +kernel
theorem d_Spots_neighboursOf_0 : decode b_Spots_neighboursOf 0 = .ok (.aload_n 0, 1) := by decide +kernel
theorem d_Spots_neighboursOf_1 : decode b_Spots_neighboursOf 1 = .ok (.iload_n 1, 1) := by decide +kernel
theorem d_Spots_neighboursOf_2 : decode b_Spots_neighboursOf 2 = .ok (.iload_n 2, 1) := by decide +kernel
theorem d_Spots_neighboursOf_3 : decode b_Spots_neighboursOf 3 = .ok (.iconst 1, 1) := by decide +kernel
theorem d_Spots_neighboursOf_4 : decode b_Spots_neighboursOf 4 = .ok (.isub, 1) := by decide +kernel
theorem d_Spots_neighboursOf_5 : decode b_Spots_neighboursOf 5 = .ok (.invokevirtual 75, 3) := by decide +kernel
theorem d_Spots_neighboursOf_8 : decode b_Spots_neighboursOf 8 = .ok (.aload_n 0, 1) := by decide +kernel
theorem d_Spots_neighboursOf_9 : decode b_Spots_neighboursOf 9 = .ok (.iload_n 1, 1) := by decide +kernel
theorem d_Spots_neighboursOf_10 : decode b_Spots_neighboursOf 10 = .ok (.iconst 1, 1) := by decide +kernel
theorem d_Spots_neighboursOf_11 : decode b_Spots_neighboursOf 11 = .ok (.isub, 1) := by decide +kernel
theorem d_Spots_neighboursOf_12 : decode b_Spots_neighboursOf 12 = .ok (.iload_n 2, 1) := by decide +kernel
theorem d_Spots_neighboursOf_13 : decode b_Spots_neighboursOf 13 = .ok (.invokevirtual 75, 3) := by decide +kernel
theorem d_Spots_neighboursOf_16 : decode b_Spots_neighboursOf 16 = .ok (.iadd, 1) := by decide +kernel
theorem d_Spots_neighboursOf_17 : decode b_Spots_neighboursOf 17 = .ok (.aload_n 0, 1) := by decide +kernel
theorem d_Spots_neighboursOf_18 : decode b_Spots_neighboursOf 18 = .ok (.iload_n 1, 1) := by decide +kernel
theorem d_Spots_neighboursOf_19 : decode b_Spots_neighboursOf 19 = .ok (.iconst 1, 1) := by decide +kernel
theorem d_Spots_neighboursOf_20 : decode b_Spots_neighboursOf 20 = .ok (.iadd, 1) := by decide +kernel
theorem d_Spots_neighboursOf_21 : decode b_Spots_neighboursOf 21 = .ok (.iload_n 2, 1) := by decide +kernel
theorem d_Spots_neighboursOf_22 : decode b_Spots_neighboursOf 22 = .ok (.invokevirtual 75, 3) := by decide +kernel
theorem d_Spots_neighboursOf_25 : decode b_Spots_neighboursOf 25 = .ok (.iadd, 1) := by decide +kernel
theorem d_Spots_neighboursOf_26 : decode b_Spots_neighboursOf 26 = .ok (.aload_n 0, 1) := by decide +kernel
theorem d_Spots_neighboursOf_27 : decode b_Spots_neighboursOf 27 = .ok (.iload_n 1, 1) := by decide +kernel
theorem d_Spots_neighboursOf_28 : decode b_Spots_neighboursOf 28 = .ok (.iload_n 2, 1) := by decide +kernel
theorem d_Spots_neighboursOf_29 : decode b_Spots_neighboursOf 29 = .ok (.iconst 1, 1) := by decide +kernel
theorem d_Spots_neighboursOf_30 : decode b_Spots_neighboursOf 30 = .ok (.iadd, 1) := by decide +kernel
theorem d_Spots_neighboursOf_31 : decode b_Spots_neighboursOf 31 = .ok (.invokevirtual 75, 3) := by decide +kernel
theorem d_Spots_neighboursOf_34 : decode b_Spots_neighboursOf 34 = .ok (.iadd, 1) := by decide +kernel
theorem d_Spots_neighboursOf_35 : decode b_Spots_neighboursOf 35 = .ok (.ireturn, 1) := by decide +kernel
theorem d_Spots_isCrack_0 : decode b_Spots_isCrack 0 = .ok (.iconst 0, 1) := by decide +kernel
theorem d_Spots_isCrack_1 : decode b_Spots_isCrack 1 = .ok (.istore_n 1, 1) := by decide +kernel
theorem d_Spots_isCrack_2 : decode b_Spots_isCrack 2 = .ok (.iconst 0, 1) := by decide +kernel
theorem d_Spots_isCrack_3 : decode b_Spots_isCrack 3 = .ok (.istore_n 2, 1) := by decide +kernel
theorem d_Spots_isCrack_4 : decode b_Spots_isCrack 4 = .ok (.iload_n 2, 1) := by decide +kernel
theorem d_Spots_isCrack_5 : decode b_Spots_isCrack 5 = .ok (.aload_n 0, 1) := by decide +kernel
theorem d_Spots_isCrack_6 : decode b_Spots_isCrack 6 = .ok (.getfield 54, 3) := by decide +kernel
theorem d_Spots_isCrack_9 : decode b_Spots_isCrack 9 = .ok (.if_icmp .ge 41, 3) := by decide +kernel
theorem d_Spots_isCrack_12 : decode b_Spots_isCrack 12 = .ok (.aload_n 0, 1) := by decide +kernel
theorem d_Spots_isCrack_13 : decode b_Spots_isCrack 13 = .ok (.aload_n 0, 1) := by decide +kernel
theorem d_Spots_isCrack_14 : decode b_Spots_isCrack 14 = .ok (.getfield 25, 3) := by decide +kernel
theorem d_Spots_isCrack_17 : decode b_Spots_isCrack 17 = .ok (.iload_n 2, 1) := by decide +kernel
theorem d_Spots_isCrack_18 : decode b_Spots_isCrack 18 = .ok (.iaload, 1) := by decide +kernel
theorem d_Spots_isCrack_19 : decode b_Spots_isCrack 19 = .ok (.aload_n 0, 1) := by decide +kernel
theorem d_Spots_isCrack_20 : decode b_Spots_isCrack 20 = .ok (.getfield 28, 3) := by decide +kernel
theorem d_Spots_isCrack_23 : decode b_Spots_isCrack 23 = .ok (.iload_n 2, 1) := by decide +kernel
theorem d_Spots_isCrack_24 : decode b_Spots_isCrack 24 = .ok (.iaload, 1) := by decide +kernel
theorem d_Spots_isCrack_25 : decode b_Spots_isCrack 25 = .ok (.invokevirtual 72, 3) := by decide +kernel
theorem d_Spots_isCrack_28 : decode b_Spots_isCrack 28 = .ok (.istore_n 3, 1) := by decide +kernel
theorem d_Spots_isCrack_29 : decode b_Spots_isCrack 29 = .ok (.iload_n 3, 1) := by decide +kernel
theorem d_Spots_isCrack_30 : decode b_Spots_isCrack 30 = .ok (.iconst 2, 1) := by decide +kernel
theorem d_Spots_isCrack_31 : decode b_Spots_isCrack 31 = .ok (.if_icmp .le 5, 3) := by decide +kernel
theorem d_Spots_isCrack_34 : decode b_Spots_isCrack 34 = .ok (.iconst 0, 1) := by decide +kernel
theorem d_Spots_isCrack_35 : decode b_Spots_isCrack 35 = .ok (.ireturn, 1) := by decide +kernel
theorem d_Spots_isCrack_36 : decode b_Spots_isCrack 36 = .ok (.iload_n 3, 1) := by decide +kernel
theorem d_Spots_isCrack_37 : decode b_Spots_isCrack 37 = .ok (.iconst 1, 1) := by decide +kernel
theorem d_Spots_isCrack_38 : decode b_Spots_isCrack 38 = .ok (.if_icmp .ne 6, 3) := by decide +kernel
theorem d_Spots_isCrack_41 : decode b_Spots_isCrack 41 = .ok (.iinc 1 1, 3) := by decide +kernel
theorem d_Spots_isCrack_44 : decode b_Spots_isCrack 44 = .ok (.iinc 2 1, 3) := by decide +kernel
theorem d_Spots_isCrack_47 : decode b_Spots_isCrack 47 = .ok (.goto (-43), 3) := by decide +kernel
theorem d_Spots_isCrack_50 : decode b_Spots_isCrack 50 = .ok (.aload_n 0, 1) := by decide +kernel
theorem d_Spots_isCrack_51 : decode b_Spots_isCrack 51 = .ok (.getfield 54, 3) := by decide +kernel
theorem d_Spots_isCrack_54 : decode b_Spots_isCrack 54 = .ok (.iconst 3, 1) := by decide +kernel
theorem d_Spots_isCrack_55 : decode b_Spots_isCrack 55 = .ok (.if_icmp .lt 12, 3) := by decide +kernel
theorem d_Spots_isCrack_58 : decode b_Spots_isCrack 58 = .ok (.iload_n 1, 1) := by decide +kernel
theorem d_Spots_isCrack_59 : decode b_Spots_isCrack 59 = .ok (.iconst 2, 1) := by decide +kernel
theorem d_Spots_isCrack_60 : decode b_Spots_isCrack 60 = .ok (.if_icmp .ne 7, 3) := by decide +kernel
theorem d_Spots_isCrack_63 : decode b_Spots_isCrack 63 = .ok (.iconst 1, 1) := by decide +kernel
theorem d_Spots_isCrack_64 : decode b_Spots_isCrack 64 = .ok (.goto 4, 3) := by decide +kernel
theorem d_Spots_isCrack_67 : decode b_Spots_isCrack 67 = .ok (.iconst 0, 1) := by decide +kernel
theorem d_Spots_isCrack_68 : decode b_Spots_isCrack 68 = .ok (.ireturn, 1) := by decide +kernel
theorem d_Spots_describe_0 : decode b_Spots_describe 0 = .ok (.iconst 0, 1) := by decide +kernel
theorem d_Spots_describe_1 : decode b_Spots_describe 1 = .ok (.istore_n 1, 1) := by decide +kernel
theorem d_Spots_describe_2 : decode b_Spots_describe 2 = .ok (.aload_n 0, 1) := by decide +kernel
theorem d_Spots_describe_3 : decode b_Spots_describe 3 = .ok (.getfield 9, 3) := by decide +kernel
theorem d_Spots_describe_6 : decode b_Spots_describe 6 = .ok (.istore_n 2, 1) := by decide +kernel
theorem d_Spots_describe_7 : decode b_Spots_describe 7 = .ok (.aload_n 0, 1) := by decide +kernel
theorem d_Spots_describe_8 : decode b_Spots_describe 8 = .ok (.getfield 15, 3) := by decide +kernel
theorem d_Spots_describe_11 : decode b_Spots_describe 11 = .ok (.istore_n 3, 1) := by decide +kernel
theorem d_Spots_describe_12 : decode b_Spots_describe 12 = .ok (.iconst 0, 1) := by decide +kernel
theorem d_Spots_describe_13 : decode b_Spots_describe 13 = .ok (.istore 4, 2) := by decide +kernel
theorem d_Spots_describe_15 : decode b_Spots_describe 15 = .ok (.iconst 0, 1) := by decide +kernel
theorem d_Spots_describe_16 : decode b_Spots_describe 16 = .ok (.istore 5, 2) := by decide +kernel
theorem d_Spots_describe_18 : decode b_Spots_describe 18 = .ok (.iconst 0, 1) := by decide +kernel
theorem d_Spots_describe_19 : decode b_Spots_describe 19 = .ok (.istore 6, 2) := by decide +kernel
theorem d_Spots_describe_21 : decode b_Spots_describe 21 = .ok (.iload 6, 2) := by decide +kernel
theorem d_Spots_describe_23 : decode b_Spots_describe 23 = .ok (.aload_n 0, 1) := by decide +kernel
theorem d_Spots_describe_24 : decode b_Spots_describe 24 = .ok (.getfield 54, 3) := by decide +kernel
theorem d_Spots_describe_27 : decode b_Spots_describe 27 = .ok (.if_icmp .ge 77, 3) := by decide +kernel
theorem d_Spots_describe_30 : decode b_Spots_describe 30 = .ok (.aload_n 0, 1) := by decide +kernel
theorem d_Spots_describe_31 : decode b_Spots_describe 31 = .ok (.getfield 25, 3) := by decide +kernel
theorem d_Spots_describe_34 : decode b_Spots_describe 34 = .ok (.iload 6, 2) := by decide +kernel
theorem d_Spots_describe_36 : decode b_Spots_describe 36 = .ok (.iaload, 1) := by decide +kernel
theorem d_Spots_describe_37 : decode b_Spots_describe 37 = .ok (.istore 7, 2) := by decide +kernel
theorem d_Spots_describe_39 : decode b_Spots_describe 39 = .ok (.aload_n 0, 1) := by decide +kernel
theorem d_Spots_describe_40 : decode b_Spots_describe 40 = .ok (.getfield 28, 3) := by decide +kernel
theorem d_Spots_describe_43 : decode b_Spots_describe 43 = .ok (.iload 6, 2) := by decide +kernel
theorem d_Spots_describe_45 : decode b_Spots_describe 45 = .ok (.iaload, 1) := by decide +kernel
theorem d_Spots_describe_46 : decode b_Spots_describe 46 = .ok (.istore 8, 2) := by decide +kernel
theorem d_Spots_describe_48 : decode b_Spots_describe 48 = .ok (.iload_n 1, 1) := by decide +kernel
theorem d_Spots_describe_49 : decode b_Spots_describe 49 = .ok (.aload_n 0, 1) := by decide +kernel
theorem d_Spots_describe_50 : decode b_Spots_describe 50 = .ok (.getfield 22, 3) := by decide +kernel
theorem d_Spots_describe_53 : decode b_Spots_describe 53 = .ok (.iload 8, 2) := by decide +kernel
theorem d_Spots_describe_55 : decode b_Spots_describe 55 = .ok (.aload_n 0, 1) := by decide +kernel
theorem d_Spots_describe_56 : decode b_Spots_describe 56 = .ok (.getfield 9, 3) := by decide +kernel
theorem d_Spots_describe_59 : decode b_Spots_describe 59 = .ok (.imul, 1) := by decide +kernel
theorem d_Spots_describe_60 : decode b_Spots_describe 60 = .ok (.iload 7, 2) := by decide +kernel
theorem d_Spots_describe_62 : decode b_Spots_describe 62 = .ok (.iadd, 1) := by decide +kernel
theorem d_Spots_describe_63 : decode b_Spots_describe 63 = .ok (.iaload, 1) := by decide +kernel
theorem d_Spots_describe_64 : decode b_Spots_describe 64 = .ok (.iadd, 1) := by decide +kernel
theorem d_Spots_describe_65 : decode b_Spots_describe 65 = .ok (.istore_n 1, 1) := by decide +kernel
theorem d_Spots_describe_66 : decode b_Spots_describe 66 = .ok (.iload_n 2, 1) := by decide +kernel
theorem d_Spots_describe_67 : decode b_Spots_describe 67 = .ok (.iload 7, 2) := by decide +kernel
theorem d_Spots_describe_69 : decode b_Spots_describe 69 = .ok (.invokestatic 60, 3) := by decide +kernel
theorem d_Spots_describe_72 : decode b_Spots_describe 72 = .ok (.istore_n 2, 1) := by decide +kernel
theorem d_Spots_describe_73 : decode b_Spots_describe 73 = .ok (.iload_n 3, 1) := by decide +kernel
theorem d_Spots_describe_74 : decode b_Spots_describe 74 = .ok (.iload 8, 2) := by decide +kernel
theorem d_Spots_describe_76 : decode b_Spots_describe 76 = .ok (.invokestatic 60, 3) := by decide +kernel
theorem d_Spots_describe_79 : decode b_Spots_describe 79 = .ok (.istore_n 3, 1) := by decide +kernel
theorem d_Spots_describe_80 : decode b_Spots_describe 80 = .ok (.iload 4, 2) := by decide +kernel
theorem d_Spots_describe_82 : decode b_Spots_describe 82 = .ok (.iload 7, 2) := by decide +kernel
theorem d_Spots_describe_84 : decode b_Spots_describe 84 = .ok (.invokestatic 65, 3) := by decide +kernel
theorem d_Spots_describe_87 : decode b_Spots_describe 87 = .ok (.istore 4, 2) := by decide +kernel
theorem d_Spots_describe_89 : decode b_Spots_describe 89 = .ok (.iload 5, 2) := by decide +kernel
theorem d_Spots_describe_91 : decode b_Spots_describe 91 = .ok (.iload 8, 2) := by decide +kernel
theorem d_Spots_describe_93 : decode b_Spots_describe 93 = .ok (.invokestatic 65, 3) := by decide +kernel
theorem d_Spots_describe_96 : decode b_Spots_describe 96 = .ok (.istore 5, 2) := by decide +kernel
theorem d_Spots_describe_98 : decode b_Spots_describe 98 = .ok (.iinc 6 1, 3) := by decide +kernel
theorem d_Spots_describe_101 : decode b_Spots_describe 101 = .ok (.goto (-80), 3) := by decide +kernel
theorem d_Spots_describe_104 : decode b_Spots_describe 104 = .ok (.aload_n 0, 1) := by decide +kernel
theorem d_Spots_describe_105 : decode b_Spots_describe 105 = .ok (.getfield 34, 3) := by decide +kernel
theorem d_Spots_describe_108 : decode b_Spots_describe 108 = .ok (.bipush 7, 2) := by decide +kernel
theorem d_Spots_describe_110 : decode b_Spots_describe 110 = .ok (.imul, 1) := by decide +kernel
theorem d_Spots_describe_111 : decode b_Spots_describe 111 = .ok (.istore 6, 2) := by decide +kernel
theorem d_Spots_describe_113 : decode b_Spots_describe 113 = .ok (.aload_n 0, 1) := by decide +kernel
theorem d_Spots_describe_114 : decode b_Spots_describe 114 = .ok (.getfield 31, 3) := by decide +kernel
theorem d_Spots_describe_117 : decode b_Spots_describe 117 = .ok (.iload 6, 2) := by decide +kernel
theorem d_Spots_describe_119 : decode b_Spots_describe 119 = .ok (.iconst 0, 1) := by decide +kernel
theorem d_Spots_describe_120 : decode b_Spots_describe 120 = .ok (.iadd, 1) := by decide +kernel
theorem d_Spots_describe_121 : decode b_Spots_describe 121 = .ok (.aload_n 0, 1) := by decide +kernel
theorem d_Spots_describe_122 : decode b_Spots_describe 122 = .ok (.getfield 54, 3) := by decide +kernel
theorem d_Spots_describe_125 : decode b_Spots_describe 125 = .ok (.iastore, 1) := by decide +kernel
theorem d_Spots_describe_126 : decode b_Spots_describe 126 = .ok (.aload_n 0, 1) := by decide +kernel
theorem d_Spots_describe_127 : decode b_Spots_describe 127 = .ok (.getfield 31, 3) := by decide +kernel
theorem d_Spots_describe_130 : decode b_Spots_describe 130 = .ok (.iload 6, 2) := by decide +kernel
theorem d_Spots_describe_132 : decode b_Spots_describe 132 = .ok (.iconst 1, 1) := by decide +kernel
theorem d_Spots_describe_133 : decode b_Spots_describe 133 = .ok (.iadd, 1) := by decide +kernel
theorem d_Spots_describe_134 : decode b_Spots_describe 134 = .ok (.iload_n 1, 1) := by decide +kernel
theorem d_Spots_describe_135 : decode b_Spots_describe 135 = .ok (.iastore, 1) := by decide +kernel
theorem d_Spots_describe_136 : decode b_Spots_describe 136 = .ok (.aload_n 0, 1) := by decide +kernel
theorem d_Spots_describe_137 : decode b_Spots_describe 137 = .ok (.getfield 31, 3) := by decide +kernel
theorem d_Spots_describe_140 : decode b_Spots_describe 140 = .ok (.iload 6, 2) := by decide +kernel
theorem d_Spots_describe_142 : decode b_Spots_describe 142 = .ok (.iconst 2, 1) := by decide +kernel
theorem d_Spots_describe_143 : decode b_Spots_describe 143 = .ok (.iadd, 1) := by decide +kernel
theorem d_Spots_describe_144 : decode b_Spots_describe 144 = .ok (.iload_n 2, 1) := by decide +kernel
theorem d_Spots_describe_145 : decode b_Spots_describe 145 = .ok (.iastore, 1) := by decide +kernel
theorem d_Spots_describe_146 : decode b_Spots_describe 146 = .ok (.aload_n 0, 1) := by decide +kernel
theorem d_Spots_describe_147 : decode b_Spots_describe 147 = .ok (.getfield 31, 3) := by decide +kernel
theorem d_Spots_describe_150 : decode b_Spots_describe 150 = .ok (.iload 6, 2) := by decide +kernel
theorem d_Spots_describe_152 : decode b_Spots_describe 152 = .ok (.iconst 3, 1) := by decide +kernel
theorem d_Spots_describe_153 : decode b_Spots_describe 153 = .ok (.iadd, 1) := by decide +kernel
theorem d_Spots_describe_154 : decode b_Spots_describe 154 = .ok (.iload_n 3, 1) := by decide +kernel
theorem d_Spots_describe_155 : decode b_Spots_describe 155 = .ok (.iastore, 1) := by decide +kernel
theorem d_Spots_describe_156 : decode b_Spots_describe 156 = .ok (.aload_n 0, 1) := by decide +kernel
theorem d_Spots_describe_157 : decode b_Spots_describe 157 = .ok (.getfield 31, 3) := by decide +kernel
theorem d_Spots_describe_160 : decode b_Spots_describe 160 = .ok (.iload 6, 2) := by decide +kernel
theorem d_Spots_describe_162 : decode b_Spots_describe 162 = .ok (.iconst 4, 1) := by decide +kernel
theorem d_Spots_describe_163 : decode b_Spots_describe 163 = .ok (.iadd, 1) := by decide +kernel
theorem d_Spots_describe_164 : decode b_Spots_describe 164 = .ok (.iload 4, 2) := by decide +kernel
theorem d_Spots_describe_166 : decode b_Spots_describe 166 = .ok (.iastore, 1) := by decide +kernel
theorem d_Spots_describe_167 : decode b_Spots_describe 167 = .ok (.aload_n 0, 1) := by decide +kernel
theorem d_Spots_describe_168 : decode b_Spots_describe 168 = .ok (.getfield 31, 3) := by decide +kernel
theorem d_Spots_describe_171 : decode b_Spots_describe 171 = .ok (.iload 6, 2) := by decide +kernel
theorem d_Spots_describe_173 : decode b_Spots_describe 173 = .ok (.iconst 5, 1) := by decide +kernel
theorem d_Spots_describe_174 : decode b_Spots_describe 174 = .ok (.iadd, 1) := by decide +kernel
theorem d_Spots_describe_175 : decode b_Spots_describe 175 = .ok (.iload 5, 2) := by decide +kernel
theorem d_Spots_describe_177 : decode b_Spots_describe 177 = .ok (.iastore, 1) := by decide +kernel
theorem d_Spots_describe_178 : decode b_Spots_describe 178 = .ok (.aload_n 0, 1) := by decide +kernel
theorem d_Spots_describe_179 : decode b_Spots_describe 179 = .ok (.getfield 31, 3) := by decide +kernel
theorem d_Spots_describe_182 : decode b_Spots_describe 182 = .ok (.iload 6, 2) := by decide +kernel
theorem d_Spots_describe_184 : decode b_Spots_describe 184 = .ok (.bipush 6, 2) := by decide +kernel
theorem d_Spots_describe_186 : decode b_Spots_describe 186 = .ok (.iadd, 1) := by decide +kernel
theorem d_Spots_describe_187 : decode b_Spots_describe 187 = .ok (.aload_n 0, 1) := by decide +kernel
theorem d_Spots_describe_188 : decode b_Spots_describe 188 = .ok (.invokevirtual 68, 3) := by decide +kernel
theorem d_Spots_describe_191 : decode b_Spots_describe 191 = .ok (.ifCond .eq 12, 3) := by decide +kernel
theorem d_Spots_describe_194 : decode b_Spots_describe 194 = .ok (.aload_n 0, 1) := by decide +kernel
theorem d_Spots_describe_195 : decode b_Spots_describe 195 = .ok (.getfield 54, 3) := by decide +kernel
theorem d_Spots_describe_198 : decode b_Spots_describe 198 = .ok (.iconst 1, 1) := by decide +kernel
theorem d_Spots_describe_199 : decode b_Spots_describe 199 = .ok (.isub, 1) := by decide +kernel

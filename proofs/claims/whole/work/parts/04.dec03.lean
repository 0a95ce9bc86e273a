theorem d_Mod_init_111 : decode b_Mod_init 111 = .ok (.putfield 42, 3) := by decide +kernel
theorem d_Mod_init_114 : decode b_Mod_init 114 = .ok (.aload_n 0, 1) := by decide +kernel
theorem d_Mod_init_115 : decode b_Mod_init 115 = .ok (.iload_n 2, 1) := by decide +kernel
theorem d_Mod_init_116 : decode b_Mod_init 116 = .ok (.iconst 4, 1) := by decide +kernel
theorem d_Mod_init_117 : decode b_Mod_init 117 = .ok (.if_icmp .ge 7, 3) := by decide +kernel
theorem d_Mod_init_120 : decode b_Mod_init 120 = .ok (.iconst 4, 1) := by decide +kernel
theorem d_Mod_init_121 : decode b_Mod_init 121 = .ok (.goto 15, 3) := by decide +kernel
theorem d_Mod_init_124 : decode b_Mod_init 124 = .ok (.iload_n 2, 1) := by decide +kernel
theorem d_Mod_init_125 : decode b_Mod_init 125 = .ok (.bipush 24, 2) := by decide +kernel
theorem d_Mod_init_127 : decode b_Mod_init 127 = .ok (.if_icmp .le 8, 3) := by decide +kernel
theorem d_Mod_init_130 : decode b_Mod_init 130 = .ok (.bipush 24, 2) := by decide +kernel
theorem d_Mod_init_132 : decode b_Mod_init 132 = .ok (.goto 4, 3) := by decide +kernel
theorem d_Mod_init_135 : decode b_Mod_init 135 = .ok (.iload_n 2, 1) := by decide +kernel
theorem d_Mod_init_136 : decode b_Mod_init 136 = .ok (.putfield 45, 3) := by decide +kernel
theorem d_Mod_init_139 : decode b_Mod_init 139 = .ok (.iconst 0, 1) := by decide +kernel
theorem d_Mod_init_140 : decode b_Mod_init 140 = .ok (.istore_n 3, 1) := by decide +kernel
theorem d_Mod_init_141 : decode b_Mod_init 141 = .ok (.iload_n 3, 1) := by decide +kernel
theorem d_Mod_init_142 : decode b_Mod_init 142 = .ok (.sipush 576, 3) := by decide +kernel
theorem d_Mod_init_145 : decode b_Mod_init 145 = .ok (.if_icmp .ge 32, 3) := by decide +kernel
theorem d_Mod_init_148 : decode b_Mod_init 148 = .ok (.aload_n 0, 1) := by decide +kernel
theorem d_Mod_init_149 : decode b_Mod_init 149 = .ok (.getfield 20, 3) := by decide +kernel
theorem d_Mod_init_152 : decode b_Mod_init 152 = .ok (.iload_n 3, 1) := by decide +kernel
theorem d_Mod_init_153 : decode b_Mod_init 153 = .ok (.sipush 999, 3) := by decide +kernel
theorem d_Mod_init_156 : decode b_Mod_init 156 = .ok (.iastore, 1) := by decide +kernel
theorem d_Mod_init_157 : decode b_Mod_init 157 = .ok (.aload_n 0, 1) := by decide +kernel
theorem d_Mod_init_158 : decode b_Mod_init 158 = .ok (.getfield 23, 3) := by decide +kernel
theorem d_Mod_init_161 : decode b_Mod_init 161 = .ok (.iload_n 3, 1) := by decide +kernel
theorem d_Mod_init_162 : decode b_Mod_init 162 = .ok (.iconst (-1), 1) := by decide +kernel
theorem d_Mod_init_163 : decode b_Mod_init 163 = .ok (.iastore, 1) := by decide +kernel
theorem d_Mod_init_164 : decode b_Mod_init 164 = .ok (.aload_n 0, 1) := by decide +kernel
theorem d_Mod_init_165 : decode b_Mod_init 165 = .ok (.getfield 30, 3) := by decide +kernel
theorem d_Mod_init_168 : decode b_Mod_init 168 = .ok (.iload_n 3, 1) := by decide +kernel
theorem d_Mod_init_169 : decode b_Mod_init 169 = .ok (.iconst (-1), 1) := by decide +kernel
theorem d_Mod_init_170 : decode b_Mod_init 170 = .ok (.iastore, 1) := by decide +kernel
theorem d_Mod_init_171 : decode b_Mod_init 171 = .ok (.iinc 3 1, 3) := by decide +kernel
theorem d_Mod_init_174 : decode b_Mod_init 174 = .ok (.goto (-33), 3) := by decide +kernel
theorem d_Mod_init_177 : decode b_Mod_init 177 = .ok (.return_, 1) := by decide +kernel
theorem d_Mod_thrown_0 : decode b_Mod_thrown 0 = .ok (.aload_n 0, 1) := by decide +kernel
theorem d_Mod_thrown_1 : decode b_Mod_thrown 1 = .ok (.getfield 48, 3) := by decide +kernel
theorem d_Mod_thrown_4 : decode b_Mod_thrown 4 = .ok (.ireturn, 1) := by decide +kernel
theorem d_Mod_goes_0 : decode b_Mod_goes 0 = .ok (.aload_n 0, 1) := by decide +kernel
theorem d_Mod_goes_1 : decode b_Mod_goes 1 = .ok (.iload_n 1, 1) := by decide +kernel
theorem d_Mod_goes_2 : decode b_Mod_goes 2 = .ok (.ifCond .ne 7, 3) := by decide +kernel
theorem d_Mod_goes_5 : decode b_Mod_goes 5 = .ok (.iconst 1, 1) := by decide +kernel
theorem d_Mod_goes_6 : decode b_Mod_goes 6 = .ok (.goto 20, 3) := by decide +kernel
theorem d_Mod_goes_9 : decode b_Mod_goes 9 = .ok (.iload_n 2, 1) := by decide +kernel
theorem d_Mod_goes_10 : decode b_Mod_goes 10 = .ok (.ifCond .ne 7, 3) := by decide +kernel
theorem d_Mod_goes_13 : decode b_Mod_goes 13 = .ok (.iconst 2, 1) := by decide +kernel
theorem d_Mod_goes_14 : decode b_Mod_goes 14 = .ok (.goto 12, 3) := by decide +kernel
theorem d_Mod_goes_17 : decode b_Mod_goes 17 = .ok (.iload_n 3, 1) := by decide +kernel
theorem d_Mod_goes_18 : decode b_Mod_goes 18 = .ok (.ifCond .ne 7, 3) := by decide +kernel
theorem d_Mod_goes_21 : decode b_Mod_goes 21 = .ok (.iconst 3, 1) := by decide +kernel
theorem d_Mod_goes_22 : decode b_Mod_goes 22 = .ok (.goto 4, 3) := by decide +kernel
theorem d_Mod_goes_25 : decode b_Mod_goes 25 = .ok (.iconst 0, 1) := by decide +kernel
theorem d_Mod_goes_26 : decode b_Mod_goes 26 = .ok (.putfield 48, 3) := by decide +kernel
theorem d_Mod_goes_29 : decode b_Mod_goes 29 = .ok (.aload_n 0, 1) := by decide +kernel
theorem d_Mod_goes_30 : decode b_Mod_goes 30 = .ok (.getfield 48, 3) := by decide +kernel
theorem d_Mod_goes_33 : decode b_Mod_goes 33 = .ok (.ifCond .ne 7, 3) := by decide +kernel
theorem d_Mod_goes_36 : decode b_Mod_goes 36 = .ok (.iconst 1, 1) := by decide +kernel
theorem d_Mod_goes_37 : decode b_Mod_goes 37 = .ok (.goto 4, 3) := by decide +kernel
theorem d_Mod_goes_40 : decode b_Mod_goes 40 = .ok (.iconst 0, 1) := by decide +kernel
theorem d_Mod_goes_41 : decode b_Mod_goes 41 = .ok (.ireturn, 1) := by decide +kernel
theorem d_Mod_within_0 : decode b_Mod_within 0 = .ok (.iload_n 0, 1) := by decide +kernel
theorem d_Mod_within_1 : decode b_Mod_within 1 = .ok (.iload_n 1, 1) := by decide +kernel
theorem d_Mod_within_2 : decode b_Mod_within 2 = .ok (.if_icmp .lt 12, 3) := by decide +kernel
theorem d_Mod_within_5 : decode b_Mod_within 5 = .ok (.iload_n 0, 1) := by decide +kernel
theorem d_Mod_within_6 : decode b_Mod_within 6 = .ok (.iload_n 2, 1) := by decide +kernel
theorem d_Mod_within_7 : decode b_Mod_within 7 = .ok (.if_icmp .gt 7, 3) := by decide +kernel
theorem d_Mod_within_10 : decode b_Mod_within 10 = .ok (.iconst 1, 1) := by decide +kernel
theorem d_Mod_within_11 : decode b_Mod_within 11 = .ok (.goto 4, 3) := by decide +kernel
theorem d_Mod_within_14 : decode b_Mod_within 14 = .ok (.iconst 0, 1) := by decide +kernel
theorem d_Mod_within_15 : decode b_Mod_within 15 = .ok (.ireturn, 1) := by decide +kernel
theorem d_Mod_isCell_0 : decode b_Mod_isCell 0 = .ok (.iload_n 1, 1) := by decide +kernel
theorem d_Mod_isCell_1 : decode b_Mod_isCell 1 = .ok (.iconst 0, 1) := by decide +kernel
theorem d_Mod_isCell_2 : decode b_Mod_isCell 2 = .ok (.aload_n 0, 1) := by decide +kernel
theorem d_Mod_isCell_3 : decode b_Mod_isCell 3 = .ok (.getfield 42, 3) := by decide +kernel
theorem d_Mod_isCell_6 : decode b_Mod_isCell 6 = .ok (.iconst 1, 1) := by decide +kernel
theorem d_Mod_isCell_7 : decode b_Mod_isCell 7 = .ok (.isub, 1) := by decide +kernel
theorem d_Mod_isCell_8 : decode b_Mod_isCell 8 = .ok (.invokestatic 51, 3) := by decide +kernel
theorem d_Mod_isCell_11 : decode b_Mod_isCell 11 = .ok (.ifCond .eq 21, 3) := by decide +kernel
theorem d_Mod_isCell_14 : decode b_Mod_isCell 14 = .ok (.iload_n 2, 1) := by decide +kernel
theorem d_Mod_isCell_15 : decode b_Mod_isCell 15 = .ok (.iconst 0, 1) := by decide +kernel
theorem d_Mod_isCell_16 : decode b_Mod_isCell 16 = .ok (.aload_n 0, 1) := by decide +kernel
theorem d_Mod_isCell_17 : decode b_Mod_isCell 17 = .ok (.getfield 45, 3) := by decide +kernel
theorem d_Mod_isCell_20 : decode b_Mod_isCell 20 = .ok (.iconst 1, 1) := by decide +kernel
theorem d_Mod_isCell_21 : decode b_Mod_isCell 21 = .ok (.isub, 1) := by decide +kernel
theorem d_Mod_isCell_22 : decode b_Mod_isCell 22 = .ok (.invokestatic 51, 3) := by decide +kernel
theorem d_Mod_isCell_25 : decode b_Mod_isCell 25 = .ok (.ifCond .eq 7, 3) := by decide +kernel
theorem d_Mod_isCell_28 : decode b_Mod_isCell 28 = .ok (.iconst 1, 1) := by decide +kernel
theorem d_Mod_isCell_29 : decode b_Mod_isCell 29 = .ok (.goto 4, 3) := by decide +kernel
theorem d_Mod_isCell_32 : decode b_Mod_isCell 32 = .ok (.iconst 0, 1) := by decide +kernel
theorem d_Mod_isCell_33 : decode b_Mod_isCell 33 = .ok (.ireturn, 1) := by decide +kernel
theorem d_Mod_isPlace_0 : decode b_Mod_isPlace 0 = .ok (.aload_n 0, 1) := by decide +kernel
theorem d_Mod_isPlace_1 : decode b_Mod_isPlace 1 = .ok (.iload_n 1, 1) := by decide +kernel
theorem d_Mod_isPlace_2 : decode b_Mod_isPlace 2 = .ok (.bipush 24, 2) := by decide +kernel
theorem d_Mod_isPlace_4 : decode b_Mod_isPlace 4 = .ok (.irem, 1) := by decide +kernel
theorem d_Mod_isPlace_5 : decode b_Mod_isPlace 5 = .ok (.iload_n 1, 1) := by decide +kernel
theorem d_Mod_isPlace_6 : decode b_Mod_isPlace 6 = .ok (.bipush 24, 2) := by decide +kernel
theorem d_Mod_isPlace_8 : decode b_Mod_isPlace 8 = .ok (.idiv, 1) := by decide +kernel
theorem d_Mod_isPlace_9 : decode b_Mod_isPlace 9 = .ok (.invokevirtual 55, 3) := by decide +kernel
theorem d_Mod_isPlace_12 : decode b_Mod_isPlace 12 = .ok (.ireturn, 1) := by decide +kernel
theorem d_Mod_apart_0 : decode b_Mod_apart 0 = .ok (.iload_n 0, 1) := by decide +kernel
theorem d_Mod_apart_1 : decode b_Mod_apart 1 = .ok (.iload_n 1, 1) := by decide +kernel
theorem d_Mod_apart_2 : decode b_Mod_apart 2 = .ok (.if_icmp .le 9, 3) := by decide +kernel
theorem d_Mod_apart_5 : decode b_Mod_apart 5 = .ok (.iload_n 0, 1) := by decide +kernel
theorem d_Mod_apart_6 : decode b_Mod_apart 6 = .ok (.iload_n 1, 1) := by decide +kernel
theorem d_Mod_apart_7 : decode b_Mod_apart 7 = .ok (.isub, 1) := by decide +kernel
theorem d_Mod_apart_8 : decode b_Mod_apart 8 = .ok (.goto 6, 3) := by decide +kernel
theorem d_Mod_apart_11 : decode b_Mod_apart 11 = .ok (.iload_n 1, 1) := by decide +kernel
theorem d_Mod_apart_12 : decode b_Mod_apart 12 = .ok (.iload_n 0, 1) := by decide +kernel
theorem d_Mod_apart_13 : decode b_Mod_apart 13 = .ok (.isub, 1) := by decide +kernel
theorem d_Mod_apart_14 : decode b_Mod_apart 14 = .ok (.ireturn, 1) := by decide +kernel
theorem d_Mod_cell_0 : decode b_Mod_cell 0 = .ok (.aload_n 0, 1) := by decide +kernel
theorem d_Mod_cell_1 : decode b_Mod_cell 1 = .ok (.aload_n 0, 1) := by decide +kernel
theorem d_Mod_cell_2 : decode b_Mod_cell 2 = .ok (.iload_n 2, 1) := by decide +kernel
theorem d_Mod_cell_3 : decode b_Mod_cell 3 = .ok (.iload_n 3, 1) := by decide +kernel
theorem d_Mod_cell_4 : decode b_Mod_cell 4 = .ok (.invokevirtual 55, 3) := by decide +kernel
theorem d_Mod_cell_7 : decode b_Mod_cell 7 = .ok (.iload 4, 2) := by decide +kernel
theorem d_Mod_cell_9 : decode b_Mod_cell 9 = .ok (.iconst 0, 1) := by decide +kernel
theorem d_Mod_cell_10 : decode b_Mod_cell 10 = .ok (.sipush 255, 3) := by decide +kernel
theorem d_Mod_cell_13 : decode b_Mod_cell 13 = .ok (.invokestatic 51, 3) := by decide +kernel
theorem d_Mod_cell_16 : decode b_Mod_cell 16 = .ok (.iconst 1, 1) := by decide +kernel
theorem d_Mod_cell_17 : decode b_Mod_cell 17 = .ok (.invokevirtual 59, 3) := by decide +kernel
theorem d_Mod_cell_20 : decode b_Mod_cell 20 = .ok (.ifCond .ne 5, 3) := by decide +kernel
theorem d_Mod_cell_23 : decode b_Mod_cell 23 = .ok (.iconst 0, 1) := by decide +kernel
theorem d_Mod_cell_24 : decode b_Mod_cell 24 = .ok (.ireturn, 1) := by decide +kernel
theorem d_Mod_cell_25 : decode b_Mod_cell 25 = .ok (.bipush 24, 2) := by decide +kernel
theorem d_Mod_cell_27 : decode b_Mod_cell 27 = .ok (.iload_n 3, 1) := by decide +kernel
theorem d_Mod_cell_28 : decode b_Mod_cell 28 = .ok (.imul, 1) := by decide +kernel
theorem d_Mod_cell_29 : decode b_Mod_cell 29 = .ok (.iload_n 2, 1) := by decide +kernel
theorem d_Mod_cell_30 : decode b_Mod_cell 30 = .ok (.iadd, 1) := by decide +kernel
theorem d_Mod_cell_31 : decode b_Mod_cell 31 = .ok (.istore 5, 2) := by decide +kernel
theorem d_Mod_cell_33 : decode b_Mod_cell 33 = .ok (.iload_n 1, 1) := by decide +kernel
theorem d_Mod_cell_34 : decode b_Mod_cell 34 = .ok (.ifCond .eq 13, 3) := by decide +kernel
theorem d_Mod_cell_37 : decode b_Mod_cell 37 = .ok (.aload_n 0, 1) := by decide +kernel
theorem d_Mod_cell_38 : decode b_Mod_cell 38 = .ok (.getfield 13, 3) := by decide +kernel
theorem d_Mod_cell_41 : decode b_Mod_cell 41 = .ok (.iload 5, 2) := by decide +kernel
theorem d_Mod_cell_43 : decode b_Mod_cell 43 = .ok (.iaload, 1) := by decide +kernel
theorem d_Mod_cell_44 : decode b_Mod_cell 44 = .ok (.goto 10, 3) := by decide +kernel
theorem d_Mod_cell_47 : decode b_Mod_cell 47 = .ok (.aload_n 0, 1) := by decide +kernel
theorem d_Mod_cell_48 : decode b_Mod_cell 48 = .ok (.getfield 7, 3) := by decide +kernel
theorem d_Mod_cell_51 : decode b_Mod_cell 51 = .ok (.iload 5, 2) := by decide +kernel
theorem d_Mod_cell_53 : decode b_Mod_cell 53 = .ok (.iaload, 1) := by decide +kernel
theorem d_Mod_cell_54 : decode b_Mod_cell 54 = .ok (.istore 6, 2) := by decide +kernel
theorem d_Mod_cell_56 : decode b_Mod_cell 56 = .ok (.iload_n 1, 1) := by decide +kernel
theorem d_Mod_cell_57 : decode b_Mod_cell 57 = .ok (.ifCond .eq 15, 3) := by decide +kernel
theorem d_Mod_cell_60 : decode b_Mod_cell 60 = .ok (.aload_n 0, 1) := by decide +kernel
theorem d_Mod_cell_61 : decode b_Mod_cell 61 = .ok (.getfield 13, 3) := by decide +kernel
theorem d_Mod_cell_64 : decode b_Mod_cell 64 = .ok (.iload 5, 2) := by decide +kernel
theorem d_Mod_cell_66 : decode b_Mod_cell 66 = .ok (.iload 4, 2) := by decide +kernel
theorem d_Mod_cell_68 : decode b_Mod_cell 68 = .ok (.iastore, 1) := by decide +kernel
theorem d_Mod_cell_69 : decode b_Mod_cell 69 = .ok (.goto 12, 3) := by decide +kernel
theorem d_Mod_cell_72 : decode b_Mod_cell 72 = .ok (.aload_n 0, 1) := by decide +kernel
theorem d_Mod_cell_73 : decode b_Mod_cell 73 = .ok (.getfield 7, 3) := by decide +kernel
theorem d_Mod_cell_76 : decode b_Mod_cell 76 = .ok (.iload 5, 2) := by decide +kernel
theorem d_Mod_cell_78 : decode b_Mod_cell 78 = .ok (.iload 4, 2) := by decide +kernel
theorem d_Mod_cell_80 : decode b_Mod_cell 80 = .ok (.iastore, 1) := by decide +kernel
theorem d_Mod_cell_81 : decode b_Mod_cell 81 = .ok (.iload 6, 2) := by decide +kernel
theorem d_Mod_cell_83 : decode b_Mod_cell 83 = .ok (.ireturn, 1) := by decide +kernel
theorem d_Mod_under_0 : decode b_Mod_under 0 = .ok (.aload_n 0, 1) := by decide +kernel
theorem d_Mod_under_1 : decode b_Mod_under 1 = .ok (.iload_n 1, 1) := by decide +kernel
theorem d_Mod_under_2 : decode b_Mod_under 2 = .ok (.invokevirtual 63, 3) := by decide +kernel
theorem d_Mod_under_5 : decode b_Mod_under 5 = .ok (.ifCond .eq 33, 3) := by decide +kernel
theorem d_Mod_under_8 : decode b_Mod_under 8 = .ok (.aload_n 0, 1) := by decide +kernel
theorem d_Mod_under_9 : decode b_Mod_under 9 = .ok (.iload_n 1, 1) := by decide +kernel
theorem d_Mod_under_10 : decode b_Mod_under 10 = .ok (.bipush 24, 2) := by decide +kernel
theorem d_Mod_under_12 : decode b_Mod_under 12 = .ok (.irem, 1) := by decide +kernel
theorem d_Mod_under_13 : decode b_Mod_under 13 = .ok (.iload_n 2, 1) := by decide +kernel
theorem d_Mod_under_14 : decode b_Mod_under 14 = .ok (.iadd, 1) := by decide +kernel
theorem d_Mod_under_15 : decode b_Mod_under 15 = .ok (.iload_n 1, 1) := by decide +kernel
theorem d_Mod_under_16 : decode b_Mod_under 16 = .ok (.bipush 24, 2) := by decide +kernel
theorem d_Mod_under_18 : decode b_Mod_under 18 = .ok (.idiv, 1) := by decide +kernel
theorem d_Mod_under_19 : decode b_Mod_under 19 = .ok (.iload_n 3, 1) := by decide +kernel
theorem d_Mod_under_20 : decode b_Mod_under 20 = .ok (.iadd, 1) := by decide +kernel
theorem d_Mod_under_21 : decode b_Mod_under 21 = .ok (.invokevirtual 55, 3) := by decide +kernel
theorem d_Mod_under_24 : decode b_Mod_under 24 = .ok (.ifCond .eq 14, 3) := by decide +kernel
theorem d_Mod_under_27 : decode b_Mod_under 27 = .ok (.iload_n 1, 1) := by decide +kernel
theorem d_Mod_under_28 : decode b_Mod_under 28 = .ok (.bipush 24, 2) := by decide +kernel
theorem d_Mod_under_30 : decode b_Mod_under 30 = .ok (.iload_n 3, 1) := by decide +kernel
theorem d_Mod_under_31 : decode b_Mod_under 31 = .ok (.imul, 1) := by decide +kernel
theorem d_Mod_under_32 : decode b_Mod_under 32 = .ok (.iadd, 1) := by decide +kernel
theorem d_Mod_under_33 : decode b_Mod_under 33 = .ok (.iload_n 2, 1) := by decide +kernel
theorem d_Mod_under_34 : decode b_Mod_under 34 = .ok (.iadd, 1) := by decide +kernel
theorem d_Mod_under_35 : decode b_Mod_under 35 = .ok (.goto 4, 3) := by decide +kernel
theorem d_Mod_under_38 : decode b_Mod_under 38 = .ok (.iconst (-1), 1) := by decide +kernel
theorem d_Mod_under_39 : decode b_Mod_under 39 = .ok (.ireturn, 1) := by decide +kernel
theorem d_Mod_look_0 : decode b_Mod_look 0 = .ok (.aload_n 0, 1) := by decide +kernel
theorem d_Mod_look_1 : decode b_Mod_look 1 = .ok (.lconst 0, 1) := by decide +kernel
theorem d_Mod_look_2 : decode b_Mod_look 2 = .ok (.putfield 67, 3) := by decide +kernel
theorem d_Mod_look_5 : decode b_Mod_look 5 = .ok (.aload_n 0, 1) := by decide +kernel
theorem d_Mod_look_6 : decode b_Mod_look 6 = .ok (.lconst 0, 1) := by decide +kernel
theorem d_Mod_look_7 : decode b_Mod_look 7 = .ok (.putfield 71, 3) := by decide +kernel
theorem d_Mod_look_10 : decode b_Mod_look 10 = .ok (.iconst 0, 1) := by decide +kernel
theorem d_Mod_look_11 : decode b_Mod_look 11 = .ok (.istore_n 3, 1) := by decide +kernel
theorem d_Mod_look_12 : decode b_Mod_look 12 = .ok (.iload_n 3, 1) := by decide +kernel
theorem d_Mod_look_13 : decode b_Mod_look 13 = .ok (.sipush 576, 3) := by decide +kernel
theorem d_Mod_look_16 : decode b_Mod_look 16 = .ok (.if_icmp .ge 60, 3) := by decide +kernel
theorem d_Mod_look_19 : decode b_Mod_look 19 = .ok (.aload_n 0, 1) := by decide +kernel
theorem d_Mod_look_20 : decode b_Mod_look 20 = .ok (.iload_n 3, 1) := by decide +kernel
theorem d_Mod_look_21 : decode b_Mod_look 21 = .ok (.iload_n 1, 1) := by decide +kernel
theorem d_Mod_look_22 : decode b_Mod_look 22 = .ok (.iload_n 2, 1) := by decide +kernel
theorem d_Mod_look_23 : decode b_Mod_look 23 = .ok (.invokevirtual 74, 3) := by decide +kernel
theorem d_Mod_look_26 : decode b_Mod_look 26 = .ok (.istore 4, 2) := by decide +kernel
theorem d_Mod_look_28 : decode b_Mod_look 28 = .ok (.iload 4, 2) := by decide +kernel
theorem d_Mod_look_30 : decode b_Mod_look 30 = .ok (.iconst (-1), 1) := by decide +kernel
theorem d_Mod_look_31 : decode b_Mod_look 31 = .ok (.if_icmp .eq 39, 3) := by decide +kernel
theorem d_Mod_look_34 : decode b_Mod_look 34 = .ok (.aload_n 0, 1) := by decide +kernel
theorem d_Mod_look_35 : decode b_Mod_look 35 = .ok (.aload_n 0, 1) := by decide +kernel
theorem d_Mod_look_36 : decode b_Mod_look 36 = .ok (.getfield 67, 3) := by decide +kernel
theorem d_Mod_look_39 : decode b_Mod_look 39 = .ok (.aload_n 0, 1) := by decide +kernel
theorem d_Mod_look_40 : decode b_Mod_look 40 = .ok (.getfield 7, 3) := by decide +kernel
theorem d_Mod_look_43 : decode b_Mod_look 43 = .ok (.iload_n 3, 1) := by decide +kernel
theorem d_Mod_look_44 : decode b_Mod_look 44 = .ok (.iaload, 1) := by decide +kernel
theorem d_Mod_look_45 : decode b_Mod_look 45 = .ok (.aload_n 0, 1) := by decide +kernel
theorem d_Mod_look_46 : decode b_Mod_look 46 = .ok (.getfield 13, 3) := by decide +kernel
theorem d_Mod_look_49 : decode b_Mod_look 49 = .ok (.iload 4, 2) := by decide +kernel
theorem d_Mod_look_51 : decode b_Mod_look 51 = .ok (.iaload, 1) := by decide +kernel
theorem d_Mod_look_52 : decode b_Mod_look 52 = .ok (.invokestatic 78, 3) := by decide +kernel
theorem d_Mod_look_55 : decode b_Mod_look 55 = .ok (.i2l, 1) := by decide +kernel
theorem d_Mod_look_56 : decode b_Mod_look 56 = .ok (.ladd, 1) := by decide +kernel
theorem d_Mod_look_57 : decode b_Mod_look 57 = .ok (.putfield 67, 3) := by decide +kernel
theorem d_Mod_look_60 : decode b_Mod_look 60 = .ok (.aload_n 0, 1) := by decide +kernel
theorem d_Mod_look_61 : decode b_Mod_look 61 = .ok (.aload_n 0, 1) := by decide +kernel
theorem d_Mod_look_62 : decode b_Mod_look 62 = .ok (.getfield 71, 3) := by decide +kernel
theorem d_Mod_look_65 : decode b_Mod_look 65 = .ok (.lconst 1, 1) := by decide +kernel
theorem d_Mod_look_66 : decode b_Mod_look 66 = .ok (.ladd, 1) := by decide +kernel
theorem d_Mod_look_67 : decode b_Mod_look 67 = .ok (.putfield 71, 3) := by decide +kernel
theorem d_Mod_look_70 : decode b_Mod_look 70 = .ok (.iinc 3 1, 3) := by decide +kernel
theorem d_Mod_look_73 : decode b_Mod_look 73 = .ok (.goto (-61), 3) := by decide +kernel
theorem d_Mod_look_76 : decode b_Mod_look 76 = .ok (.return_, 1) := by decide +kernel
theorem d_Mod_register_0 : decode b_Mod_register 0 = .ok (.aload_n 0, 1) := by decide +kernel
theorem d_Mod_register_1 : decode b_Mod_register 1 = .ok (.iload_n 1, 1) := by decide +kernel
theorem d_Mod_register_2 : decode b_Mod_register 2 = .ok (.iconst 0, 1) := by decide +kernel
theorem d_Mod_register_3 : decode b_Mod_register 3 = .ok (.iconst 3, 1) := by decide +kernel
theorem d_Mod_register_4 : decode b_Mod_register 4 = .ok (.invokestatic 51, 3) := by decide +kernel
theorem d_Mod_register_7 : decode b_Mod_register 7 = .ok (.iconst 1, 1) := by decide +kernel
theorem d_Mod_register_8 : decode b_Mod_register 8 = .ok (.iconst 1, 1) := by decide +kernel
theorem d_Mod_register_9 : decode b_Mod_register 9 = .ok (.invokevirtual 59, 3) := by decide +kernel
theorem d_Mod_register_12 : decode b_Mod_register 12 = .ok (.ifCond .ne 5, 3) := by decide +kernel
theorem d_Mod_register_15 : decode b_Mod_register 15 = .ok (.iconst 0, 1) := by decide +kernel
theorem d_Mod_register_16 : decode b_Mod_register 16 = .ok (.ireturn, 1) := by decide +kernel
theorem d_Mod_register_17 : decode b_Mod_register 17 = .ok (.ldc2_w 82, 3) := by decide +kernel
theorem d_Mod_register_20 : decode b_Mod_register 20 = .ok (.lstore_n 2, 1) := by decide +kernel
theorem d_Mod_register_21 : decode b_Mod_register 21 = .ok (.lconst 1, 1) := by decide +kernel
theorem d_Mod_register_22 : decode b_Mod_register 22 = .ok (.lstore 4, 2) := by decide +kernel
theorem d_Mod_register_24 : decode b_Mod_register 24 = .ok (.iconst 0, 1) := by decide +kernel
theorem d_Mod_register_25 : decode b_Mod_register 25 = .ok (.istore 6, 2) := by decide +kernel
theorem d_Mod_register_27 : decode b_Mod_register 27 = .ok (.iconst 0, 1) := by decide +kernel
theorem d_Mod_register_28 : decode b_Mod_register 28 = .ok (.iload_n 1, 1) := by decide +kernel
theorem d_Mod_register_29 : decode b_Mod_register 29 = .ok (.isub, 1) := by decide +kernel
theorem d_Mod_register_30 : decode b_Mod_register 30 = .ok (.istore 7, 2) := by decide +kernel
theorem d_Mod_register_32 : decode b_Mod_register 32 = .ok (.iload 7, 2) := by decide +kernel
theorem d_Mod_register_34 : decode b_Mod_register 34 = .ok (.iload_n 1, 1) := by decide +kernel
theorem d_Mod_register_35 : decode b_Mod_register 35 = .ok (.if_icmp .gt 183, 3) := by decide +kernel
theorem d_Mod_register_38 : decode b_Mod_register 38 = .ok (.iconst 0, 1) := by decide +kernel
theorem d_Mod_register_39 : decode b_Mod_register 39 = .ok (.iload_n 1, 1) := by decide +kernel
theorem d_Mod_register_40 : decode b_Mod_register 40 = .ok (.isub, 1) := by decide +kernel
theorem d_Mod_register_41 : decode b_Mod_register 41 = .ok (.istore 8, 2) := by decide +kernel
theorem d_Mod_register_43 : decode b_Mod_register 43 = .ok (.iload 8, 2) := by decide +kernel
theorem d_Mod_register_45 : decode b_Mod_register 45 = .ok (.iload_n 1, 1) := by decide +kernel
theorem d_Mod_register_46 : decode b_Mod_register 46 = .ok (.if_icmp .gt 166, 3) := by decide +kernel
theorem d_Mod_register_49 : decode b_Mod_register 49 = .ok (.aload_n 0, 1) := by decide +kernel
theorem d_Mod_register_50 : decode b_Mod_register 50 = .ok (.iload 7, 2) := by decide +kernel
theorem d_Mod_register_52 : decode b_Mod_register 52 = .ok (.iload 8, 2) := by decide +kernel
theorem d_Mod_register_54 : decode b_Mod_register 54 = .ok (.invokevirtual 84, 3) := by decide +kernel
theorem d_Mod_register_57 : decode b_Mod_register 57 = .ok (.iload 7, 2) := by decide +kernel
theorem d_Mod_register_59 : decode b_Mod_register 59 = .ok (.iconst 0, 1) := by decide +kernel
theorem d_Mod_register_60 : decode b_Mod_register 60 = .ok (.invokestatic 78, 3) := by decide +kernel
theorem d_Mod_register_63 : decode b_Mod_register 63 = .ok (.iload 8, 2) := by decide +kernel
theorem d_Mod_register_65 : decode b_Mod_register 65 = .ok (.iconst 0, 1) := by decide +kernel
theorem d_Mod_register_66 : decode b_Mod_register 66 = .ok (.invokestatic 78, 3) := by decide +kernel
theorem d_Mod_register_69 : decode b_Mod_register 69 = .ok (.iadd, 1) := by decide +kernel
theorem d_Mod_register_70 : decode b_Mod_register 70 = .ok (.istore 9, 2) := by decide +kernel
theorem d_Mod_register_72 : decode b_Mod_register 72 = .ok (.lload_n 2, 1) := by decide +kernel
theorem d_Mod_register_73 : decode b_Mod_register 73 = .ok (.lconst 0, 1) := by decide +kernel
theorem d_Mod_register_74 : decode b_Mod_register 74 = .ok (.lcmp, 1) := by decide +kernel
theorem d_Mod_register_75 : decode b_Mod_register 75 = .ok (.ifCond .lt 44, 3) := by decide +kernel
theorem d_Mod_register_78 : decode b_Mod_register 78 = .ok (.aload_n 0, 1) := by decide +kernel
theorem d_Mod_register_79 : decode b_Mod_register 79 = .ok (.getfield 67, 3) := by decide +kernel
theorem d_Mod_register_82 : decode b_Mod_register 82 = .ok (.lload 4, 2) := by decide +kernel
theorem d_Mod_register_84 : decode b_Mod_register 84 = .ok (.lmul, 1) := by decide +kernel
theorem d_Mod_register_85 : decode b_Mod_register 85 = .ok (.lload_n 2, 1) := by decide +kernel
theorem d_Mod_register_86 : decode b_Mod_register 86 = .ok (.aload_n 0, 1) := by decide +kernel
theorem d_Mod_register_87 : decode b_Mod_register 87 = .ok (.getfield 71, 3) := by decide +kernel
theorem d_Mod_register_90 : decode b_Mod_register 90 = .ok (.lmul, 1) := by decide +kernel
theorem d_Mod_register_91 : decode b_Mod_register 91 = .ok (.lcmp, 1) := by decide +kernel
theorem d_Mod_register_92 : decode b_Mod_register 92 = .ok (.ifCond .lt 27, 3) := by decide +kernel
theorem d_Mod_register_95 : decode b_Mod_register 95 = .ok (.aload_n 0, 1) := by decide +kernel
theorem d_Mod_register_96 : decode b_Mod_register 96 = .ok (.getfield 67, 3) := by decide +kernel
theorem d_Mod_register_99 : decode b_Mod_register 99 = .ok (.lload 4, 2) := by decide +kernel
theorem d_Mod_register_101 : decode b_Mod_register 101 = .ok (.lmul, 1) := by decide +kernel
theorem d_Mod_register_102 : decode b_Mod_register 102 = .ok (.lload_n 2, 1) := by decide +kernel
theorem d_Mod_register_103 : decode b_Mod_register 103 = .ok (.aload_n 0, 1) := by decide +kernel
theorem d_Mod_register_104 : decode b_Mod_register 104 = .ok (.getfield 71, 3) := by decide +kernel
theorem d_Mod_register_107 : decode b_Mod_register 107 = .ok (.lmul, 1) := by decide +kernel
theorem d_Mod_register_108 : decode b_Mod_register 108 = .ok (.lcmp, 1) := by decide +kernel
theorem d_Mod_register_109 : decode b_Mod_register 109 = .ok (.ifCond .ne 14, 3) := by decide +kernel
theorem d_Mod_register_112 : decode b_Mod_register 112 = .ok (.iload 9, 2) := by decide +kernel
theorem d_Mod_register_114 : decode b_Mod_register 114 = .ok (.iload 6, 2) := by decide +kernel
theorem d_Mod_register_116 : decode b_Mod_register 116 = .ok (.if_icmp .ge 7, 3) := by decide +kernel
theorem d_Mod_register_119 : decode b_Mod_register 119 = .ok (.iconst 1, 1) := by decide +kernel
theorem d_Mod_register_120 : decode b_Mod_register 120 = .ok (.goto 4, 3) := by decide +kernel
theorem d_Mod_register_123 : decode b_Mod_register 123 = .ok (.iconst 0, 1) := by decide +kernel
theorem d_Mod_register_124 : decode b_Mod_register 124 = .ok (.istore 10, 2) := by decide +kernel
theorem d_Mod_register_126 : decode b_Mod_register 126 = .ok (.aload_n 0, 1) := by decide +kernel
theorem d_Mod_register_127 : decode b_Mod_register 127 = .ok (.iload 10, 2) := by decide +kernel
theorem d_Mod_register_129 : decode b_Mod_register 129 = .ok (.ifCond .eq 8, 3) := by decide +kernel
theorem d_Mod_register_132 : decode b_Mod_register 132 = .ok (.iload 7, 2) := by decide +kernel
theorem d_Mod_register_134 : decode b_Mod_register 134 = .ok (.goto 7, 3) := by decide +kernel
theorem d_Mod_register_137 : decode b_Mod_register 137 = .ok (.aload_n 0, 1) := by decide +kernel
theorem d_Mod_register_138 : decode b_Mod_register 138 = .ok (.getfield 88, 3) := by decide +kernel
theorem d_Mod_register_141 : decode b_Mod_register 141 = .ok (.putfield 88, 3) := by decide +kernel
theorem d_Mod_register_144 : decode b_Mod_register 144 = .ok (.aload_n 0, 1) := by decide +kernel
theorem d_Mod_register_145 : decode b_Mod_register 145 = .ok (.iload 10, 2) := by decide +kernel
theorem d_Mod_register_147 : decode b_Mod_register 147 = .ok (.ifCond .eq 8, 3) := by decide +kernel
theorem d_Mod_register_150 : decode b_Mod_register 150 = .ok (.iload 8, 2) := by decide +kernel
theorem d_Mod_register_152 : decode b_Mod_register 152 = .ok (.goto 7, 3) := by decide +kernel
theorem d_Mod_register_155 : decode b_Mod_register 155 = .ok (.aload_n 0, 1) := by decide +kernel
theorem d_Mod_register_156 : decode b_Mod_register 156 = .ok (.getfield 91, 3) := by decide +kernel
theorem d_Mod_register_159 : decode b_Mod_register 159 = .ok (.putfield 91, 3) := by decide +kernel
theorem d_Mod_register_162 : decode b_Mod_register 162 = .ok (.iload 10, 2) := by decide +kernel
theorem d_Mod_register_164 : decode b_Mod_register 164 = .ok (.ifCond .eq 8, 3) := by decide +kernel
theorem d_Mod_register_167 : decode b_Mod_register 167 = .ok (.iload 9, 2) := by decide +kernel
theorem d_Mod_register_169 : decode b_Mod_register 169 = .ok (.goto 5, 3) := by decide +kernel
theorem d_Mod_register_172 : decode b_Mod_register 172 = .ok (.iload 6, 2) := by decide +kernel
theorem d_Mod_register_174 : decode b_Mod_register 174 = .ok (.istore 6, 2) := by decide +kernel
theorem d_Mod_register_176 : decode b_Mod_register 176 = .ok (.iload 10, 2) := by decide +kernel
theorem d_Mod_register_178 : decode b_Mod_register 178 = .ok (.ifCond .eq 10, 3) := by decide +kernel
theorem d_Mod_register_181 : decode b_Mod_register 181 = .ok (.aload_n 0, 1) := by decide +kernel
theorem d_Mod_register_182 : decode b_Mod_register 182 = .ok (.getfield 67, 3) := by decide +kernel
theorem d_Mod_register_185 : decode b_Mod_register 185 = .ok (.goto 4, 3) := by decide +kernel
theorem d_Mod_register_188 : decode b_Mod_register 188 = .ok (.lload_n 2, 1) := by decide +kernel
theorem d_Mod_register_189 : decode b_Mod_register 189 = .ok (.lstore_n 2, 1) := by decide +kernel
theorem d_Mod_register_190 : decode b_Mod_register 190 = .ok (.iload 10, 2) := by decide +kernel
theorem d_Mod_register_192 : decode b_Mod_register 192 = .ok (.ifCond .eq 10, 3) := by decide +kernel
theorem d_Mod_register_195 : decode b_Mod_register 195 = .ok (.aload_n 0, 1) := by decide +kernel
theorem d_Mod_register_196 : decode b_Mod_register 196 = .ok (.getfield 71, 3) := by decide +kernel
theorem d_Mod_register_199 : decode b_Mod_register 199 = .ok (.goto 5, 3) := by decide +kernel
theorem d_Mod_register_202 : decode b_Mod_register 202 = .ok (.lload 4, 2) := by decide +kernel
theorem d_Mod_register_204 : decode b_Mod_register 204 = .ok (.lstore 4, 2) := by decide +kernel
theorem d_Mod_register_206 : decode b_Mod_register 206 = .ok (.iinc 8 1, 3) := by decide +kernel
theorem d_Mod_register_209 : decode b_Mod_register 209 = .ok (.goto (-166), 3) := by decide +kernel
theorem d_Mod_register_212 : decode b_Mod_register 212 = .ok (.iinc 7 1, 3) := by decide +kernel
theorem d_Mod_register_215 : decode b_Mod_register 215 = .ok (.goto (-183), 3) := by decide +kernel
theorem d_Mod_register_218 : decode b_Mod_register 218 = .ok (.lload_n 2, 1) := by decide +kernel
theorem d_Mod_register_219 : decode b_Mod_register 219 = .ok (.l2i, 1) := by decide +kernel
theorem d_Mod_register_220 : decode b_Mod_register 220 = .ok (.ireturn, 1) := by decide +kernel
theorem d_Mod_shift_0 : decode b_Mod_shift 0 = .ok (.aload_n 0, 1) := by decide +kernel
theorem d_Mod_shift_1 : decode b_Mod_shift 1 = .ok (.iload_n 1, 1) := by decide +kernel
theorem d_Mod_shift_2 : decode b_Mod_shift 2 = .ok (.iconst 0, 1) := by decide +kernel
theorem d_Mod_shift_3 : decode b_Mod_shift 3 = .ok (.iconst 1, 1) := by decide +kernel
theorem d_Mod_shift_4 : decode b_Mod_shift 4 = .ok (.invokestatic 51, 3) := by decide +kernel
theorem d_Mod_shift_7 : decode b_Mod_shift 7 = .ok (.iconst 1, 1) := by decide +kernel
theorem d_Mod_shift_8 : decode b_Mod_shift 8 = .ok (.iconst 1, 1) := by decide +kernel
theorem d_Mod_shift_9 : decode b_Mod_shift 9 = .ok (.invokevirtual 59, 3) := by decide +kernel
theorem d_Mod_shift_12 : decode b_Mod_shift 12 = .ok (.ifCond .ne 5, 3) := by decide +kernel
theorem d_Mod_shift_15 : decode b_Mod_shift 15 = .ok (.iconst 0, 1) := by decide +kernel
theorem d_Mod_shift_16 : decode b_Mod_shift 16 = .ok (.ireturn, 1) := by decide +kernel
theorem d_Mod_shift_17 : decode b_Mod_shift 17 = .ok (.iload_n 1, 1) := by decide +kernel
theorem d_Mod_shift_18 : decode b_Mod_shift 18 = .ok (.ifCond .ne 10, 3) := by decide +kernel
theorem d_Mod_shift_21 : decode b_Mod_shift 21 = .ok (.aload_n 0, 1) := by decide +kernel
theorem d_Mod_shift_22 : decode b_Mod_shift 22 = .ok (.getfield 88, 3) := by decide +kernel
theorem d_Mod_shift_25 : decode b_Mod_shift 25 = .ok (.goto 7, 3) := by decide +kernel
theorem d_Mod_shift_28 : decode b_Mod_shift 28 = .ok (.aload_n 0, 1) := by decide +kernel
theorem d_Mod_shift_29 : decode b_Mod_shift 29 = .ok (.getfield 91, 3) := by decide +kernel
theorem d_Mod_shift_32 : decode b_Mod_shift 32 = .ok (.ireturn, 1) := by decide +kernel
theorem d_Mod_chartsNow_0 : decode b_Mod_chartsNow 0 = .ok (.iconst 0, 1) := by decide +kernel
theorem d_Mod_chartsNow_1 : decode b_Mod_chartsNow 1 = .ok (.istore_n 1, 1) := by decide +kernel
theorem d_Mod_chartsNow_2 : decode b_Mod_chartsNow 2 = .ok (.iconst 0, 1) := by decide +kernel
theorem d_Mod_chartsNow_3 : decode b_Mod_chartsNow 3 = .ok (.istore_n 2, 1) := by decide +kernel
theorem d_Mod_chartsNow_4 : decode b_Mod_chartsNow 4 = .ok (.iload_n 2, 1) := by decide +kernel
theorem d_Mod_chartsNow_5 : decode b_Mod_chartsNow 5 = .ok (.sipush 576, 3) := by decide +kernel
theorem d_Mod_chartsNow_8 : decode b_Mod_chartsNow 8 = .ok (.if_icmp .ge 26, 3) := by decide +kernel
theorem d_Mod_chartsNow_11 : decode b_Mod_chartsNow 11 = .ok (.aload_n 0, 1) := by decide +kernel
theorem d_Mod_chartsNow_12 : decode b_Mod_chartsNow 12 = .ok (.getfield 16, 3) := by decide +kernel
theorem d_Mod_chartsNow_15 : decode b_Mod_chartsNow 15 = .ok (.iload_n 2, 1) := by decide +kernel
theorem d_Mod_chartsNow_16 : decode b_Mod_chartsNow 16 = .ok (.baload, 1) := by decide +kernel
theorem d_Mod_chartsNow_17 : decode b_Mod_chartsNow 17 = .ok (.ifCond .eq 9, 3) := by decide +kernel
theorem d_Mod_chartsNow_20 : decode b_Mod_chartsNow 20 = .ok (.iload_n 1, 1) := by decide +kernel
theorem d_Mod_chartsNow_21 : decode b_Mod_chartsNow 21 = .ok (.iconst 1, 1) := by decide +kernel
theorem d_Mod_chartsNow_22 : decode b_Mod_chartsNow 22 = .ok (.iadd, 1) := by decide +kernel
theorem d_Mod_chartsNow_23 : decode b_Mod_chartsNow 23 = .ok (.goto 4, 3) := by decide +kernel
theorem d_Mod_chartsNow_26 : decode b_Mod_chartsNow 26 = .ok (.iload_n 1, 1) := by decide +kernel
theorem d_Mod_chartsNow_27 : decode b_Mod_chartsNow 27 = .ok (.istore_n 1, 1) := by decide +kernel
theorem d_Mod_chartsNow_28 : decode b_Mod_chartsNow 28 = .ok (.iinc 2 1, 3) := by decide +kernel
theorem d_Mod_chartsNow_31 : decode b_Mod_chartsNow 31 = .ok (.goto (-27), 3) := by decide +kernel
theorem d_Mod_chartsNow_34 : decode b_Mod_chartsNow 34 = .ok (.iload_n 1, 1) := by decide +kernel
theorem d_Mod_chartsNow_35 : decode b_Mod_chartsNow 35 = .ok (.ireturn, 1) := by decide +kernel
theorem d_Mod_chart_0 : decode b_Mod_chart 0 = .ok (.aload_n 0, 1) := by decide +kernel
theorem d_Mod_chart_1 : decode b_Mod_chart 1 = .ok (.iload_n 1, 1) := by decide +kernel
theorem d_Mod_chart_2 : decode b_Mod_chart 2 = .ok (.iload_n 2, 1) := by decide +kernel
theorem d_Mod_chart_3 : decode b_Mod_chart 3 = .ok (.invokevirtual 55, 3) := by decide +kernel
theorem d_Mod_chart_6 : decode b_Mod_chart 6 = .ok (.istore 4, 2) := by decide +kernel
theorem d_Mod_chart_8 : decode b_Mod_chart 8 = .ok (.iload 4, 2) := by decide +kernel
theorem d_Mod_chart_10 : decode b_Mod_chart 10 = .ok (.ifCond .eq 21, 3) := by decide +kernel
theorem d_Mod_chart_13 : decode b_Mod_chart 13 = .ok (.aload_n 0, 1) := by decide +kernel
theorem d_Mod_chart_14 : decode b_Mod_chart 14 = .ok (.getfield 16, 3) := by decide +kernel
theorem d_Mod_chart_17 : decode b_Mod_chart 17 = .ok (.bipush 24, 2) := by decide +kernel
theorem d_Mod_chart_19 : decode b_Mod_chart 19 = .ok (.iload_n 2, 1) := by decide +kernel
theorem d_Mod_chart_20 : decode b_Mod_chart 20 = .ok (.imul, 1) := by decide +kernel
theorem d_Mod_chart_21 : decode b_Mod_chart 21 = .ok (.iload_n 1, 1) := by decide +kernel
theorem d_Mod_chart_22 : decode b_Mod_chart 22 = .ok (.iadd, 1) := by decide +kernel
theorem d_Mod_chart_23 : decode b_Mod_chart 23 = .ok (.baload, 1) := by decide +kernel
theorem d_Mod_chart_24 : decode b_Mod_chart 24 = .ok (.ifCond .eq 7, 3) := by decide +kernel
theorem d_Mod_chart_27 : decode b_Mod_chart 27 = .ok (.iconst 1, 1) := by decide +kernel
theorem d_Mod_chart_28 : decode b_Mod_chart 28 = .ok (.goto 4, 3) := by decide +kernel
theorem d_Mod_chart_31 : decode b_Mod_chart 31 = .ok (.iconst 0, 1) := by decide +kernel
theorem d_Mod_chart_32 : decode b_Mod_chart 32 = .ok (.istore 5, 2) := by decide +kernel
theorem d_Mod_chart_34 : decode b_Mod_chart 34 = .ok (.aload_n 0, 1) := by decide +kernel
theorem d_Mod_chart_35 : decode b_Mod_chart 35 = .ok (.iload 4, 2) := by decide +kernel
theorem d_Mod_chart_37 : decode b_Mod_chart 37 = .ok (.iload_n 3, 1) := by decide +kernel
theorem d_Mod_chart_38 : decode b_Mod_chart 38 = .ok (.ifCond .eq 17, 3) := by decide +kernel
theorem d_Mod_chart_41 : decode b_Mod_chart 41 = .ok (.iload 5, 2) := by decide +kernel
theorem d_Mod_chart_43 : decode b_Mod_chart 43 = .ok (.ifCond .ne 12, 3) := by decide +kernel
theorem d_Mod_chart_46 : decode b_Mod_chart 46 = .ok (.aload_n 0, 1) := by decide +kernel
theorem d_Mod_chart_47 : decode b_Mod_chart 47 = .ok (.invokevirtual 94, 3) := by decide +kernel
theorem d_Mod_chart_50 : decode b_Mod_chart 50 = .ok (.bipush 12, 2) := by decide +kernel
theorem d_Mod_chart_52 : decode b_Mod_chart 52 = .ok (.if_icmp .ge 7, 3) := by decide +kernel
theorem d_Mod_chart_55 : decode b_Mod_chart 55 = .ok (.iconst 1, 1) := by decide +kernel
theorem d_Mod_chart_56 : decode b_Mod_chart 56 = .ok (.goto 4, 3) := by decide +kernel
theorem d_Mod_chart_59 : decode b_Mod_chart 59 = .ok (.iconst 0, 1) := by decide +kernel
theorem d_Mod_chart_60 : decode b_Mod_chart 60 = .ok (.iconst 1, 1) := by decide +kernel
theorem d_Mod_chart_61 : decode b_Mod_chart 61 = .ok (.invokevirtual 59, 3) := by decide +kernel
theorem d_Mod_chart_64 : decode b_Mod_chart 64 = .ok (.ifCond .ne 5, 3) := by decide +kernel
theorem d_Mod_chart_67 : decode b_Mod_chart 67 = .ok (.iconst 0, 1) := by decide +kernel
theorem d_Mod_chart_68 : decode b_Mod_chart 68 = .ok (.ireturn, 1) := by decide +kernel
theorem d_Mod_chart_69 : decode b_Mod_chart 69 = .ok (.aload_n 0, 1) := by decide +kernel
theorem d_Mod_chart_70 : decode b_Mod_chart 70 = .ok (.getfield 16, 3) := by decide +kernel
theorem d_Mod_chart_73 : decode b_Mod_chart 73 = .ok (.bipush 24, 2) := by decide +kernel
theorem d_Mod_chart_75 : decode b_Mod_chart 75 = .ok (.iload_n 2, 1) := by decide +kernel
theorem d_Mod_chart_76 : decode b_Mod_chart 76 = .ok (.imul, 1) := by decide +kernel
theorem d_Mod_chart_77 : decode b_Mod_chart 77 = .ok (.iload_n 1, 1) := by decide +kernel
theorem d_Mod_chart_78 : decode b_Mod_chart 78 = .ok (.iadd, 1) := by decide +kernel
theorem d_Mod_chart_79 : decode b_Mod_chart 79 = .ok (.iload_n 3, 1) := by decide +kernel
theorem d_Mod_chart_80 : decode b_Mod_chart 80 = .ok (.bastore, 1) := by decide +kernel
theorem d_Mod_chart_81 : decode b_Mod_chart 81 = .ok (.iload 5, 2) := by decide +kernel
theorem d_Mod_chart_83 : decode b_Mod_chart 83 = .ok (.iload_n 3, 1) := by decide +kernel
theorem d_Mod_chart_84 : decode b_Mod_chart 84 = .ok (.if_icmp .eq 7, 3) := by decide +kernel
theorem d_Mod_chart_87 : decode b_Mod_chart 87 = .ok (.iconst 1, 1) := by decide +kernel
theorem d_Mod_chart_88 : decode b_Mod_chart 88 = .ok (.goto 4, 3) := by decide +kernel
theorem d_Mod_chart_91 : decode b_Mod_chart 91 = .ok (.iconst 0, 1) := by decide +kernel
theorem d_Mod_chart_92 : decode b_Mod_chart 92 = .ok (.ireturn, 1) := by decide +kernel
theorem d_Mod_divisor_0 : decode b_Mod_divisor 0 = .ok (.lload_n 0, 1) := by decide +kernel
theorem d_Mod_divisor_1 : decode b_Mod_divisor 1 = .ok (.lconst 0, 1) := by decide +kernel
theorem d_Mod_divisor_2 : decode b_Mod_divisor 2 = .ok (.lcmp, 1) := by decide +kernel
theorem d_Mod_divisor_3 : decode b_Mod_divisor 3 = .ok (.ifCond .ge 9, 3) := by decide +kernel
theorem d_Mod_divisor_6 : decode b_Mod_divisor 6 = .ok (.lconst 0, 1) := by decide +kernel
theorem d_Mod_divisor_7 : decode b_Mod_divisor 7 = .ok (.lload_n 0, 1) := by decide +kernel
theorem d_Mod_divisor_8 : decode b_Mod_divisor 8 = .ok (.lsub, 1) := by decide +kernel
theorem d_Mod_divisor_9 : decode b_Mod_divisor 9 = .ok (.goto 4, 3) := by decide +kernel
theorem d_Mod_divisor_12 : decode b_Mod_divisor 12 = .ok (.lload_n 0, 1) := by decide +kernel
theorem d_Mod_divisor_13 : decode b_Mod_divisor 13 = .ok (.lstore 4, 2) := by decide +kernel
theorem d_Mod_divisor_15 : decode b_Mod_divisor 15 = .ok (.lload_n 2, 1) := by decide +kernel
theorem d_Mod_divisor_16 : decode b_Mod_divisor 16 = .ok (.lstore 6, 2) := by decide +kernel
theorem d_Mod_divisor_18 : decode b_Mod_divisor 18 = .ok (.lload 6, 2) := by decide +kernel
theorem d_Mod_divisor_20 : decode b_Mod_divisor 20 = .ok (.lconst 0, 1) := by decide +kernel
theorem d_Mod_divisor_21 : decode b_Mod_divisor 21 = .ok (.lcmp, 1) := by decide +kernel
theorem d_Mod_divisor_22 : decode b_Mod_divisor 22 = .ok (.ifCond .eq 21, 3) := by decide +kernel
theorem d_Mod_divisor_25 : decode b_Mod_divisor 25 = .ok (.lload 4, 2) := by decide +kernel
theorem d_Mod_divisor_27 : decode b_Mod_divisor 27 = .ok (.lload 6, 2) := by decide +kernel
theorem d_Mod_divisor_29 : decode b_Mod_divisor 29 = .ok (.lrem, 1) := by decide +kernel
theorem d_Mod_divisor_30 : decode b_Mod_divisor 30 = .ok (.lstore 8, 2) := by decide +kernel
theorem d_Mod_divisor_32 : decode b_Mod_divisor 32 = .ok (.lload 6, 2) := by decide +kernel
theorem d_Mod_divisor_34 : decode b_Mod_divisor 34 = .ok (.lstore 4, 2) := by decide +kernel
theorem d_Mod_divisor_36 : decode b_Mod_divisor 36 = .ok (.lload 8, 2) := by decide +kernel
theorem d_Mod_divisor_38 : decode b_Mod_divisor 38 = .ok (.lstore 6, 2) := by decide +kernel
theorem d_Mod_divisor_40 : decode b_Mod_divisor 40 = .ok (.goto (-22), 3) := by decide +kernel
theorem d_Mod_divisor_43 : decode b_Mod_divisor 43 = .ok (.lload 4, 2) := by decide +kernel
theorem d_Mod_divisor_45 : decode b_Mod_divisor 45 = .ok (.lreturn, 1) := by decide +kernel
theorem d_Mod_weigh_0 : decode b_Mod_weigh 0 = .ok (.aload_n 0, 1) := by decide +kernel
theorem d_Mod_weigh_1 : decode b_Mod_weigh 1 = .ok (.lconst 0, 1) := by decide +kernel
theorem d_Mod_weigh_2 : decode b_Mod_weigh 2 = .ok (.putfield 98, 3) := by decide +kernel
theorem d_Mod_weigh_5 : decode b_Mod_weigh 5 = .ok (.aload_n 0, 1) := by decide +kernel
theorem d_Mod_weigh_6 : decode b_Mod_weigh 6 = .ok (.lconst 0, 1) := by decide +kernel
theorem d_Mod_weigh_7 : decode b_Mod_weigh 7 = .ok (.putfield 101, 3) := by decide +kernel
theorem d_Mod_weigh_10 : decode b_Mod_weigh 10 = .ok (.iconst 0, 1) := by decide +kernel
theorem d_Mod_weigh_11 : decode b_Mod_weigh 11 = .ok (.istore_n 1, 1) := by decide +kernel
theorem d_Mod_weigh_12 : decode b_Mod_weigh 12 = .ok (.iload_n 1, 1) := by decide +kernel
theorem d_Mod_weigh_13 : decode b_Mod_weigh 13 = .ok (.sipush 576, 3) := by decide +kernel
theorem d_Mod_weigh_16 : decode b_Mod_weigh 16 = .ok (.if_icmp .ge 87, 3) := by decide +kernel
theorem d_Mod_weigh_19 : decode b_Mod_weigh 19 = .ok (.aload_n 0, 1) := by decide +kernel
theorem d_Mod_weigh_20 : decode b_Mod_weigh 20 = .ok (.getfield 16, 3) := by decide +kernel
theorem d_Mod_weigh_23 : decode b_Mod_weigh 23 = .ok (.iload_n 1, 1) := by decide +kernel
theorem d_Mod_weigh_24 : decode b_Mod_weigh 24 = .ok (.baload, 1) := by decide +kernel
theorem d_Mod_weigh_25 : decode b_Mod_weigh 25 = .ok (.ifCond .eq 19, 3) := by decide +kernel
theorem d_Mod_weigh_28 : decode b_Mod_weigh 28 = .ok (.aload_n 0, 1) := by decide +kernel
theorem d_Mod_weigh_29 : decode b_Mod_weigh 29 = .ok (.iload_n 1, 1) := by decide +kernel
theorem d_Mod_weigh_30 : decode b_Mod_weigh 30 = .ok (.aload_n 0, 1) := by decide +kernel
theorem d_Mod_weigh_31 : decode b_Mod_weigh 31 = .ok (.getfield 88, 3) := by decide +kernel
theorem d_Mod_weigh_34 : decode b_Mod_weigh 34 = .ok (.aload_n 0, 1) := by decide +kernel
theorem d_Mod_weigh_35 : decode b_Mod_weigh 35 = .ok (.getfield 91, 3) := by decide +kernel
theorem d_Mod_weigh_38 : decode b_Mod_weigh 38 = .ok (.invokevirtual 74, 3) := by decide +kernel
theorem d_Mod_weigh_41 : decode b_Mod_weigh 41 = .ok (.goto 4, 3) := by decide +kernel
theorem d_Mod_weigh_44 : decode b_Mod_weigh 44 = .ok (.iconst (-1), 1) := by decide +kernel
theorem d_Mod_weigh_45 : decode b_Mod_weigh 45 = .ok (.istore_n 2, 1) := by decide +kernel
theorem d_Mod_weigh_46 : decode b_Mod_weigh 46 = .ok (.iload_n 2, 1) := by decide +kernel
theorem d_Mod_weigh_47 : decode b_Mod_weigh 47 = .ok (.iconst (-1), 1) := by decide +kernel
theorem d_Mod_weigh_48 : decode b_Mod_weigh 48 = .ok (.if_icmp .eq 49, 3) := by decide +kernel
theorem d_Mod_weigh_51 : decode b_Mod_weigh 51 = .ok (.aload_n 0, 1) := by decide +kernel
theorem d_Mod_weigh_52 : decode b_Mod_weigh 52 = .ok (.aload_n 0, 1) := by decide +kernel
theorem d_Mod_weigh_53 : decode b_Mod_weigh 53 = .ok (.getfield 98, 3) := by decide +kernel
theorem d_Mod_weigh_56 : decode b_Mod_weigh 56 = .ok (.aload_n 0, 1) := by decide +kernel
theorem d_Mod_weigh_57 : decode b_Mod_weigh 57 = .ok (.getfield 7, 3) := by decide +kernel
theorem d_Mod_weigh_60 : decode b_Mod_weigh 60 = .ok (.iload_n 1, 1) := by decide +kernel
theorem d_Mod_weigh_61 : decode b_Mod_weigh 61 = .ok (.iaload, 1) := by decide +kernel
theorem d_Mod_weigh_62 : decode b_Mod_weigh 62 = .ok (.aload_n 0, 1) := by decide +kernel
theorem d_Mod_weigh_63 : decode b_Mod_weigh 63 = .ok (.getfield 13, 3) := by decide +kernel
theorem d_Mod_weigh_66 : decode b_Mod_weigh 66 = .ok (.iload_n 2, 1) := by decide +kernel
theorem d_Mod_weigh_67 : decode b_Mod_weigh 67 = .ok (.iaload, 1) := by decide +kernel
theorem d_Mod_weigh_68 : decode b_Mod_weigh 68 = .ok (.imul, 1) := by decide +kernel
theorem d_Mod_weigh_69 : decode b_Mod_weigh 69 = .ok (.i2l, 1) := by decide +kernel
theorem d_Mod_weigh_70 : decode b_Mod_weigh 70 = .ok (.ladd, 1) := by decide +kernel
theorem d_Mod_weigh_71 : decode b_Mod_weigh 71 = .ok (.putfield 98, 3) := by decide +kernel
theorem d_Mod_weigh_74 : decode b_Mod_weigh 74 = .ok (.aload_n 0, 1) := by decide +kernel
theorem d_Mod_weigh_75 : decode b_Mod_weigh 75 = .ok (.aload_n 0, 1) := by decide +kernel
theorem d_Mod_weigh_76 : decode b_Mod_weigh 76 = .ok (.getfield 101, 3) := by decide +kernel
theorem d_Mod_weigh_79 : decode b_Mod_weigh 79 = .ok (.aload_n 0, 1) := by decide +kernel
theorem d_Mod_weigh_80 : decode b_Mod_weigh 80 = .ok (.getfield 13, 3) := by decide +kernel
theorem d_Mod_weigh_83 : decode b_Mod_weigh 83 = .ok (.iload_n 2, 1) := by decide +kernel
theorem d_Mod_weigh_84 : decode b_Mod_weigh 84 = .ok (.iaload, 1) := by decide +kernel
theorem d_Mod_weigh_85 : decode b_Mod_weigh 85 = .ok (.aload_n 0, 1) := by decide +kernel
theorem d_Mod_weigh_86 : decode b_Mod_weigh 86 = .ok (.getfield 13, 3) := by decide +kernel
theorem d_Mod_weigh_89 : decode b_Mod_weigh 89 = .ok (.iload_n 2, 1) := by decide +kernel
theorem d_Mod_weigh_90 : decode b_Mod_weigh 90 = .ok (.iaload, 1) := by decide +kernel
theorem d_Mod_weigh_91 : decode b_Mod_weigh 91 = .ok (.imul, 1) := by decide +kernel
theorem d_Mod_weigh_92 : decode b_Mod_weigh 92 = .ok (.i2l, 1) := by decide +kernel
theorem d_Mod_weigh_93 : decode b_Mod_weigh 93 = .ok (.ladd, 1) := by decide +kernel
theorem d_Mod_weigh_94 : decode b_Mod_weigh 94 = .ok (.putfield 101, 3) := by decide +kernel
theorem d_Mod_weigh_97 : decode b_Mod_weigh 97 = .ok (.iinc 1 1, 3) := by decide +kernel
theorem d_Mod_weigh_100 : decode b_Mod_weigh 100 = .ok (.goto (-88), 3) := by decide +kernel
theorem d_Mod_weigh_103 : decode b_Mod_weigh 103 = .ok (.aload_n 0, 1) := by decide +kernel
theorem d_Mod_weigh_104 : decode b_Mod_weigh 104 = .ok (.getfield 98, 3) := by decide +kernel
theorem d_Mod_weigh_107 : decode b_Mod_weigh 107 = .ok (.lconst 0, 1) := by decide +kernel
theorem d_Mod_weigh_108 : decode b_Mod_weigh 108 = .ok (.lcmp, 1) := by decide +kernel
theorem d_Mod_weigh_109 : decode b_Mod_weigh 109 = .ok (.ifCond .eq 12, 3) := by decide +kernel
theorem d_Mod_weigh_112 : decode b_Mod_weigh 112 = .ok (.aload_n 0, 1) := by decide +kernel
theorem d_Mod_weigh_113 : decode b_Mod_weigh 113 = .ok (.getfield 101, 3) := by decide +kernel
theorem d_Mod_weigh_116 : decode b_Mod_weigh 116 = .ok (.lconst 0, 1) := by decide +kernel
theorem d_Mod_weigh_117 : decode b_Mod_weigh 117 = .ok (.lcmp, 1) := by decide +kernel
theorem d_Mod_weigh_118 : decode b_Mod_weigh 118 = .ok (.ifCond .ne 13, 3) := by decide +kernel
theorem d_Mod_weigh_121 : decode b_Mod_weigh 121 = .ok (.aload_n 0, 1) := by decide +kernel
theorem d_Mod_weigh_122 : decode b_Mod_weigh 122 = .ok (.lconst 1, 1) := by decide +kernel
theorem d_Mod_weigh_123 : decode b_Mod_weigh 123 = .ok (.putfield 98, 3) := by decide +kernel
theorem d_Mod_weigh_126 : decode b_Mod_weigh 126 = .ok (.aload_n 0, 1) := by decide +kernel
theorem d_Mod_weigh_127 : decode b_Mod_weigh 127 = .ok (.lconst 1, 1) := by decide +kernel
theorem d_Mod_weigh_128 : decode b_Mod_weigh 128 = .ok (.putfield 101, 3) := by decide +kernel
theorem d_Mod_weigh_131 : decode b_Mod_weigh 131 = .ok (.aload_n 0, 1) := by decide +kernel
theorem d_Mod_weigh_132 : decode b_Mod_weigh 132 = .ok (.getfield 98, 3) := by decide +kernel
theorem d_Mod_weigh_135 : decode b_Mod_weigh 135 = .ok (.aload_n 0, 1) := by decide +kernel
theorem d_Mod_weigh_136 : decode b_Mod_weigh 136 = .ok (.getfield 101, 3) := by decide +kernel
theorem d_Mod_weigh_139 : decode b_Mod_weigh 139 = .ok (.invokestatic 104, 3) := by decide +kernel
theorem d_Mod_weigh_142 : decode b_Mod_weigh 142 = .ok (.lstore_n 1, 1) := by decide +kernel
theorem d_Mod_weigh_143 : decode b_Mod_weigh 143 = .ok (.aload_n 0, 1) := by decide +kernel
theorem d_Mod_weigh_144 : decode b_Mod_weigh 144 = .ok (.aload_n 0, 1) := by decide +kernel
theorem d_Mod_weigh_145 : decode b_Mod_weigh 145 = .ok (.getfield 98, 3) := by decide +kernel
theorem d_Mod_weigh_148 : decode b_Mod_weigh 148 = .ok (.lload_n 1, 1) := by decide +kernel
theorem d_Mod_weigh_149 : decode b_Mod_weigh 149 = .ok (.ldiv, 1) := by decide +kernel
theorem d_Mod_weigh_150 : decode b_Mod_weigh 150 = .ok (.putfield 98, 3) := by decide +kernel
theorem d_Mod_weigh_153 : decode b_Mod_weigh 153 = .ok (.aload_n 0, 1) := by decide +kernel
theorem d_Mod_weigh_154 : decode b_Mod_weigh 154 = .ok (.aload_n 0, 1) := by decide +kernel
theorem d_Mod_weigh_155 : decode b_Mod_weigh 155 = .ok (.getfield 101, 3) := by decide +kernel
theorem d_Mod_weigh_158 : decode b_Mod_weigh 158 = .ok (.lload_n 1, 1) := by decide +kernel
theorem d_Mod_weigh_159 : decode b_Mod_weigh 159 = .ok (.ldiv, 1) := by decide +kernel
theorem d_Mod_weigh_160 : decode b_Mod_weigh 160 = .ok (.putfield 101, 3) := by decide +kernel
theorem d_Mod_weigh_163 : decode b_Mod_weigh 163 = .ok (.return_, 1) := by decide +kernel
theorem d_Mod_gain_0 : decode b_Mod_gain 0 = .ok (.aload_n 0, 1) := by decide +kernel
theorem d_Mod_gain_1 : decode b_Mod_gain 1 = .ok (.iload_n 1, 1) := by decide +kernel
theorem d_Mod_gain_2 : decode b_Mod_gain 2 = .ok (.iconst 0, 1) := by decide +kernel
theorem d_Mod_gain_3 : decode b_Mod_gain 3 = .ok (.iconst 1, 1) := by decide +kernel
theorem d_Mod_gain_4 : decode b_Mod_gain 4 = .ok (.invokestatic 51, 3) := by decide +kernel
theorem d_Mod_gain_7 : decode b_Mod_gain 7 = .ok (.iconst 1, 1) := by decide +kernel
theorem d_Mod_gain_8 : decode b_Mod_gain 8 = .ok (.iconst 1, 1) := by decide +kernel
theorem d_Mod_gain_9 : decode b_Mod_gain 9 = .ok (.invokevirtual 59, 3) := by decide +kernel
theorem d_Mod_gain_12 : decode b_Mod_gain 12 = .ok (.ifCond .ne 5, 3) := by decide +kernel
theorem d_Mod_gain_15 : decode b_Mod_gain 15 = .ok (.iconst 0, 1) := by decide +kernel
theorem d_Mod_gain_16 : decode b_Mod_gain 16 = .ok (.ireturn, 1) := by decide +kernel
theorem d_Mod_gain_17 : decode b_Mod_gain 17 = .ok (.aload_n 0, 1) := by decide +kernel
theorem d_Mod_gain_18 : decode b_Mod_gain 18 = .ok (.invokevirtual 108, 3) := by decide +kernel
theorem d_Mod_gain_21 : decode b_Mod_gain 21 = .ok (.iload_n 1, 1) := by decide +kernel
theorem d_Mod_gain_22 : decode b_Mod_gain 22 = .ok (.ifCond .ne 10, 3) := by decide +kernel
theorem d_Mod_gain_25 : decode b_Mod_gain 25 = .ok (.aload_n 0, 1) := by decide +kernel
theorem d_Mod_gain_26 : decode b_Mod_gain 26 = .ok (.getfield 98, 3) := by decide +kernel
theorem d_Mod_gain_29 : decode b_Mod_gain 29 = .ok (.goto 7, 3) := by decide +kernel
theorem d_Mod_gain_32 : decode b_Mod_gain 32 = .ok (.aload_n 0, 1) := by decide +kernel
theorem d_Mod_gain_33 : decode b_Mod_gain 33 = .ok (.getfield 101, 3) := by decide +kernel
theorem d_Mod_gain_36 : decode b_Mod_gain 36 = .ok (.l2i, 1) := by decide +kernel
theorem d_Mod_gain_37 : decode b_Mod_gain 37 = .ok (.ireturn, 1) := by decide +kernel
theorem d_Mod_boundOf_0 : decode b_Mod_boundOf 0 = .ok (.aload_n 0, 1) := by decide +kernel
theorem d_Mod_boundOf_1 : decode b_Mod_boundOf 1 = .ok (.getfield 20, 3) := by decide +kernel
theorem d_Mod_boundOf_4 : decode b_Mod_boundOf 4 = .ok (.iload_n 1, 1) := by decide +kernel
theorem d_Mod_boundOf_5 : decode b_Mod_boundOf 5 = .ok (.iaload, 1) := by decide +kernel
theorem d_Mod_boundOf_6 : decode b_Mod_boundOf 6 = .ok (.sipush 999, 3) := by decide +kernel
theorem d_Mod_boundOf_9 : decode b_Mod_boundOf 9 = .ok (.if_icmp .ne 7, 3) := by decide +kernel
theorem d_Mod_boundOf_12 : decode b_Mod_boundOf 12 = .ok (.iconst 0, 1) := by decide +kernel
theorem d_Mod_boundOf_13 : decode b_Mod_boundOf 13 = .ok (.goto 18, 3) := by decide +kernel
theorem d_Mod_boundOf_16 : decode b_Mod_boundOf 16 = .ok (.aload_n 0, 1) := by decide +kernel
theorem d_Mod_boundOf_17 : decode b_Mod_boundOf 17 = .ok (.getfield 20, 3) := by decide +kernel
theorem d_Mod_boundOf_20 : decode b_Mod_boundOf 20 = .ok (.iload_n 1, 1) := by decide +kernel
theorem d_Mod_boundOf_21 : decode b_Mod_boundOf 21 = .ok (.iaload, 1) := by decide +kernel
theorem d_Mod_boundOf_22 : decode b_Mod_boundOf 22 = .ok (.aload_n 0, 1) := by decide +kernel
theorem d_Mod_boundOf_23 : decode b_Mod_boundOf 23 = .ok (.getfield 7, 3) := by decide +kernel
theorem d_Mod_boundOf_26 : decode b_Mod_boundOf 26 = .ok (.iload_n 1, 1) := by decide +kernel
theorem d_Mod_boundOf_27 : decode b_Mod_boundOf 27 = .ok (.iaload, 1) := by decide +kernel
theorem d_Mod_boundOf_28 : decode b_Mod_boundOf 28 = .ok (.invokestatic 78, 3) := by decide +kernel
theorem d_Mod_boundOf_31 : decode b_Mod_boundOf 31 = .ok (.istore_n 2, 1) := by decide +kernel
theorem d_Mod_boundOf_32 : decode b_Mod_boundOf 32 = .ok (.aload_n 0, 1) := by decide +kernel
theorem d_Mod_boundOf_33 : decode b_Mod_boundOf 33 = .ok (.getfield 23, 3) := by decide +kernel
theorem d_Mod_boundOf_36 : decode b_Mod_boundOf 36 = .ok (.iload_n 1, 1) := by decide +kernel
theorem d_Mod_boundOf_37 : decode b_Mod_boundOf 37 = .ok (.iaload, 1) := by decide +kernel
theorem d_Mod_boundOf_38 : decode b_Mod_boundOf 38 = .ok (.iconst (-1), 1) := by decide +kernel
theorem d_Mod_boundOf_39 : decode b_Mod_boundOf 39 = .ok (.if_icmp .ne 7, 3) := by decide +kernel
theorem d_Mod_boundOf_42 : decode b_Mod_boundOf 42 = .ok (.iconst 0, 1) := by decide +kernel
theorem d_Mod_boundOf_43 : decode b_Mod_boundOf 43 = .ok (.goto 18, 3) := by decide +kernel
theorem d_Mod_boundOf_46 : decode b_Mod_boundOf 46 = .ok (.aload_n 0, 1) := by decide +kernel
theorem d_Mod_boundOf_47 : decode b_Mod_boundOf 47 = .ok (.getfield 23, 3) := by decide +kernel
theorem d_Mod_boundOf_50 : decode b_Mod_boundOf 50 = .ok (.iload_n 1, 1) := by decide +kernel
theorem d_Mod_boundOf_51 : decode b_Mod_boundOf 51 = .ok (.iaload, 1) := by decide +kernel
theorem d_Mod_boundOf_52 : decode b_Mod_boundOf 52 = .ok (.aload_n 0, 1) := by decide +kernel
theorem d_Mod_boundOf_53 : decode b_Mod_boundOf 53 = .ok (.getfield 7, 3) := by decide +kernel
theorem d_Mod_boundOf_56 : decode b_Mod_boundOf 56 = .ok (.iload_n 1, 1) := by decide +kernel
theorem d_Mod_boundOf_57 : decode b_Mod_boundOf 57 = .ok (.iaload, 1) := by decide +kernel
theorem d_Mod_boundOf_58 : decode b_Mod_boundOf 58 = .ok (.invokestatic 78, 3) := by decide +kernel
theorem d_Mod_boundOf_61 : decode b_Mod_boundOf 61 = .ok (.istore_n 3, 1) := by decide +kernel
theorem d_Mod_boundOf_62 : decode b_Mod_boundOf 62 = .ok (.aload_n 0, 1) := by decide +kernel
theorem d_Mod_boundOf_63 : decode b_Mod_boundOf 63 = .ok (.getfield 26, 3) := by decide +kernel
theorem d_Mod_boundOf_66 : decode b_Mod_boundOf 66 = .ok (.iload_n 2, 1) := by decide +kernel
theorem d_Mod_boundOf_67 : decode b_Mod_boundOf 67 = .ok (.iload_n 3, 1) := by decide +kernel
theorem d_Mod_boundOf_68 : decode b_Mod_boundOf 68 = .ok (.if_icmp .le 7, 3) := by decide +kernel
theorem d_Mod_boundOf_71 : decode b_Mod_boundOf 71 = .ok (.iload_n 2, 1) := by decide +kernel
theorem d_Mod_boundOf_72 : decode b_Mod_boundOf 72 = .ok (.goto 4, 3) := by decide +kernel
theorem d_Mod_boundOf_75 : decode b_Mod_boundOf 75 = .ok (.iload_n 3, 1) := by decide +kernel
theorem d_Mod_boundOf_76 : decode b_Mod_boundOf 76 = .ok (.iadd, 1) := by decide +kernel
theorem d_Mod_boundOf_77 : decode b_Mod_boundOf 77 = .ok (.ireturn, 1) := by decide +kernel
theorem d_Mod_repeat_0 : decode b_Mod_repeat 0 = .ok (.aload_n 0, 1) := by decide +kernel
theorem d_Mod_repeat_1 : decode b_Mod_repeat 1 = .ok (.aload_n 0, 1) := by decide +kernel
theorem d_Mod_repeat_2 : decode b_Mod_repeat 2 = .ok (.iload_n 1, 1) := by decide +kernel
theorem d_Mod_repeat_3 : decode b_Mod_repeat 3 = .ok (.iload_n 2, 1) := by decide +kernel
theorem d_Mod_repeat_4 : decode b_Mod_repeat 4 = .ok (.invokevirtual 55, 3) := by decide +kernel
theorem d_Mod_repeat_7 : decode b_Mod_repeat 7 = .ok (.iload_n 3, 1) := by decide +kernel
theorem d_Mod_repeat_8 : decode b_Mod_repeat 8 = .ok (.iconst 0, 1) := by decide +kernel
theorem d_Mod_repeat_9 : decode b_Mod_repeat 9 = .ok (.sipush 255, 3) := by decide +kernel
theorem d_Mod_repeat_12 : decode b_Mod_repeat 12 = .ok (.invokestatic 51, 3) := by decide +kernel
theorem d_Mod_repeat_15 : decode b_Mod_repeat 15 = .ok (.iconst 1, 1) := by decide +kernel
theorem d_Mod_repeat_16 : decode b_Mod_repeat 16 = .ok (.invokevirtual 59, 3) := by decide +kernel
theorem d_Mod_repeat_19 : decode b_Mod_repeat 19 = .ok (.ifCond .ne 5, 3) := by decide +kernel
theorem d_Mod_repeat_22 : decode b_Mod_repeat 22 = .ok (.iconst 0, 1) := by decide +kernel
theorem d_Mod_repeat_23 : decode b_Mod_repeat 23 = .ok (.ireturn, 1) := by decide +kernel
theorem d_Mod_repeat_24 : decode b_Mod_repeat 24 = .ok (.bipush 24, 2) := by decide +kernel
theorem d_Mod_repeat_26 : decode b_Mod_repeat 26 = .ok (.iload_n 2, 1) := by decide +kernel
theorem d_Mod_repeat_27 : decode b_Mod_repeat 27 = .ok (.imul, 1) := by decide +kernel
theorem d_Mod_repeat_28 : decode b_Mod_repeat 28 = .ok (.iload_n 1, 1) := by decide +kernel
theorem d_Mod_repeat_29 : decode b_Mod_repeat 29 = .ok (.iadd, 1) := by decide +kernel
theorem d_Mod_repeat_30 : decode b_Mod_repeat 30 = .ok (.istore 4, 2) := by decide +kernel
theorem d_Mod_repeat_32 : decode b_Mod_repeat 32 = .ok (.aload_n 0, 1) := by decide +kernel
theorem d_Mod_repeat_33 : decode b_Mod_repeat 33 = .ok (.getfield 20, 3) := by decide +kernel
theorem d_Mod_repeat_36 : decode b_Mod_repeat 36 = .ok (.iload 4, 2) := by decide +kernel
theorem d_Mod_repeat_38 : decode b_Mod_repeat 38 = .ok (.iload_n 3, 1) := by decide +kernel
theorem d_Mod_repeat_39 : decode b_Mod_repeat 39 = .ok (.aload_n 0, 1) := by decide +kernel
theorem d_Mod_repeat_40 : decode b_Mod_repeat 40 = .ok (.getfield 20, 3) := by decide +kernel
theorem d_Mod_repeat_43 : decode b_Mod_repeat 43 = .ok (.iload 4, 2) := by decide +kernel
theorem d_Mod_repeat_45 : decode b_Mod_repeat 45 = .ok (.iaload, 1) := by decide +kernel
theorem d_Mod_repeat_46 : decode b_Mod_repeat 46 = .ok (.if_icmp .ge 7, 3) := by decide +kernel
theorem d_Mod_repeat_49 : decode b_Mod_repeat 49 = .ok (.iload_n 3, 1) := by decide +kernel
theorem d_Mod_repeat_50 : decode b_Mod_repeat 50 = .ok (.goto 10, 3) := by decide +kernel
theorem d_Mod_repeat_53 : decode b_Mod_repeat 53 = .ok (.aload_n 0, 1) := by decide +kernel
theorem d_Mod_repeat_54 : decode b_Mod_repeat 54 = .ok (.getfield 20, 3) := by decide +kernel
theorem d_Mod_repeat_57 : decode b_Mod_repeat 57 = .ok (.iload 4, 2) := by decide +kernel
theorem d_Mod_repeat_59 : decode b_Mod_repeat 59 = .ok (.iaload, 1) := by decide +kernel
theorem d_Mod_repeat_60 : decode b_Mod_repeat 60 = .ok (.iastore, 1) := by decide +kernel
theorem d_Mod_repeat_61 : decode b_Mod_repeat 61 = .ok (.aload_n 0, 1) := by decide +kernel
theorem d_Mod_repeat_62 : decode b_Mod_repeat 62 = .ok (.getfield 23, 3) := by decide +kernel
theorem d_Mod_repeat_65 : decode b_Mod_repeat 65 = .ok (.iload 4, 2) := by decide +kernel
theorem d_Mod_repeat_67 : decode b_Mod_repeat 67 = .ok (.iload_n 3, 1) := by decide +kernel
theorem d_Mod_repeat_68 : decode b_Mod_repeat 68 = .ok (.aload_n 0, 1) := by decide +kernel
theorem d_Mod_repeat_69 : decode b_Mod_repeat 69 = .ok (.getfield 23, 3) := by decide +kernel
theorem d_Mod_repeat_72 : decode b_Mod_repeat 72 = .ok (.iload 4, 2) := by decide +kernel
theorem d_Mod_repeat_74 : decode b_Mod_repeat 74 = .ok (.iaload, 1) := by decide +kernel
theorem d_Mod_repeat_75 : decode b_Mod_repeat 75 = .ok (.if_icmp .le 7, 3) := by decide +kernel
theorem d_Mod_repeat_78 : decode b_Mod_repeat 78 = .ok (.iload_n 3, 1) := by decide +kernel
theorem d_Mod_repeat_79 : decode b_Mod_repeat 79 = .ok (.goto 10, 3) := by decide +kernel
theorem d_Mod_repeat_82 : decode b_Mod_repeat 82 = .ok (.aload_n 0, 1) := by decide +kernel
theorem d_Mod_repeat_83 : decode b_Mod_repeat 83 = .ok (.getfield 23, 3) := by decide +kernel
theorem d_Mod_repeat_86 : decode b_Mod_repeat 86 = .ok (.iload 4, 2) := by decide +kernel
theorem d_Mod_repeat_88 : decode b_Mod_repeat 88 = .ok (.iaload, 1) := by decide +kernel
theorem d_Mod_repeat_89 : decode b_Mod_repeat 89 = .ok (.iastore, 1) := by decide +kernel
theorem d_Mod_repeat_90 : decode b_Mod_repeat 90 = .ok (.aload_n 0, 1) := by decide +kernel
theorem d_Mod_repeat_91 : decode b_Mod_repeat 91 = .ok (.dup, 1) := by decide +kernel
theorem d_Mod_repeat_92 : decode b_Mod_repeat 92 = .ok (.getfield 111, 3) := by decide +kernel
theorem d_Mod_repeat_95 : decode b_Mod_repeat 95 = .ok (.iconst 1, 1) := by decide +kernel
theorem d_Mod_repeat_96 : decode b_Mod_repeat 96 = .ok (.iadd, 1) := by decide +kernel
theorem d_Mod_repeat_97 : decode b_Mod_repeat 97 = .ok (.putfield 111, 3) := by decide +kernel
theorem d_Mod_repeat_100 : decode b_Mod_repeat 100 = .ok (.aload_n 0, 1) := by decide +kernel
theorem d_Mod_repeat_101 : decode b_Mod_repeat 101 = .ok (.iload_n 3, 1) := by decide +kernel
theorem d_Mod_repeat_102 : decode b_Mod_repeat 102 = .ok (.aload_n 0, 1) := by decide +kernel
theorem d_Mod_repeat_103 : decode b_Mod_repeat 103 = .ok (.getfield 7, 3) := by decide +kernel
theorem d_Mod_repeat_106 : decode b_Mod_repeat 106 = .ok (.iload 4, 2) := by decide +kernel
theorem d_Mod_repeat_108 : decode b_Mod_repeat 108 = .ok (.iaload, 1) := by decide +kernel
theorem d_Mod_repeat_109 : decode b_Mod_repeat 109 = .ok (.invokestatic 78, 3) := by decide +kernel
theorem d_Mod_repeat_112 : decode b_Mod_repeat 112 = .ok (.aload_n 0, 1) := by decide +kernel
theorem d_Mod_repeat_113 : decode b_Mod_repeat 113 = .ok (.getfield 26, 3) := by decide +kernel

theorem d_Mod_repeat_116 : decode b_Mod_repeat 116 = .ok (.if_icmp .le 12, 3) := by decide +kernel
theorem d_Mod_repeat_119 : decode b_Mod_repeat 119 = .ok (.aload_n 0, 1) := by decide +kernel
theorem d_Mod_repeat_120 : decode b_Mod_repeat 120 = .ok (.getfield 114, 3) := by decide +kernel
theorem d_Mod_repeat_123 : decode b_Mod_repeat 123 = .ok (.iconst 1, 1) := by decide +kernel
theorem d_Mod_repeat_124 : decode b_Mod_repeat 124 = .ok (.iadd, 1) := by decide +kernel
theorem d_Mod_repeat_125 : decode b_Mod_repeat 125 = .ok (.goto 7, 3) := by decide +kernel
theorem d_Mod_repeat_128 : decode b_Mod_repeat 128 = .ok (.aload_n 0, 1) := by decide +kernel
theorem d_Mod_repeat_129 : decode b_Mod_repeat 129 = .ok (.getfield 114, 3) := by decide +kernel
theorem d_Mod_repeat_132 : decode b_Mod_repeat 132 = .ok (.putfield 114, 3) := by decide +kernel
theorem d_Mod_repeat_135 : decode b_Mod_repeat 135 = .ok (.aload_n 0, 1) := by decide +kernel
theorem d_Mod_repeat_136 : decode b_Mod_repeat 136 = .ok (.iload 4, 2) := by decide +kernel
theorem d_Mod_repeat_138 : decode b_Mod_repeat 138 = .ok (.invokevirtual 117, 3) := by decide +kernel
theorem d_Mod_repeat_141 : decode b_Mod_repeat 141 = .ok (.ireturn, 1) := by decide +kernel
theorem d_Mod_floor_0 : decode b_Mod_floor 0 = .ok (.aload_n 0, 1) := by decide +kernel
theorem d_Mod_floor_1 : decode b_Mod_floor 1 = .ok (.iload_n 1, 1) := by decide +kernel
theorem d_Mod_floor_2 : decode b_Mod_floor 2 = .ok (.iconst 0, 1) := by decide +kernel
theorem d_Mod_floor_3 : decode b_Mod_floor 3 = .ok (.sipush 255, 3) := by decide +kernel
theorem d_Mod_floor_6 : decode b_Mod_floor 6 = .ok (.invokestatic 51, 3) := by decide +kernel
theorem d_Mod_floor_9 : decode b_Mod_floor 9 = .ok (.iconst 1, 1) := by decide +kernel
theorem d_Mod_floor_10 : decode b_Mod_floor 10 = .ok (.iconst 1, 1) := by decide +kernel
theorem d_Mod_floor_11 : decode b_Mod_floor 11 = .ok (.invokevirtual 59, 3) := by decide +kernel
theorem d_Mod_floor_14 : decode b_Mod_floor 14 = .ok (.ifCond .ne 5, 3) := by decide +kernel
theorem d_Mod_floor_17 : decode b_Mod_floor 17 = .ok (.iconst 0, 1) := by decide +kernel
theorem d_Mod_floor_18 : decode b_Mod_floor 18 = .ok (.ireturn, 1) := by decide +kernel
theorem d_Mod_floor_19 : decode b_Mod_floor 19 = .ok (.aload_n 0, 1) := by decide +kernel
theorem d_Mod_floor_20 : decode b_Mod_floor 20 = .ok (.getfield 26, 3) := by decide +kernel
theorem d_Mod_floor_23 : decode b_Mod_floor 23 = .ok (.istore_n 2, 1) := by decide +kernel
theorem d_Mod_floor_24 : decode b_Mod_floor 24 = .ok (.aload_n 0, 1) := by decide +kernel
theorem d_Mod_floor_25 : decode b_Mod_floor 25 = .ok (.iload_n 1, 1) := by decide +kernel
theorem d_Mod_floor_26 : decode b_Mod_floor 26 = .ok (.putfield 26, 3) := by decide +kernel
theorem d_Mod_floor_29 : decode b_Mod_floor 29 = .ok (.iload_n 2, 1) := by decide +kernel
theorem d_Mod_floor_30 : decode b_Mod_floor 30 = .ok (.ireturn, 1) := by decide +kernel
theorem d_Mod_bound_0 : decode b_Mod_bound 0 = .ok (.aload_n 0, 1) := by decide +kernel
theorem d_Mod_bound_1 : decode b_Mod_bound 1 = .ok (.aload_n 0, 1) := by decide +kernel
theorem d_Mod_bound_2 : decode b_Mod_bound 2 = .ok (.iload_n 1, 1) := by decide +kernel
theorem d_Mod_bound_3 : decode b_Mod_bound 3 = .ok (.iload_n 2, 1) := by decide +kernel
theorem d_Mod_bound_4 : decode b_Mod_bound 4 = .ok (.invokevirtual 55, 3) := by decide +kernel
theorem d_Mod_bound_7 : decode b_Mod_bound 7 = .ok (.iconst 1, 1) := by decide +kernel
theorem d_Mod_bound_8 : decode b_Mod_bound 8 = .ok (.iconst 1, 1) := by decide +kernel
theorem d_Mod_bound_9 : decode b_Mod_bound 9 = .ok (.invokevirtual 59, 3) := by decide +kernel
theorem d_Mod_bound_12 : decode b_Mod_bound 12 = .ok (.ifCond .eq 16, 3) := by decide +kernel
theorem d_Mod_bound_15 : decode b_Mod_bound 15 = .ok (.aload_n 0, 1) := by decide +kernel
theorem d_Mod_bound_16 : decode b_Mod_bound 16 = .ok (.bipush 24, 2) := by decide +kernel
theorem d_Mod_bound_18 : decode b_Mod_bound 18 = .ok (.iload_n 2, 1) := by decide +kernel
theorem d_Mod_bound_19 : decode b_Mod_bound 19 = .ok (.imul, 1) := by decide +kernel
theorem d_Mod_bound_20 : decode b_Mod_bound 20 = .ok (.iload_n 1, 1) := by decide +kernel
theorem d_Mod_bound_21 : decode b_Mod_bound 21 = .ok (.iadd, 1) := by decide +kernel
theorem d_Mod_bound_22 : decode b_Mod_bound 22 = .ok (.invokevirtual 117, 3) := by decide +kernel
theorem d_Mod_bound_25 : decode b_Mod_bound 25 = .ok (.goto 4, 3) := by decide +kernel
theorem d_Mod_bound_28 : decode b_Mod_bound 28 = .ok (.iconst 0, 1) := by decide +kernel
theorem d_Mod_bound_29 : decode b_Mod_bound 29 = .ok (.ireturn, 1) := by decide +kernel
theorem d_Mod_changeOf_0 : decode b_Mod_changeOf 0 = .ok (.aload_n 0, 1) := by decide +kernel
theorem d_Mod_changeOf_1 : decode b_Mod_changeOf 1 = .ok (.iload_n 1, 1) := by decide +kernel
theorem d_Mod_changeOf_2 : decode b_Mod_changeOf 2 = .ok (.aload_n 0, 1) := by decide +kernel
theorem d_Mod_changeOf_3 : decode b_Mod_changeOf 3 = .ok (.getfield 88, 3) := by decide +kernel
theorem d_Mod_changeOf_6 : decode b_Mod_changeOf 6 = .ok (.aload_n 0, 1) := by decide +kernel
theorem d_Mod_changeOf_7 : decode b_Mod_changeOf 7 = .ok (.getfield 91, 3) := by decide +kernel
theorem d_Mod_changeOf_10 : decode b_Mod_changeOf 10 = .ok (.invokevirtual 74, 3) := by decide +kernel
theorem d_Mod_changeOf_13 : decode b_Mod_changeOf 13 = .ok (.istore_n 2, 1) := by decide +kernel
theorem d_Mod_changeOf_14 : decode b_Mod_changeOf 14 = .ok (.iload_n 2, 1) := by decide +kernel
theorem d_Mod_changeOf_15 : decode b_Mod_changeOf 15 = .ok (.iconst (-1), 1) := by decide +kernel
theorem d_Mod_changeOf_16 : decode b_Mod_changeOf 16 = .ok (.if_icmp .ne 5, 3) := by decide +kernel
theorem d_Mod_changeOf_19 : decode b_Mod_changeOf 19 = .ok (.iconst 0, 1) := by decide +kernel
theorem d_Mod_changeOf_20 : decode b_Mod_changeOf 20 = .ok (.ireturn, 1) := by decide +kernel
theorem d_Mod_changeOf_21 : decode b_Mod_changeOf 21 = .ok (.ldc2_w 121, 3) := by decide +kernel
theorem d_Mod_changeOf_24 : decode b_Mod_changeOf 24 = .ok (.aload_n 0, 1) := by decide +kernel
theorem d_Mod_changeOf_25 : decode b_Mod_changeOf 25 = .ok (.getfield 13, 3) := by decide +kernel
theorem d_Mod_changeOf_28 : decode b_Mod_changeOf 28 = .ok (.iload_n 2, 1) := by decide +kernel
theorem d_Mod_changeOf_29 : decode b_Mod_changeOf 29 = .ok (.iaload, 1) := by decide +kernel
theorem d_Mod_changeOf_30 : decode b_Mod_changeOf 30 = .ok (.i2l, 1) := by decide +kernel
theorem d_Mod_changeOf_31 : decode b_Mod_changeOf 31 = .ok (.lmul, 1) := by decide +kernel
theorem d_Mod_changeOf_32 : decode b_Mod_changeOf 32 = .ok (.aload_n 0, 1) := by decide +kernel
theorem d_Mod_changeOf_33 : decode b_Mod_changeOf 33 = .ok (.getfield 98, 3) := by decide +kernel
theorem d_Mod_changeOf_36 : decode b_Mod_changeOf 36 = .ok (.lmul, 1) := by decide +kernel
theorem d_Mod_changeOf_37 : decode b_Mod_changeOf 37 = .ok (.aload_n 0, 1) := by decide +kernel
theorem d_Mod_changeOf_38 : decode b_Mod_changeOf 38 = .ok (.getfield 101, 3) := by decide +kernel
theorem d_Mod_changeOf_41 : decode b_Mod_changeOf 41 = .ok (.ladd, 1) := by decide +kernel
theorem d_Mod_changeOf_42 : decode b_Mod_changeOf 42 = .ok (.ldc2_w 121, 3) := by decide +kernel
theorem d_Mod_changeOf_45 : decode b_Mod_changeOf 45 = .ok (.aload_n 0, 1) := by decide +kernel
theorem d_Mod_changeOf_46 : decode b_Mod_changeOf 46 = .ok (.getfield 101, 3) := by decide +kernel
theorem d_Mod_changeOf_49 : decode b_Mod_changeOf 49 = .ok (.lmul, 1) := by decide +kernel
theorem d_Mod_changeOf_50 : decode b_Mod_changeOf 50 = .ok (.ldiv, 1) := by decide +kernel
theorem d_Mod_changeOf_51 : decode b_Mod_changeOf 51 = .ok (.lstore_n 3, 1) := by decide +kernel
theorem d_Mod_changeOf_52 : decode b_Mod_changeOf 52 = .ok (.aload_n 0, 1) := by decide +kernel
theorem d_Mod_changeOf_53 : decode b_Mod_changeOf 53 = .ok (.getfield 7, 3) := by decide +kernel
theorem d_Mod_changeOf_56 : decode b_Mod_changeOf 56 = .ok (.iload_n 1, 1) := by decide +kernel
theorem d_Mod_changeOf_57 : decode b_Mod_changeOf 57 = .ok (.iaload, 1) := by decide +kernel
theorem d_Mod_changeOf_58 : decode b_Mod_changeOf 58 = .ok (.lload_n 3, 1) := by decide +kernel
theorem d_Mod_changeOf_59 : decode b_Mod_changeOf 59 = .ok (.l2i, 1) := by decide +kernel
theorem d_Mod_changeOf_60 : decode b_Mod_changeOf 60 = .ok (.invokestatic 78, 3) := by decide +kernel
theorem d_Mod_changeOf_63 : decode b_Mod_changeOf 63 = .ok (.ireturn, 1) := by decide +kernel
theorem d_Mod_change_0 : decode b_Mod_change 0 = .ok (.aload_n 0, 1) := by decide +kernel
theorem d_Mod_change_1 : decode b_Mod_change 1 = .ok (.aload_n 0, 1) := by decide +kernel
theorem d_Mod_change_2 : decode b_Mod_change 2 = .ok (.iload_n 1, 1) := by decide +kernel
theorem d_Mod_change_3 : decode b_Mod_change 3 = .ok (.iload_n 2, 1) := by decide +kernel
theorem d_Mod_change_4 : decode b_Mod_change 4 = .ok (.invokevirtual 55, 3) := by decide +kernel
theorem d_Mod_change_7 : decode b_Mod_change 7 = .ok (.iconst 1, 1) := by decide +kernel
theorem d_Mod_change_8 : decode b_Mod_change 8 = .ok (.iconst 1, 1) := by decide +kernel
theorem d_Mod_change_9 : decode b_Mod_change 9 = .ok (.invokevirtual 59, 3) := by decide +kernel
theorem d_Mod_change_12 : decode b_Mod_change 12 = .ok (.ifCond .ne 5, 3) := by decide +kernel
theorem d_Mod_change_15 : decode b_Mod_change 15 = .ok (.iconst 0, 1) := by decide +kernel
theorem d_Mod_change_16 : decode b_Mod_change 16 = .ok (.ireturn, 1) := by decide +kernel
theorem d_Mod_change_17 : decode b_Mod_change 17 = .ok (.aload_n 0, 1) := by decide +kernel
theorem d_Mod_change_18 : decode b_Mod_change 18 = .ok (.invokevirtual 108, 3) := by decide +kernel
theorem d_Mod_change_21 : decode b_Mod_change 21 = .ok (.aload_n 0, 1) := by decide +kernel
theorem d_Mod_change_22 : decode b_Mod_change 22 = .ok (.bipush 24, 2) := by decide +kernel
theorem d_Mod_change_24 : decode b_Mod_change 24 = .ok (.iload_n 2, 1) := by decide +kernel
theorem d_Mod_change_25 : decode b_Mod_change 25 = .ok (.imul, 1) := by decide +kernel
theorem d_Mod_change_26 : decode b_Mod_change 26 = .ok (.iload_n 1, 1) := by decide +kernel
theorem d_Mod_change_27 : decode b_Mod_change 27 = .ok (.iadd, 1) := by decide +kernel
theorem d_Mod_change_28 : decode b_Mod_change 28 = .ok (.invokevirtual 123, 3) := by decide +kernel
theorem d_Mod_change_31 : decode b_Mod_change 31 = .ok (.ireturn, 1) := by decide +kernel
theorem d_Mod_neighbour_0 : decode b_Mod_neighbour 0 = .ok (.iload_n 1, 1) := by decide +kernel
theorem d_Mod_neighbour_1 : decode b_Mod_neighbour 1 = .ok (.bipush 24, 2) := by decide +kernel
theorem d_Mod_neighbour_3 : decode b_Mod_neighbour 3 = .ok (.irem, 1) := by decide +kernel
theorem d_Mod_neighbour_4 : decode b_Mod_neighbour 4 = .ok (.iload_n 2, 1) := by decide +kernel
theorem d_Mod_neighbour_5 : decode b_Mod_neighbour 5 = .ok (.iconst 1, 1) := by decide +kernel
theorem d_Mod_neighbour_6 : decode b_Mod_neighbour 6 = .ok (.if_icmp .ne 7, 3) := by decide +kernel
theorem d_Mod_neighbour_9 : decode b_Mod_neighbour 9 = .ok (.iconst 1, 1) := by decide +kernel
theorem d_Mod_neighbour_10 : decode b_Mod_neighbour 10 = .ok (.goto 13, 3) := by decide +kernel
theorem d_Mod_neighbour_13 : decode b_Mod_neighbour 13 = .ok (.iload_n 2, 1) := by decide +kernel
theorem d_Mod_neighbour_14 : decode b_Mod_neighbour 14 = .ok (.iconst 3, 1) := by decide +kernel
theorem d_Mod_neighbour_15 : decode b_Mod_neighbour 15 = .ok (.if_icmp .ne 7, 3) := by decide +kernel
theorem d_Mod_neighbour_18 : decode b_Mod_neighbour 18 = .ok (.iconst (-1), 1) := by decide +kernel
theorem d_Mod_neighbour_19 : decode b_Mod_neighbour 19 = .ok (.goto 4, 3) := by decide +kernel
theorem d_Mod_neighbour_22 : decode b_Mod_neighbour 22 = .ok (.iconst 0, 1) := by decide +kernel
theorem d_Mod_neighbour_23 : decode b_Mod_neighbour 23 = .ok (.iadd, 1) := by decide +kernel
theorem d_Mod_neighbour_24 : decode b_Mod_neighbour 24 = .ok (.istore_n 3, 1) := by decide +kernel
theorem d_Mod_neighbour_25 : decode b_Mod_neighbour 25 = .ok (.iload_n 1, 1) := by decide +kernel
theorem d_Mod_neighbour_26 : decode b_Mod_neighbour 26 = .ok (.bipush 24, 2) := by decide +kernel
theorem d_Mod_neighbour_28 : decode b_Mod_neighbour 28 = .ok (.idiv, 1) := by decide +kernel
theorem d_Mod_neighbour_29 : decode b_Mod_neighbour 29 = .ok (.iload_n 2, 1) := by decide +kernel
theorem d_Mod_neighbour_30 : decode b_Mod_neighbour 30 = .ok (.ifCond .ne 7, 3) := by decide +kernel
theorem d_Mod_neighbour_33 : decode b_Mod_neighbour 33 = .ok (.iconst (-1), 1) := by decide +kernel
theorem d_Mod_neighbour_34 : decode b_Mod_neighbour 34 = .ok (.goto 13, 3) := by decide +kernel
theorem d_Mod_neighbour_37 : decode b_Mod_neighbour 37 = .ok (.iload_n 2, 1) := by decide +kernel
theorem d_Mod_neighbour_38 : decode b_Mod_neighbour 38 = .ok (.iconst 2, 1) := by decide +kernel
theorem d_Mod_neighbour_39 : decode b_Mod_neighbour 39 = .ok (.if_icmp .ne 7, 3) := by decide +kernel
theorem d_Mod_neighbour_42 : decode b_Mod_neighbour 42 = .ok (.iconst 1, 1) := by decide +kernel
theorem d_Mod_neighbour_43 : decode b_Mod_neighbour 43 = .ok (.goto 4, 3) := by decide +kernel
theorem d_Mod_neighbour_46 : decode b_Mod_neighbour 46 = .ok (.iconst 0, 1) := by decide +kernel
theorem d_Mod_neighbour_47 : decode b_Mod_neighbour 47 = .ok (.iadd, 1) := by decide +kernel
theorem d_Mod_neighbour_48 : decode b_Mod_neighbour 48 = .ok (.istore 4, 2) := by decide +kernel
theorem d_Mod_neighbour_50 : decode b_Mod_neighbour 50 = .ok (.aload_n 0, 1) := by decide +kernel
theorem d_Mod_neighbour_51 : decode b_Mod_neighbour 51 = .ok (.iload_n 3, 1) := by decide +kernel
theorem d_Mod_neighbour_52 : decode b_Mod_neighbour 52 = .ok (.iload 4, 2) := by decide +kernel
theorem d_Mod_neighbour_54 : decode b_Mod_neighbour 54 = .ok (.invokevirtual 55, 3) := by decide +kernel
theorem d_Mod_neighbour_57 : decode b_Mod_neighbour 57 = .ok (.ifCond .eq 13, 3) := by decide +kernel
theorem d_Mod_neighbour_60 : decode b_Mod_neighbour 60 = .ok (.bipush 24, 2) := by decide +kernel
theorem d_Mod_neighbour_62 : decode b_Mod_neighbour 62 = .ok (.iload 4, 2) := by decide +kernel
theorem d_Mod_neighbour_64 : decode b_Mod_neighbour 64 = .ok (.imul, 1) := by decide +kernel
theorem d_Mod_neighbour_65 : decode b_Mod_neighbour 65 = .ok (.iload_n 3, 1) := by decide +kernel
theorem d_Mod_neighbour_66 : decode b_Mod_neighbour 66 = .ok (.iadd, 1) := by decide +kernel
theorem d_Mod_neighbour_67 : decode b_Mod_neighbour 67 = .ok (.goto 4, 3) := by decide +kernel
theorem d_Mod_neighbour_70 : decode b_Mod_neighbour 70 = .ok (.iconst (-1), 1) := by decide +kernel
theorem d_Mod_neighbour_71 : decode b_Mod_neighbour 71 = .ok (.ireturn, 1) := by decide +kernel
theorem d_Mod_lowest_0 : decode b_Mod_lowest 0 = .ok (.aload_n 0, 1) := by decide +kernel
theorem d_Mod_lowest_1 : decode b_Mod_lowest 1 = .ok (.getfield 30, 3) := by decide +kernel
theorem d_Mod_lowest_4 : decode b_Mod_lowest 4 = .ok (.iload_n 1, 1) := by decide +kernel
theorem d_Mod_lowest_5 : decode b_Mod_lowest 5 = .ok (.iaload, 1) := by decide +kernel
theorem d_Mod_lowest_6 : decode b_Mod_lowest 6 = .ok (.istore_n 2, 1) := by decide +kernel
theorem d_Mod_lowest_7 : decode b_Mod_lowest 7 = .ok (.iconst 0, 1) := by decide +kernel
theorem d_Mod_lowest_8 : decode b_Mod_lowest 8 = .ok (.istore_n 3, 1) := by decide +kernel
theorem d_Mod_lowest_9 : decode b_Mod_lowest 9 = .ok (.iload_n 3, 1) := by decide +kernel
theorem d_Mod_lowest_10 : decode b_Mod_lowest 10 = .ok (.iconst 4, 1) := by decide +kernel
theorem d_Mod_lowest_11 : decode b_Mod_lowest 11 = .ok (.if_icmp .ge 57, 3) := by decide +kernel
theorem d_Mod_lowest_14 : decode b_Mod_lowest 14 = .ok (.aload_n 0, 1) := by decide +kernel
theorem d_Mod_lowest_15 : decode b_Mod_lowest 15 = .ok (.iload_n 1, 1) := by decide +kernel
theorem d_Mod_lowest_16 : decode b_Mod_lowest 16 = .ok (.iload_n 3, 1) := by decide +kernel
theorem d_Mod_lowest_17 : decode b_Mod_lowest 17 = .ok (.invokevirtual 126, 3) := by decide +kernel
theorem d_Mod_lowest_20 : decode b_Mod_lowest 20 = .ok (.istore 4, 2) := by decide +kernel
theorem d_Mod_lowest_22 : decode b_Mod_lowest 22 = .ok (.iload 4, 2) := by decide +kernel
theorem d_Mod_lowest_24 : decode b_Mod_lowest 24 = .ok (.iconst (-1), 1) := by decide +kernel
theorem d_Mod_lowest_25 : decode b_Mod_lowest 25 = .ok (.if_icmp .eq 35, 3) := by decide +kernel
theorem d_Mod_lowest_28 : decode b_Mod_lowest 28 = .ok (.aload_n 0, 1) := by decide +kernel
theorem d_Mod_lowest_29 : decode b_Mod_lowest 29 = .ok (.getfield 30, 3) := by decide +kernel
theorem d_Mod_lowest_32 : decode b_Mod_lowest 32 = .ok (.iload 4, 2) := by decide +kernel
theorem d_Mod_lowest_34 : decode b_Mod_lowest 34 = .ok (.iaload, 1) := by decide +kernel
theorem d_Mod_lowest_35 : decode b_Mod_lowest 35 = .ok (.iconst (-1), 1) := by decide +kernel
theorem d_Mod_lowest_36 : decode b_Mod_lowest 36 = .ok (.if_icmp .eq 24, 3) := by decide +kernel
theorem d_Mod_lowest_39 : decode b_Mod_lowest 39 = .ok (.aload_n 0, 1) := by decide +kernel
theorem d_Mod_lowest_40 : decode b_Mod_lowest 40 = .ok (.getfield 30, 3) := by decide +kernel
theorem d_Mod_lowest_43 : decode b_Mod_lowest 43 = .ok (.iload 4, 2) := by decide +kernel
theorem d_Mod_lowest_45 : decode b_Mod_lowest 45 = .ok (.iaload, 1) := by decide +kernel
theorem d_Mod_lowest_46 : decode b_Mod_lowest 46 = .ok (.iload_n 2, 1) := by decide +kernel
theorem d_Mod_lowest_47 : decode b_Mod_lowest 47 = .ok (.if_icmp .ge 13, 3) := by decide +kernel
theorem d_Mod_lowest_50 : decode b_Mod_lowest 50 = .ok (.aload_n 0, 1) := by decide +kernel
theorem d_Mod_lowest_51 : decode b_Mod_lowest 51 = .ok (.getfield 30, 3) := by decide +kernel
theorem d_Mod_lowest_54 : decode b_Mod_lowest 54 = .ok (.iload 4, 2) := by decide +kernel
theorem d_Mod_lowest_56 : decode b_Mod_lowest 56 = .ok (.iaload, 1) := by decide +kernel
theorem d_Mod_lowest_57 : decode b_Mod_lowest 57 = .ok (.goto 4, 3) := by decide +kernel
theorem d_Mod_lowest_60 : decode b_Mod_lowest 60 = .ok (.iload_n 2, 1) := by decide +kernel
theorem d_Mod_lowest_61 : decode b_Mod_lowest 61 = .ok (.istore_n 2, 1) := by decide +kernel
theorem d_Mod_lowest_62 : decode b_Mod_lowest 62 = .ok (.iinc 3 1, 3) := by decide +kernel
theorem d_Mod_lowest_65 : decode b_Mod_lowest 65 = .ok (.goto (-56), 3) := by decide +kernel
theorem d_Mod_lowest_68 : decode b_Mod_lowest 68 = .ok (.iload_n 2, 1) := by decide +kernel
theorem d_Mod_lowest_69 : decode b_Mod_lowest 69 = .ok (.ireturn, 1) := by decide +kernel
theorem d_Mod_run_0 : decode b_Mod_run 0 = .ok (.aload_n 0, 1) := by decide +kernel
theorem d_Mod_run_1 : decode b_Mod_run 1 = .ok (.iconst 0, 1) := by decide +kernel
theorem d_Mod_run_2 : decode b_Mod_run 2 = .ok (.putfield 48, 3) := by decide +kernel
theorem d_Mod_run_5 : decode b_Mod_run 5 = .ok (.aload_n 0, 1) := by decide +kernel
theorem d_Mod_run_6 : decode b_Mod_run 6 = .ok (.invokevirtual 108, 3) := by decide +kernel
theorem d_Mod_run_9 : decode b_Mod_run 9 = .ok (.aload_n 0, 1) := by decide +kernel
theorem d_Mod_run_10 : decode b_Mod_run 10 = .ok (.iconst 0, 1) := by decide +kernel
theorem d_Mod_run_11 : decode b_Mod_run 11 = .ok (.putfield 129, 3) := by decide +kernel
theorem d_Mod_run_14 : decode b_Mod_run 14 = .ok (.iconst 0, 1) := by decide +kernel
theorem d_Mod_run_15 : decode b_Mod_run 15 = .ok (.istore_n 1, 1) := by decide +kernel
theorem d_Mod_run_16 : decode b_Mod_run 16 = .ok (.iload_n 1, 1) := by decide +kernel
theorem d_Mod_run_17 : decode b_Mod_run 17 = .ok (.sipush 576, 3) := by decide +kernel
theorem d_Mod_run_20 : decode b_Mod_run 20 = .ok (.if_icmp .ge 92, 3) := by decide +kernel
theorem d_Mod_run_23 : decode b_Mod_run 23 = .ok (.aload_n 0, 1) := by decide +kernel
theorem d_Mod_run_24 : decode b_Mod_run 24 = .ok (.getfield 33, 3) := by decide +kernel
theorem d_Mod_run_27 : decode b_Mod_run 27 = .ok (.iload_n 1, 1) := by decide +kernel
theorem d_Mod_run_28 : decode b_Mod_run 28 = .ok (.aload_n 0, 1) := by decide +kernel
theorem d_Mod_run_29 : decode b_Mod_run 29 = .ok (.iload_n 1, 1) := by decide +kernel
theorem d_Mod_run_30 : decode b_Mod_run 30 = .ok (.invokevirtual 63, 3) := by decide +kernel
theorem d_Mod_run_33 : decode b_Mod_run 33 = .ok (.ifCond .eq 11, 3) := by decide +kernel
theorem d_Mod_run_36 : decode b_Mod_run 36 = .ok (.aload_n 0, 1) := by decide +kernel
theorem d_Mod_run_37 : decode b_Mod_run 37 = .ok (.iload_n 1, 1) := by decide +kernel
theorem d_Mod_run_38 : decode b_Mod_run 38 = .ok (.invokevirtual 123, 3) := by decide +kernel
theorem d_Mod_run_41 : decode b_Mod_run 41 = .ok (.goto 4, 3) := by decide +kernel
theorem d_Mod_run_44 : decode b_Mod_run 44 = .ok (.iconst 0, 1) := by decide +kernel
theorem d_Mod_run_45 : decode b_Mod_run 45 = .ok (.iastore, 1) := by decide +kernel
theorem d_Mod_run_46 : decode b_Mod_run 46 = .ok (.aload_n 0, 1) := by decide +kernel
theorem d_Mod_run_47 : decode b_Mod_run 47 = .ok (.getfield 30, 3) := by decide +kernel
theorem d_Mod_run_50 : decode b_Mod_run 50 = .ok (.iload_n 1, 1) := by decide +kernel
theorem d_Mod_run_51 : decode b_Mod_run 51 = .ok (.aload_n 0, 1) := by decide +kernel
theorem d_Mod_run_52 : decode b_Mod_run 52 = .ok (.iload_n 1, 1) := by decide +kernel
theorem d_Mod_run_53 : decode b_Mod_run 53 = .ok (.invokevirtual 63, 3) := by decide +kernel
theorem d_Mod_run_56 : decode b_Mod_run 56 = .ok (.ifCond .eq 21, 3) := by decide +kernel
theorem d_Mod_run_59 : decode b_Mod_run 59 = .ok (.aload_n 0, 1) := by decide +kernel
theorem d_Mod_run_60 : decode b_Mod_run 60 = .ok (.getfield 33, 3) := by decide +kernel
theorem d_Mod_run_63 : decode b_Mod_run 63 = .ok (.iload_n 1, 1) := by decide +kernel
theorem d_Mod_run_64 : decode b_Mod_run 64 = .ok (.iaload, 1) := by decide +kernel
theorem d_Mod_run_65 : decode b_Mod_run 65 = .ok (.aload_n 0, 1) := by decide +kernel
theorem d_Mod_run_66 : decode b_Mod_run 66 = .ok (.iload_n 1, 1) := by decide +kernel
theorem d_Mod_run_67 : decode b_Mod_run 67 = .ok (.invokevirtual 117, 3) := by decide +kernel
theorem d_Mod_run_70 : decode b_Mod_run 70 = .ok (.if_icmp .le 7, 3) := by decide +kernel
theorem d_Mod_run_73 : decode b_Mod_run 73 = .ok (.iload_n 1, 1) := by decide +kernel
theorem d_Mod_run_74 : decode b_Mod_run 74 = .ok (.goto 4, 3) := by decide +kernel
theorem d_Mod_run_77 : decode b_Mod_run 77 = .ok (.iconst (-1), 1) := by decide +kernel
theorem d_Mod_run_78 : decode b_Mod_run 78 = .ok (.iastore, 1) := by decide +kernel
theorem d_Mod_run_79 : decode b_Mod_run 79 = .ok (.aload_n 0, 1) := by decide +kernel
theorem d_Mod_run_80 : decode b_Mod_run 80 = .ok (.aload_n 0, 1) := by decide +kernel
theorem d_Mod_run_81 : decode b_Mod_run 81 = .ok (.getfield 30, 3) := by decide +kernel
theorem d_Mod_run_84 : decode b_Mod_run 84 = .ok (.iload_n 1, 1) := by decide +kernel
theorem d_Mod_run_85 : decode b_Mod_run 85 = .ok (.iaload, 1) := by decide +kernel
theorem d_Mod_run_86 : decode b_Mod_run 86 = .ok (.iconst (-1), 1) := by decide +kernel
theorem d_Mod_run_87 : decode b_Mod_run 87 = .ok (.if_icmp .eq 12, 3) := by decide +kernel
theorem d_Mod_run_90 : decode b_Mod_run 90 = .ok (.aload_n 0, 1) := by decide +kernel
theorem d_Mod_run_91 : decode b_Mod_run 91 = .ok (.getfield 129, 3) := by decide +kernel
theorem d_Mod_run_94 : decode b_Mod_run 94 = .ok (.iconst 1, 1) := by decide +kernel
theorem d_Mod_run_95 : decode b_Mod_run 95 = .ok (.iadd, 1) := by decide +kernel
theorem d_Mod_run_96 : decode b_Mod_run 96 = .ok (.goto 7, 3) := by decide +kernel
theorem d_Mod_run_99 : decode b_Mod_run 99 = .ok (.aload_n 0, 1) := by decide +kernel
theorem d_Mod_run_100 : decode b_Mod_run 100 = .ok (.getfield 129, 3) := by decide +kernel
theorem d_Mod_run_103 : decode b_Mod_run 103 = .ok (.putfield 129, 3) := by decide +kernel
theorem d_Mod_run_106 : decode b_Mod_run 106 = .ok (.iinc 1 1, 3) := by decide +kernel
theorem d_Mod_run_109 : decode b_Mod_run 109 = .ok (.goto (-93), 3) := by decide +kernel
theorem d_Mod_run_112 : decode b_Mod_run 112 = .ok (.iconst 1, 1) := by decide +kernel
theorem d_Mod_run_113 : decode b_Mod_run 113 = .ok (.istore_n 1, 1) := by decide +kernel
theorem d_Mod_run_114 : decode b_Mod_run 114 = .ok (.iload_n 1, 1) := by decide +kernel
theorem d_Mod_run_115 : decode b_Mod_run 115 = .ok (.ifCond .eq 60, 3) := by decide +kernel
theorem d_Mod_run_118 : decode b_Mod_run 118 = .ok (.iconst 0, 1) := by decide +kernel
theorem d_Mod_run_119 : decode b_Mod_run 119 = .ok (.istore_n 1, 1) := by decide +kernel
theorem d_Mod_run_120 : decode b_Mod_run 120 = .ok (.iconst 0, 1) := by decide +kernel
theorem d_Mod_run_121 : decode b_Mod_run 121 = .ok (.istore_n 2, 1) := by decide +kernel
theorem d_Mod_run_122 : decode b_Mod_run 122 = .ok (.iload_n 2, 1) := by decide +kernel
theorem d_Mod_run_123 : decode b_Mod_run 123 = .ok (.sipush 576, 3) := by decide +kernel
theorem d_Mod_run_126 : decode b_Mod_run 126 = .ok (.if_icmp .ge 46, 3) := by decide +kernel
theorem d_Mod_run_129 : decode b_Mod_run 129 = .ok (.aload_n 0, 1) := by decide +kernel
theorem d_Mod_run_130 : decode b_Mod_run 130 = .ok (.getfield 30, 3) := by decide +kernel
theorem d_Mod_run_133 : decode b_Mod_run 133 = .ok (.iload_n 2, 1) := by decide +kernel
theorem d_Mod_run_134 : decode b_Mod_run 134 = .ok (.iaload, 1) := by decide +kernel
theorem d_Mod_run_135 : decode b_Mod_run 135 = .ok (.iconst (-1), 1) := by decide +kernel
theorem d_Mod_run_136 : decode b_Mod_run 136 = .ok (.if_icmp .eq 30, 3) := by decide +kernel
theorem d_Mod_run_139 : decode b_Mod_run 139 = .ok (.aload_n 0, 1) := by decide +kernel
theorem d_Mod_run_140 : decode b_Mod_run 140 = .ok (.iload_n 2, 1) := by decide +kernel
theorem d_Mod_run_141 : decode b_Mod_run 141 = .ok (.invokevirtual 132, 3) := by decide +kernel
theorem d_Mod_run_144 : decode b_Mod_run 144 = .ok (.aload_n 0, 1) := by decide +kernel
theorem d_Mod_run_145 : decode b_Mod_run 145 = .ok (.getfield 30, 3) := by decide +kernel
theorem d_Mod_run_148 : decode b_Mod_run 148 = .ok (.iload_n 2, 1) := by decide +kernel
theorem d_Mod_run_149 : decode b_Mod_run 149 = .ok (.iaload, 1) := by decide +kernel
theorem d_Mod_run_150 : decode b_Mod_run 150 = .ok (.if_icmp .ge 16, 3) := by decide +kernel
theorem d_Mod_run_153 : decode b_Mod_run 153 = .ok (.aload_n 0, 1) := by decide +kernel
theorem d_Mod_run_154 : decode b_Mod_run 154 = .ok (.getfield 30, 3) := by decide +kernel
theorem d_Mod_run_157 : decode b_Mod_run 157 = .ok (.iload_n 2, 1) := by decide +kernel
theorem d_Mod_run_158 : decode b_Mod_run 158 = .ok (.aload_n 0, 1) := by decide +kernel
theorem d_Mod_run_159 : decode b_Mod_run 159 = .ok (.iload_n 2, 1) := by decide +kernel
theorem d_Mod_run_160 : decode b_Mod_run 160 = .ok (.invokevirtual 132, 3) := by decide +kernel
theorem d_Mod_run_163 : decode b_Mod_run 163 = .ok (.iastore, 1) := by decide +kernel
theorem d_Mod_run_164 : decode b_Mod_run 164 = .ok (.iconst 1, 1) := by decide +kernel
theorem d_Mod_run_165 : decode b_Mod_run 165 = .ok (.istore_n 1, 1) := by decide +kernel
theorem d_Mod_run_166 : decode b_Mod_run 166 = .ok (.iinc 2 1, 3) := by decide +kernel
theorem d_Mod_run_169 : decode b_Mod_run 169 = .ok (.goto (-47), 3) := by decide +kernel
theorem d_Mod_run_172 : decode b_Mod_run 172 = .ok (.goto (-58), 3) := by decide +kernel
theorem d_Mod_run_175 : decode b_Mod_run 175 = .ok (.aload_n 0, 1) := by decide +kernel
theorem d_Mod_run_176 : decode b_Mod_run 176 = .ok (.iconst 0, 1) := by decide +kernel
theorem d_Mod_run_177 : decode b_Mod_run 177 = .ok (.putfield 135, 3) := by decide +kernel
theorem d_Mod_run_180 : decode b_Mod_run 180 = .ok (.iconst 0, 1) := by decide +kernel
theorem d_Mod_run_181 : decode b_Mod_run 181 = .ok (.istore_n 2, 1) := by decide +kernel
theorem d_Mod_run_182 : decode b_Mod_run 182 = .ok (.iload_n 2, 1) := by decide +kernel
theorem d_Mod_run_183 : decode b_Mod_run 183 = .ok (.sipush 576, 3) := by decide +kernel
theorem d_Mod_run_186 : decode b_Mod_run 186 = .ok (.if_icmp .ge 36, 3) := by decide +kernel
theorem d_Mod_run_189 : decode b_Mod_run 189 = .ok (.aload_n 0, 1) := by decide +kernel
theorem d_Mod_run_190 : decode b_Mod_run 190 = .ok (.aload_n 0, 1) := by decide +kernel
theorem d_Mod_run_191 : decode b_Mod_run 191 = .ok (.getfield 30, 3) := by decide +kernel
theorem d_Mod_run_194 : decode b_Mod_run 194 = .ok (.iload_n 2, 1) := by decide +kernel
theorem d_Mod_run_195 : decode b_Mod_run 195 = .ok (.iaload, 1) := by decide +kernel
theorem d_Mod_run_196 : decode b_Mod_run 196 = .ok (.iload_n 2, 1) := by decide +kernel
theorem d_Mod_run_197 : decode b_Mod_run 197 = .ok (.if_icmp .ne 12, 3) := by decide +kernel
theorem d_Mod_run_200 : decode b_Mod_run 200 = .ok (.aload_n 0, 1) := by decide +kernel
theorem d_Mod_run_201 : decode b_Mod_run 201 = .ok (.getfield 135, 3) := by decide +kernel
theorem d_Mod_run_204 : decode b_Mod_run 204 = .ok (.iconst 1, 1) := by decide +kernel
theorem d_Mod_run_205 : decode b_Mod_run 205 = .ok (.iadd, 1) := by decide +kernel
theorem d_Mod_run_206 : decode b_Mod_run 206 = .ok (.goto 7, 3) := by decide +kernel
theorem d_Mod_run_209 : decode b_Mod_run 209 = .ok (.aload_n 0, 1) := by decide +kernel
theorem d_Mod_run_210 : decode b_Mod_run 210 = .ok (.getfield 135, 3) := by decide +kernel
theorem d_Mod_run_213 : decode b_Mod_run 213 = .ok (.putfield 135, 3) := by decide +kernel
theorem d_Mod_run_216 : decode b_Mod_run 216 = .ok (.iinc 2 1, 3) := by decide +kernel
theorem d_Mod_run_219 : decode b_Mod_run 219 = .ok (.goto (-37), 3) := by decide +kernel
theorem d_Mod_run_222 : decode b_Mod_run 222 = .ok (.aload_n 0, 1) := by decide +kernel
theorem d_Mod_run_223 : decode b_Mod_run 223 = .ok (.getfield 135, 3) := by decide +kernel
theorem d_Mod_run_226 : decode b_Mod_run 226 = .ok (.ireturn, 1) := by decide +kernel
theorem d_Mod_cellOf_0 : decode b_Mod_cellOf 0 = .ok (.iconst (-1), 1) := by decide +kernel
theorem d_Mod_cellOf_1 : decode b_Mod_cellOf 1 = .ok (.istore_n 2, 1) := by decide +kernel
theorem d_Mod_cellOf_2 : decode b_Mod_cellOf 2 = .ok (.iconst (-1), 1) := by decide +kernel
theorem d_Mod_cellOf_3 : decode b_Mod_cellOf 3 = .ok (.istore_n 3, 1) := by decide +kernel
theorem d_Mod_cellOf_4 : decode b_Mod_cellOf 4 = .ok (.iload_n 2, 1) := by decide +kernel
theorem d_Mod_cellOf_5 : decode b_Mod_cellOf 5 = .ok (.iload_n 1, 1) := by decide +kernel
theorem d_Mod_cellOf_6 : decode b_Mod_cellOf 6 = .ok (.if_icmp .ge 27, 3) := by decide +kernel
theorem d_Mod_cellOf_9 : decode b_Mod_cellOf 9 = .ok (.iinc 3 1, 3) := by decide +kernel
theorem d_Mod_cellOf_12 : decode b_Mod_cellOf 12 = .ok (.aload_n 0, 1) := by decide +kernel
theorem d_Mod_cellOf_13 : decode b_Mod_cellOf 13 = .ok (.getfield 30, 3) := by decide +kernel
theorem d_Mod_cellOf_16 : decode b_Mod_cellOf 16 = .ok (.iload_n 3, 1) := by decide +kernel
theorem d_Mod_cellOf_17 : decode b_Mod_cellOf 17 = .ok (.iaload, 1) := by decide +kernel
theorem d_Mod_cellOf_18 : decode b_Mod_cellOf 18 = .ok (.iload_n 3, 1) := by decide +kernel
theorem d_Mod_cellOf_19 : decode b_Mod_cellOf 19 = .ok (.if_icmp .ne 9, 3) := by decide +kernel
theorem d_Mod_cellOf_22 : decode b_Mod_cellOf 22 = .ok (.iload_n 2, 1) := by decide +kernel
theorem d_Mod_cellOf_23 : decode b_Mod_cellOf 23 = .ok (.iconst 1, 1) := by decide +kernel
theorem d_Mod_cellOf_24 : decode b_Mod_cellOf 24 = .ok (.iadd, 1) := by decide +kernel
theorem d_Mod_cellOf_25 : decode b_Mod_cellOf 25 = .ok (.goto 4, 3) := by decide +kernel
theorem d_Mod_cellOf_28 : decode b_Mod_cellOf 28 = .ok (.iload_n 2, 1) := by decide +kernel
theorem d_Mod_cellOf_29 : decode b_Mod_cellOf 29 = .ok (.istore_n 2, 1) := by decide +kernel
theorem d_Mod_cellOf_30 : decode b_Mod_cellOf 30 = .ok (.goto (-26), 3) := by decide +kernel
theorem d_Mod_cellOf_33 : decode b_Mod_cellOf 33 = .ok (.iload_n 3, 1) := by decide +kernel
theorem d_Mod_cellOf_34 : decode b_Mod_cellOf 34 = .ok (.ireturn, 1) := by decide +kernel
theorem d_Mod_near_0 : decode b_Mod_near 0 = .ok (.iconst 0, 1) := by decide +kernel
theorem d_Mod_near_1 : decode b_Mod_near 1 = .ok (.istore_n 2, 1) := by decide +kernel
theorem d_Mod_near_2 : decode b_Mod_near 2 = .ok (.iconst 0, 1) := by decide +kernel
theorem d_Mod_near_3 : decode b_Mod_near 3 = .ok (.istore_n 3, 1) := by decide +kernel
theorem d_Mod_near_4 : decode b_Mod_near 4 = .ok (.iload_n 3, 1) := by decide +kernel
theorem d_Mod_near_5 : decode b_Mod_near 5 = .ok (.iconst 4, 1) := by decide +kernel
theorem d_Mod_near_6 : decode b_Mod_near 6 = .ok (.if_icmp .ge 42, 3) := by decide +kernel
theorem d_Mod_near_9 : decode b_Mod_near 9 = .ok (.aload_n 0, 1) := by decide +kernel
theorem d_Mod_near_10 : decode b_Mod_near 10 = .ok (.iload_n 1, 1) := by decide +kernel
theorem d_Mod_near_11 : decode b_Mod_near 11 = .ok (.iload_n 3, 1) := by decide +kernel
theorem d_Mod_near_12 : decode b_Mod_near 12 = .ok (.invokevirtual 126, 3) := by decide +kernel
theorem d_Mod_near_15 : decode b_Mod_near 15 = .ok (.istore 4, 2) := by decide +kernel
theorem d_Mod_near_17 : decode b_Mod_near 17 = .ok (.iload 4, 2) := by decide +kernel
theorem d_Mod_near_19 : decode b_Mod_near 19 = .ok (.iconst (-1), 1) := by decide +kernel
theorem d_Mod_near_20 : decode b_Mod_near 20 = .ok (.if_icmp .eq 20, 3) := by decide +kernel
theorem d_Mod_near_23 : decode b_Mod_near 23 = .ok (.aload_n 0, 1) := by decide +kernel
theorem d_Mod_near_24 : decode b_Mod_near 24 = .ok (.getfield 30, 3) := by decide +kernel
theorem d_Mod_near_27 : decode b_Mod_near 27 = .ok (.iload 4, 2) := by decide +kernel
theorem d_Mod_near_29 : decode b_Mod_near 29 = .ok (.iaload, 1) := by decide +kernel
theorem d_Mod_near_30 : decode b_Mod_near 30 = .ok (.iconst (-1), 1) := by decide +kernel
theorem d_Mod_near_31 : decode b_Mod_near 31 = .ok (.if_icmp .eq 9, 3) := by decide +kernel
theorem d_Mod_near_34 : decode b_Mod_near 34 = .ok (.iload_n 2, 1) := by decide +kernel
theorem d_Mod_near_35 : decode b_Mod_near 35 = .ok (.iconst 1, 1) := by decide +kernel
theorem d_Mod_near_36 : decode b_Mod_near 36 = .ok (.iadd, 1) := by decide +kernel
theorem d_Mod_near_37 : decode b_Mod_near 37 = .ok (.goto 4, 3) := by decide +kernel
theorem d_Mod_near_40 : decode b_Mod_near 40 = .ok (.iload_n 2, 1) := by decide +kernel
theorem d_Mod_near_41 : decode b_Mod_near 41 = .ok (.istore_n 2, 1) := by decide +kernel
theorem d_Mod_near_42 : decode b_Mod_near 42 = .ok (.iinc 3 1, 3) := by decide +kernel
theorem d_Mod_near_45 : decode b_Mod_near 45 = .ok (.goto (-41), 3) := by decide +kernel
theorem d_Mod_near_48 : decode b_Mod_near 48 = .ok (.iload_n 2, 1) := by decide +kernel
theorem d_Mod_near_49 : decode b_Mod_near 49 = .ok (.ireturn, 1) := by decide +kernel
theorem d_Mod_numbers_0 : decode b_Mod_numbers 0 = .ok (.aload_n 0, 1) := by decide +kernel
theorem d_Mod_numbers_1 : decode b_Mod_numbers 1 = .ok (.iload_n 1, 1) := by decide +kernel
theorem d_Mod_numbers_2 : decode b_Mod_numbers 2 = .ok (.invokevirtual 138, 3) := by decide +kernel
theorem d_Mod_numbers_5 : decode b_Mod_numbers 5 = .ok (.istore_n 3, 1) := by decide +kernel
theorem d_Mod_numbers_6 : decode b_Mod_numbers 6 = .ok (.iconst 0, 1) := by decide +kernel
theorem d_Mod_numbers_7 : decode b_Mod_numbers 7 = .ok (.istore 4, 2) := by decide +kernel
theorem d_Mod_numbers_9 : decode b_Mod_numbers 9 = .ok (.iconst 0, 1) := by decide +kernel
theorem d_Mod_numbers_10 : decode b_Mod_numbers 10 = .ok (.istore 5, 2) := by decide +kernel
theorem d_Mod_numbers_12 : decode b_Mod_numbers 12 = .ok (.bipush 99, 2) := by decide +kernel
theorem d_Mod_numbers_14 : decode b_Mod_numbers 14 = .ok (.istore 6, 2) := by decide +kernel
theorem d_Mod_numbers_16 : decode b_Mod_numbers 16 = .ok (.bipush 99, 2) := by decide +kernel
theorem d_Mod_numbers_18 : decode b_Mod_numbers 18 = .ok (.istore 7, 2) := by decide +kernel
theorem d_Mod_numbers_20 : decode b_Mod_numbers 20 = .ok (.iconst (-1), 1) := by decide +kernel
theorem d_Mod_numbers_21 : decode b_Mod_numbers 21 = .ok (.istore 8, 2) := by decide +kernel
theorem d_Mod_numbers_23 : decode b_Mod_numbers 23 = .ok (.iconst (-1), 1) := by decide +kernel
theorem d_Mod_numbers_24 : decode b_Mod_numbers 24 = .ok (.istore 9, 2) := by decide +kernel
theorem d_Mod_numbers_26 : decode b_Mod_numbers 26 = .ok (.iconst 0, 1) := by decide +kernel
theorem d_Mod_numbers_27 : decode b_Mod_numbers 27 = .ok (.istore 10, 2) := by decide +kernel
theorem d_Mod_numbers_29 : decode b_Mod_numbers 29 = .ok (.iconst 1, 1) := by decide +kernel
theorem d_Mod_numbers_30 : decode b_Mod_numbers 30 = .ok (.istore 11, 2) := by decide +kernel
theorem d_Mod_numbers_32 : decode b_Mod_numbers 32 = .ok (.iconst 0, 1) := by decide +kernel
theorem d_Mod_numbers_33 : decode b_Mod_numbers 33 = .ok (.istore 12, 2) := by decide +kernel
theorem d_Mod_numbers_35 : decode b_Mod_numbers 35 = .ok (.iload 12, 2) := by decide +kernel
theorem d_Mod_numbers_37 : decode b_Mod_numbers 37 = .ok (.sipush 576, 3) := by decide +kernel
theorem d_Mod_numbers_40 : decode b_Mod_numbers 40 = .ok (.if_icmp .ge 166, 3) := by decide +kernel
theorem d_Mod_numbers_43 : decode b_Mod_numbers 43 = .ok (.aload_n 0, 1) := by decide +kernel
theorem d_Mod_numbers_44 : decode b_Mod_numbers 44 = .ok (.getfield 30, 3) := by decide +kernel
theorem d_Mod_numbers_47 : decode b_Mod_numbers 47 = .ok (.iload 12, 2) := by decide +kernel
theorem d_Mod_numbers_49 : decode b_Mod_numbers 49 = .ok (.iaload, 1) := by decide +kernel
theorem d_Mod_numbers_50 : decode b_Mod_numbers 50 = .ok (.iload_n 3, 1) := by decide +kernel
theorem d_Mod_numbers_51 : decode b_Mod_numbers 51 = .ok (.if_icmp .ne 149, 3) := by decide +kernel
theorem d_Mod_numbers_54 : decode b_Mod_numbers 54 = .ok (.iinc 4 1, 3) := by decide +kernel
theorem d_Mod_numbers_57 : decode b_Mod_numbers 57 = .ok (.iload 5, 2) := by decide +kernel
theorem d_Mod_numbers_59 : decode b_Mod_numbers 59 = .ok (.aload_n 0, 1) := by decide +kernel
theorem d_Mod_numbers_60 : decode b_Mod_numbers 60 = .ok (.getfield 33, 3) := by decide +kernel
theorem d_Mod_numbers_63 : decode b_Mod_numbers 63 = .ok (.iload 12, 2) := by decide +kernel
theorem d_Mod_numbers_65 : decode b_Mod_numbers 65 = .ok (.iaload, 1) := by decide +kernel
theorem d_Mod_numbers_66 : decode b_Mod_numbers 66 = .ok (.iadd, 1) := by decide +kernel
theorem d_Mod_numbers_67 : decode b_Mod_numbers 67 = .ok (.istore 5, 2) := by decide +kernel
theorem d_Mod_numbers_69 : decode b_Mod_numbers 69 = .ok (.iload 12, 2) := by decide +kernel
theorem d_Mod_numbers_71 : decode b_Mod_numbers 71 = .ok (.bipush 24, 2) := by decide +kernel
theorem d_Mod_numbers_73 : decode b_Mod_numbers 73 = .ok (.irem, 1) := by decide +kernel
theorem d_Mod_numbers_74 : decode b_Mod_numbers 74 = .ok (.iload 6, 2) := by decide +kernel
theorem d_Mod_numbers_76 : decode b_Mod_numbers 76 = .ok (.if_icmp .ge 11, 3) := by decide +kernel
theorem d_Mod_numbers_79 : decode b_Mod_numbers 79 = .ok (.iload 12, 2) := by decide +kernel
theorem d_Mod_numbers_81 : decode b_Mod_numbers 81 = .ok (.bipush 24, 2) := by decide +kernel
theorem d_Mod_numbers_83 : decode b_Mod_numbers 83 = .ok (.irem, 1) := by decide +kernel
theorem d_Mod_numbers_84 : decode b_Mod_numbers 84 = .ok (.goto 5, 3) := by decide +kernel
theorem d_Mod_numbers_87 : decode b_Mod_numbers 87 = .ok (.iload 6, 2) := by decide +kernel
theorem d_Mod_numbers_89 : decode b_Mod_numbers 89 = .ok (.istore 6, 2) := by decide +kernel
theorem d_Mod_numbers_91 : decode b_Mod_numbers 91 = .ok (.iload 12, 2) := by decide +kernel
theorem d_Mod_numbers_93 : decode b_Mod_numbers 93 = .ok (.bipush 24, 2) := by decide +kernel
theorem d_Mod_numbers_95 : decode b_Mod_numbers 95 = .ok (.idiv, 1) := by decide +kernel
theorem d_Mod_numbers_96 : decode b_Mod_numbers 96 = .ok (.iload 7, 2) := by decide +kernel
theorem d_Mod_numbers_98 : decode b_Mod_numbers 98 = .ok (.if_icmp .ge 11, 3) := by decide +kernel
theorem d_Mod_numbers_101 : decode b_Mod_numbers 101 = .ok (.iload 12, 2) := by decide +kernel
theorem d_Mod_numbers_103 : decode b_Mod_numbers 103 = .ok (.bipush 24, 2) := by decide +kernel
theorem d_Mod_numbers_105 : decode b_Mod_numbers 105 = .ok (.idiv, 1) := by decide +kernel
theorem d_Mod_numbers_106 : decode b_Mod_numbers 106 = .ok (.goto 5, 3) := by decide +kernel
theorem d_Mod_numbers_109 : decode b_Mod_numbers 109 = .ok (.iload 7, 2) := by decide +kernel
theorem d_Mod_numbers_111 : decode b_Mod_numbers 111 = .ok (.istore 7, 2) := by decide +kernel
theorem d_Mod_numbers_113 : decode b_Mod_numbers 113 = .ok (.iload 12, 2) := by decide +kernel
theorem d_Mod_numbers_115 : decode b_Mod_numbers 115 = .ok (.bipush 24, 2) := by decide +kernel
theorem d_Mod_numbers_117 : decode b_Mod_numbers 117 = .ok (.irem, 1) := by decide +kernel
theorem d_Mod_numbers_118 : decode b_Mod_numbers 118 = .ok (.iload 8, 2) := by decide +kernel
theorem d_Mod_numbers_120 : decode b_Mod_numbers 120 = .ok (.if_icmp .le 11, 3) := by decide +kernel
theorem d_Mod_numbers_123 : decode b_Mod_numbers 123 = .ok (.iload 12, 2) := by decide +kernel
theorem d_Mod_numbers_125 : decode b_Mod_numbers 125 = .ok (.bipush 24, 2) := by decide +kernel
theorem d_Mod_numbers_127 : decode b_Mod_numbers 127 = .ok (.irem, 1) := by decide +kernel
theorem d_Mod_numbers_128 : decode b_Mod_numbers 128 = .ok (.goto 5, 3) := by decide +kernel
theorem d_Mod_numbers_131 : decode b_Mod_numbers 131 = .ok (.iload 8, 2) := by decide +kernel
theorem d_Mod_numbers_133 : decode b_Mod_numbers 133 = .ok (.istore 8, 2) := by decide +kernel
theorem d_Mod_numbers_135 : decode b_Mod_numbers 135 = .ok (.iload 12, 2) := by decide +kernel
theorem d_Mod_numbers_137 : decode b_Mod_numbers 137 = .ok (.bipush 24, 2) := by decide +kernel
theorem d_Mod_numbers_139 : decode b_Mod_numbers 139 = .ok (.idiv, 1) := by decide +kernel
theorem d_Mod_numbers_140 : decode b_Mod_numbers 140 = .ok (.iload 9, 2) := by decide +kernel
theorem d_Mod_numbers_142 : decode b_Mod_numbers 142 = .ok (.if_icmp .le 11, 3) := by decide +kernel
theorem d_Mod_numbers_145 : decode b_Mod_numbers 145 = .ok (.iload 12, 2) := by decide +kernel
theorem d_Mod_numbers_147 : decode b_Mod_numbers 147 = .ok (.bipush 24, 2) := by decide +kernel
theorem d_Mod_numbers_149 : decode b_Mod_numbers 149 = .ok (.idiv, 1) := by decide +kernel
theorem d_Mod_numbers_150 : decode b_Mod_numbers 150 = .ok (.goto 5, 3) := by decide +kernel
theorem d_Mod_numbers_153 : decode b_Mod_numbers 153 = .ok (.iload 9, 2) := by decide +kernel
theorem d_Mod_numbers_155 : decode b_Mod_numbers 155 = .ok (.istore 9, 2) := by decide +kernel
theorem d_Mod_numbers_157 : decode b_Mod_numbers 157 = .ok (.iload 11, 2) := by decide +kernel
theorem d_Mod_numbers_159 : decode b_Mod_numbers 159 = .ok (.ifCond .eq 17, 3) := by decide +kernel
theorem d_Mod_numbers_162 : decode b_Mod_numbers 162 = .ok (.aload_n 0, 1) := by decide +kernel
theorem d_Mod_numbers_163 : decode b_Mod_numbers 163 = .ok (.iload 12, 2) := by decide +kernel
theorem d_Mod_numbers_165 : decode b_Mod_numbers 165 = .ok (.invokevirtual 141, 3) := by decide +kernel
theorem d_Mod_numbers_168 : decode b_Mod_numbers 168 = .ok (.iconst 2, 1) := by decide +kernel
theorem d_Mod_numbers_169 : decode b_Mod_numbers 169 = .ok (.if_icmp .gt 7, 3) := by decide +kernel
theorem d_Mod_numbers_172 : decode b_Mod_numbers 172 = .ok (.iconst 1, 1) := by decide +kernel
theorem d_Mod_numbers_173 : decode b_Mod_numbers 173 = .ok (.goto 4, 3) := by decide +kernel
theorem d_Mod_numbers_176 : decode b_Mod_numbers 176 = .ok (.iconst 0, 1) := by decide +kernel
theorem d_Mod_numbers_177 : decode b_Mod_numbers 177 = .ok (.istore 11, 2) := by decide +kernel
theorem d_Mod_numbers_179 : decode b_Mod_numbers 179 = .ok (.aload_n 0, 1) := by decide +kernel
theorem d_Mod_numbers_180 : decode b_Mod_numbers 180 = .ok (.iload 12, 2) := by decide +kernel
theorem d_Mod_numbers_182 : decode b_Mod_numbers 182 = .ok (.invokevirtual 141, 3) := by decide +kernel
theorem d_Mod_numbers_185 : decode b_Mod_numbers 185 = .ok (.iconst 1, 1) := by decide +kernel
theorem d_Mod_numbers_186 : decode b_Mod_numbers 186 = .ok (.if_icmp .ne 10, 3) := by decide +kernel
theorem d_Mod_numbers_189 : decode b_Mod_numbers 189 = .ok (.iload 10, 2) := by decide +kernel
theorem d_Mod_numbers_191 : decode b_Mod_numbers 191 = .ok (.iconst 1, 1) := by decide +kernel
theorem d_Mod_numbers_192 : decode b_Mod_numbers 192 = .ok (.iadd, 1) := by decide +kernel
theorem d_Mod_numbers_193 : decode b_Mod_numbers 193 = .ok (.goto 5, 3) := by decide +kernel
theorem d_Mod_numbers_196 : decode b_Mod_numbers 196 = .ok (.iload 10, 2) := by decide +kernel
theorem d_Mod_numbers_198 : decode b_Mod_numbers 198 = .ok (.istore 10, 2) := by decide +kernel
theorem d_Mod_numbers_200 : decode b_Mod_numbers 200 = .ok (.iinc 12 1, 3) := by decide +kernel
theorem d_Mod_numbers_203 : decode b_Mod_numbers 203 = .ok (.goto (-168), 3) := by decide +kernel
theorem d_Mod_numbers_206 : decode b_Mod_numbers 206 = .ok (.iload_n 2, 1) := by decide +kernel
theorem d_Mod_numbers_207 : decode b_Mod_numbers 207 = .ok (.tableswitch 55 0 5 #[37, 40, 43, 46, 49, 52], 37) := by decide +kernel
theorem d_Mod_numbers_244 : decode b_Mod_numbers 244 = .ok (.iload 4, 2) := by decide +kernel
theorem d_Mod_numbers_246 : decode b_Mod_numbers 246 = .ok (.ireturn, 1) := by decide +kernel
theorem d_Mod_numbers_247 : decode b_Mod_numbers 247 = .ok (.iload 5, 2) := by decide +kernel
theorem d_Mod_numbers_249 : decode b_Mod_numbers 249 = .ok (.ireturn, 1) := by decide +kernel
theorem d_Mod_numbers_250 : decode b_Mod_numbers 250 = .ok (.iload 6, 2) := by decide +kernel
theorem d_Mod_numbers_252 : decode b_Mod_numbers 252 = .ok (.ireturn, 1) := by decide +kernel
theorem d_Mod_numbers_253 : decode b_Mod_numbers 253 = .ok (.iload 7, 2) := by decide +kernel
theorem d_Mod_numbers_255 : decode b_Mod_numbers 255 = .ok (.ireturn, 1) := by decide +kernel
theorem d_Mod_numbers_256 : decode b_Mod_numbers 256 = .ok (.iload 8, 2) := by decide +kernel
theorem d_Mod_numbers_258 : decode b_Mod_numbers 258 = .ok (.ireturn, 1) := by decide +kernel
theorem d_Mod_numbers_259 : decode b_Mod_numbers 259 = .ok (.iload 9, 2) := by decide +kernel
theorem d_Mod_numbers_261 : decode b_Mod_numbers 261 = .ok (.ireturn, 1) := by decide +kernel
theorem d_Mod_numbers_262 : decode b_Mod_numbers 262 = .ok (.iload 4, 2) := by decide +kernel
theorem d_Mod_numbers_264 : decode b_Mod_numbers 264 = .ok (.iconst 2, 1) := by decide +kernel
theorem d_Mod_numbers_265 : decode b_Mod_numbers 265 = .ok (.if_icmp .le 21, 3) := by decide +kernel
theorem d_Mod_numbers_268 : decode b_Mod_numbers 268 = .ok (.iload 11, 2) := by decide +kernel
theorem d_Mod_numbers_270 : decode b_Mod_numbers 270 = .ok (.ifCond .eq 16, 3) := by decide +kernel
theorem d_Mod_numbers_273 : decode b_Mod_numbers 273 = .ok (.iload 10, 2) := by decide +kernel
theorem d_Mod_numbers_275 : decode b_Mod_numbers 275 = .ok (.iconst 2, 1) := by decide +kernel
theorem d_Mod_numbers_276 : decode b_Mod_numbers 276 = .ok (.if_icmp .ne 10, 3) := by decide +kernel
theorem d_Mod_numbers_279 : decode b_Mod_numbers 279 = .ok (.iload 4, 2) := by decide +kernel
theorem d_Mod_numbers_281 : decode b_Mod_numbers 281 = .ok (.iconst 1, 1) := by decide +kernel
theorem d_Mod_numbers_282 : decode b_Mod_numbers 282 = .ok (.isub, 1) := by decide +kernel
theorem d_Mod_numbers_283 : decode b_Mod_numbers 283 = .ok (.goto 4, 3) := by decide +kernel
theorem d_Mod_numbers_286 : decode b_Mod_numbers 286 = .ok (.iconst (-1), 1) := by decide +kernel
theorem d_Mod_numbers_287 : decode b_Mod_numbers 287 = .ok (.ireturn, 1) := by decide +kernel
theorem d_Mod_spot_0 : decode b_Mod_spot 0 = .ok (.aload_n 0, 1) := by decide +kernel
theorem d_Mod_spot_1 : decode b_Mod_spot 1 = .ok (.iload_n 1, 1) := by decide +kernel
theorem d_Mod_spot_2 : decode b_Mod_spot 2 = .ok (.iconst 0, 1) := by decide +kernel
theorem d_Mod_spot_3 : decode b_Mod_spot 3 = .ok (.aload_n 0, 1) := by decide +kernel
theorem d_Mod_spot_4 : decode b_Mod_spot 4 = .ok (.getfield 135, 3) := by decide +kernel
theorem d_Mod_spot_7 : decode b_Mod_spot 7 = .ok (.iconst 1, 1) := by decide +kernel
theorem d_Mod_spot_8 : decode b_Mod_spot 8 = .ok (.isub, 1) := by decide +kernel
theorem d_Mod_spot_9 : decode b_Mod_spot 9 = .ok (.invokestatic 51, 3) := by decide +kernel
theorem d_Mod_spot_12 : decode b_Mod_spot 12 = .ok (.ifCond .eq 17, 3) := by decide +kernel
theorem d_Mod_spot_15 : decode b_Mod_spot 15 = .ok (.iload_n 2, 1) := by decide +kernel
theorem d_Mod_spot_16 : decode b_Mod_spot 16 = .ok (.iconst 0, 1) := by decide +kernel
theorem d_Mod_spot_17 : decode b_Mod_spot 17 = .ok (.bipush 6, 2) := by decide +kernel
theorem d_Mod_spot_19 : decode b_Mod_spot 19 = .ok (.invokestatic 51, 3) := by decide +kernel
theorem d_Mod_spot_22 : decode b_Mod_spot 22 = .ok (.ifCond .eq 7, 3) := by decide +kernel
theorem d_Mod_spot_25 : decode b_Mod_spot 25 = .ok (.iconst 1, 1) := by decide +kernel
theorem d_Mod_spot_26 : decode b_Mod_spot 26 = .ok (.goto 4, 3) := by decide +kernel
theorem d_Mod_spot_29 : decode b_Mod_spot 29 = .ok (.iconst 0, 1) := by decide +kernel
theorem d_Mod_spot_30 : decode b_Mod_spot 30 = .ok (.iconst 1, 1) := by decide +kernel
theorem d_Mod_spot_31 : decode b_Mod_spot 31 = .ok (.iconst 1, 1) := by decide +kernel
theorem d_Mod_spot_32 : decode b_Mod_spot 32 = .ok (.invokevirtual 59, 3) := by decide +kernel
theorem d_Mod_spot_35 : decode b_Mod_spot 35 = .ok (.ifCond .eq 12, 3) := by decide +kernel
theorem d_Mod_spot_38 : decode b_Mod_spot 38 = .ok (.aload_n 0, 1) := by decide +kernel
theorem d_Mod_spot_39 : decode b_Mod_spot 39 = .ok (.iload_n 1, 1) := by decide +kernel
theorem d_Mod_spot_40 : decode b_Mod_spot 40 = .ok (.iload_n 2, 1) := by decide +kernel
theorem d_Mod_spot_41 : decode b_Mod_spot 41 = .ok (.invokevirtual 144, 3) := by decide +kernel
theorem d_Mod_spot_44 : decode b_Mod_spot 44 = .ok (.goto 4, 3) := by decide +kernel
theorem d_Mod_spot_47 : decode b_Mod_spot 47 = .ok (.iconst 0, 1) := by decide +kernel
theorem d_Mod_spot_48 : decode b_Mod_spot 48 = .ok (.ireturn, 1) := by decide +kernel
theorem d_Mod_map_0 : decode b_Mod_map 0 = .ok (.aload_n 0, 1) := by decide +kernel
theorem d_Mod_map_1 : decode b_Mod_map 1 = .ok (.aload_n 0, 1) := by decide +kernel
theorem d_Mod_map_2 : decode b_Mod_map 2 = .ok (.iload_n 1, 1) := by decide +kernel
theorem d_Mod_map_3 : decode b_Mod_map 3 = .ok (.iload_n 2, 1) := by decide +kernel
theorem d_Mod_map_4 : decode b_Mod_map 4 = .ok (.invokevirtual 55, 3) := by decide +kernel
theorem d_Mod_map_7 : decode b_Mod_map 7 = .ok (.iconst 1, 1) := by decide +kernel
theorem d_Mod_map_8 : decode b_Mod_map 8 = .ok (.iconst 1, 1) := by decide +kernel
theorem d_Mod_map_9 : decode b_Mod_map 9 = .ok (.invokevirtual 59, 3) := by decide +kernel
theorem d_Mod_map_12 : decode b_Mod_map 12 = .ok (.ifCond .ne 5, 3) := by decide +kernel
theorem d_Mod_map_15 : decode b_Mod_map 15 = .ok (.iconst 0, 1) := by decide +kernel
theorem d_Mod_map_16 : decode b_Mod_map 16 = .ok (.ireturn, 1) := by decide +kernel
theorem d_Mod_map_17 : decode b_Mod_map 17 = .ok (.aload_n 0, 1) := by decide +kernel
theorem d_Mod_map_18 : decode b_Mod_map 18 = .ok (.getfield 30, 3) := by decide +kernel
theorem d_Mod_map_21 : decode b_Mod_map 21 = .ok (.bipush 24, 2) := by decide +kernel
theorem d_Mod_map_23 : decode b_Mod_map 23 = .ok (.iload_n 2, 1) := by decide +kernel
theorem d_Mod_map_24 : decode b_Mod_map 24 = .ok (.imul, 1) := by decide +kernel
theorem d_Mod_map_25 : decode b_Mod_map 25 = .ok (.iload_n 1, 1) := by decide +kernel
theorem d_Mod_map_26 : decode b_Mod_map 26 = .ok (.iadd, 1) := by decide +kernel
theorem d_Mod_map_27 : decode b_Mod_map 27 = .ok (.iaload, 1) := by decide +kernel
theorem d_Mod_map_28 : decode b_Mod_map 28 = .ok (.istore_n 3, 1) := by decide +kernel
theorem d_Mod_map_29 : decode b_Mod_map 29 = .ok (.iconst (-1), 1) := by decide +kernel
theorem d_Mod_map_30 : decode b_Mod_map 30 = .ok (.istore 4, 2) := by decide +kernel
theorem d_Mod_map_32 : decode b_Mod_map 32 = .ok (.iconst 0, 1) := by decide +kernel
theorem d_Mod_map_33 : decode b_Mod_map 33 = .ok (.istore 5, 2) := by decide +kernel
theorem d_Mod_map_35 : decode b_Mod_map 35 = .ok (.iload 5, 2) := by decide +kernel
theorem d_Mod_map_37 : decode b_Mod_map 37 = .ok (.iload_n 3, 1) := by decide +kernel
theorem d_Mod_map_38 : decode b_Mod_map 38 = .ok (.if_icmp .gt 32, 3) := by decide +kernel
theorem d_Mod_map_41 : decode b_Mod_map 41 = .ok (.aload_n 0, 1) := by decide +kernel
theorem d_Mod_map_42 : decode b_Mod_map 42 = .ok (.getfield 30, 3) := by decide +kernel
theorem d_Mod_map_45 : decode b_Mod_map 45 = .ok (.iload 5, 2) := by decide +kernel
theorem d_Mod_map_47 : decode b_Mod_map 47 = .ok (.iaload, 1) := by decide +kernel
theorem d_Mod_map_48 : decode b_Mod_map 48 = .ok (.iload 5, 2) := by decide +kernel
theorem d_Mod_map_50 : decode b_Mod_map 50 = .ok (.if_icmp .ne 10, 3) := by decide +kernel
theorem d_Mod_map_53 : decode b_Mod_map 53 = .ok (.iload 4, 2) := by decide +kernel
theorem d_Mod_map_55 : decode b_Mod_map 55 = .ok (.iconst 1, 1) := by decide +kernel
theorem d_Mod_map_56 : decode b_Mod_map 56 = .ok (.iadd, 1) := by decide +kernel
theorem d_Mod_map_57 : decode b_Mod_map 57 = .ok (.goto 5, 3) := by decide +kernel
theorem d_Mod_map_60 : decode b_Mod_map 60 = .ok (.iload 4, 2) := by decide +kernel
theorem d_Mod_map_62 : decode b_Mod_map 62 = .ok (.istore 4, 2) := by decide +kernel
theorem d_Mod_map_64 : decode b_Mod_map 64 = .ok (.iinc 5 1, 3) := by decide +kernel
theorem d_Mod_map_67 : decode b_Mod_map 67 = .ok (.goto (-32), 3) := by decide +kernel
theorem d_Mod_map_70 : decode b_Mod_map 70 = .ok (.iload 4, 2) := by decide +kernel
theorem d_Mod_map_72 : decode b_Mod_map 72 = .ok (.ireturn, 1) := by decide +kernel
theorem d_Mod_alarm_0 : decode b_Mod_alarm 0 = .ok (.aload_n 0, 1) := by decide +kernel
theorem d_Mod_alarm_1 : decode b_Mod_alarm 1 = .ok (.iload_n 1, 1) := by decide +kernel
theorem d_Mod_alarm_2 : decode b_Mod_alarm 2 = .ok (.iconst (-1), 1) := by decide +kernel
theorem d_Mod_alarm_3 : decode b_Mod_alarm 3 = .ok (.aload_n 0, 1) := by decide +kernel
theorem d_Mod_alarm_4 : decode b_Mod_alarm 4 = .ok (.getfield 135, 3) := by decide +kernel
theorem d_Mod_alarm_7 : decode b_Mod_alarm 7 = .ok (.iconst 1, 1) := by decide +kernel
theorem d_Mod_alarm_8 : decode b_Mod_alarm 8 = .ok (.isub, 1) := by decide +kernel
theorem d_Mod_alarm_9 : decode b_Mod_alarm 9 = .ok (.invokestatic 51, 3) := by decide +kernel
theorem d_Mod_alarm_12 : decode b_Mod_alarm 12 = .ok (.iconst 1, 1) := by decide +kernel
theorem d_Mod_alarm_13 : decode b_Mod_alarm 13 = .ok (.iconst 1, 1) := by decide +kernel
theorem d_Mod_alarm_14 : decode b_Mod_alarm 14 = .ok (.invokevirtual 59, 3) := by decide +kernel
theorem d_Mod_alarm_17 : decode b_Mod_alarm 17 = .ok (.ifCond .ne 5, 3) := by decide +kernel
theorem d_Mod_alarm_20 : decode b_Mod_alarm 20 = .ok (.iconst 0, 1) := by decide +kernel
theorem d_Mod_alarm_21 : decode b_Mod_alarm 21 = .ok (.ireturn, 1) := by decide +kernel
theorem d_Mod_alarm_22 : decode b_Mod_alarm 22 = .ok (.iload_n 1, 1) := by decide +kernel
theorem d_Mod_alarm_23 : decode b_Mod_alarm 23 = .ok (.iconst 1, 1) := by decide +kernel
theorem d_Mod_alarm_24 : decode b_Mod_alarm 24 = .ok (.iadd, 1) := by decide +kernel
theorem d_Mod_alarm_25 : decode b_Mod_alarm 25 = .ok (.istore 4, 2) := by decide +kernel
theorem d_Mod_alarm_27 : decode b_Mod_alarm 27 = .ok (.iload 4, 2) := by decide +kernel
theorem d_Mod_alarm_29 : decode b_Mod_alarm 29 = .ok (.aload_n 0, 1) := by decide +kernel
theorem d_Mod_alarm_30 : decode b_Mod_alarm 30 = .ok (.getfield 135, 3) := by decide +kernel
theorem d_Mod_alarm_33 : decode b_Mod_alarm 33 = .ok (.if_icmp .ge 45, 3) := by decide +kernel
theorem d_Mod_alarm_36 : decode b_Mod_alarm 36 = .ok (.aload_n 0, 1) := by decide +kernel
theorem d_Mod_alarm_37 : decode b_Mod_alarm 37 = .ok (.iload 4, 2) := by decide +kernel
theorem d_Mod_alarm_39 : decode b_Mod_alarm 39 = .ok (.bipush 6, 2) := by decide +kernel
theorem d_Mod_alarm_41 : decode b_Mod_alarm 41 = .ok (.invokevirtual 144, 3) := by decide +kernel
theorem d_Mod_alarm_44 : decode b_Mod_alarm 44 = .ok (.istore 5, 2) := by decide +kernel
theorem d_Mod_alarm_46 : decode b_Mod_alarm 46 = .ok (.aload_n 0, 1) := by decide +kernel
theorem d_Mod_alarm_47 : decode b_Mod_alarm 47 = .ok (.iload 4, 2) := by decide +kernel
theorem d_Mod_alarm_49 : decode b_Mod_alarm 49 = .ok (.iconst 1, 1) := by decide +kernel
theorem d_Mod_alarm_50 : decode b_Mod_alarm 50 = .ok (.invokevirtual 144, 3) := by decide +kernel
theorem d_Mod_alarm_53 : decode b_Mod_alarm 53 = .ok (.iload_n 2, 1) := by decide +kernel
theorem d_Mod_alarm_54 : decode b_Mod_alarm 54 = .ok (.if_icmp .gt 15, 3) := by decide +kernel
theorem d_Mod_alarm_57 : decode b_Mod_alarm 57 = .ok (.iload 5, 2) := by decide +kernel
theorem d_Mod_alarm_59 : decode b_Mod_alarm 59 = .ok (.iconst (-1), 1) := by decide +kernel
theorem d_Mod_alarm_60 : decode b_Mod_alarm 60 = .ok (.if_icmp .eq 12, 3) := by decide +kernel
theorem d_Mod_alarm_63 : decode b_Mod_alarm 63 = .ok (.iload 5, 2) := by decide +kernel
theorem d_Mod_alarm_65 : decode b_Mod_alarm 65 = .ok (.iload_n 3, 1) := by decide +kernel
theorem d_Mod_alarm_66 : decode b_Mod_alarm 66 = .ok (.if_icmp .lt 6, 3) := by decide +kernel
theorem d_Mod_alarm_69 : decode b_Mod_alarm 69 = .ok (.iload 4, 2) := by decide +kernel
theorem d_Mod_alarm_71 : decode b_Mod_alarm 71 = .ok (.ireturn, 1) := by decide +kernel
theorem d_Mod_alarm_72 : decode b_Mod_alarm 72 = .ok (.iinc 4 1, 3) := by decide +kernel
theorem d_Mod_alarm_75 : decode b_Mod_alarm 75 = .ok (.goto (-48), 3) := by decide +kernel
theorem d_Mod_alarm_78 : decode b_Mod_alarm 78 = .ok (.iconst (-1), 1) := by decide +kernel
theorem d_Mod_alarm_79 : decode b_Mod_alarm 79 = .ok (.ireturn, 1) := by decide +kernel
theorem d_Mod_falseOnes_0 : decode b_Mod_falseOnes 0 = .ok (.aload_n 0, 1) := by decide +kernel
theorem d_Mod_falseOnes_1 : decode b_Mod_falseOnes 1 = .ok (.iconst 0, 1) := by decide +kernel
theorem d_Mod_falseOnes_2 : decode b_Mod_falseOnes 2 = .ok (.putfield 48, 3) := by decide +kernel
theorem d_Mod_falseOnes_5 : decode b_Mod_falseOnes 5 = .ok (.aload_n 0, 1) := by decide +kernel
theorem d_Mod_falseOnes_6 : decode b_Mod_falseOnes 6 = .ok (.getfield 114, 3) := by decide +kernel
theorem d_Mod_falseOnes_9 : decode b_Mod_falseOnes 9 = .ok (.ireturn, 1) := by decide +kernel
theorem d_Mod_day_0 : decode b_Mod_day 0 = .ok (.aload_n 0, 1) := by decide +kernel
theorem d_Mod_day_1 : decode b_Mod_day 1 = .ok (.getfield 147, 3) := by decide +kernel
theorem d_Mod_day_4 : decode b_Mod_day 4 = .ok (.ifCond .eq 18, 3) := by decide +kernel
theorem d_Mod_day_7 : decode b_Mod_day 7 = .ok (.iload_n 1, 1) := by decide +kernel
theorem d_Mod_day_8 : decode b_Mod_day 8 = .ok (.aload_n 0, 1) := by decide +kernel
theorem d_Mod_day_9 : decode b_Mod_day 9 = .ok (.getfield 36, 3) := by decide +kernel
theorem d_Mod_day_12 : decode b_Mod_day 12 = .ok (.aload_n 0, 1) := by decide +kernel
theorem d_Mod_day_13 : decode b_Mod_day 13 = .ok (.getfield 147, 3) := by decide +kernel
theorem d_Mod_day_16 : decode b_Mod_day 16 = .ok (.iconst 1, 1) := by decide +kernel
theorem d_Mod_day_17 : decode b_Mod_day 17 = .ok (.isub, 1) := by decide +kernel
theorem d_Mod_day_18 : decode b_Mod_day 18 = .ok (.iaload, 1) := by decide +kernel
theorem d_Mod_day_19 : decode b_Mod_day 19 = .ok (.if_icmp .le 7, 3) := by decide +kernel
theorem d_Mod_day_22 : decode b_Mod_day 22 = .ok (.iconst 1, 1) := by decide +kernel
theorem d_Mod_day_23 : decode b_Mod_day 23 = .ok (.goto 4, 3) := by decide +kernel
theorem d_Mod_day_26 : decode b_Mod_day 26 = .ok (.iconst 0, 1) := by decide +kernel
theorem d_Mod_day_27 : decode b_Mod_day 27 = .ok (.istore_n 2, 1) := by decide +kernel
theorem d_Mod_day_28 : decode b_Mod_day 28 = .ok (.aload_n 0, 1) := by decide +kernel
theorem d_Mod_day_29 : decode b_Mod_day 29 = .ok (.iload_n 1, 1) := by decide +kernel
theorem d_Mod_day_30 : decode b_Mod_day 30 = .ok (.iconst 0, 1) := by decide +kernel
theorem d_Mod_day_31 : decode b_Mod_day 31 = .ok (.sipush 10000, 3) := by decide +kernel
theorem d_Mod_day_34 : decode b_Mod_day 34 = .ok (.invokestatic 51, 3) := by decide +kernel
theorem d_Mod_day_37 : decode b_Mod_day 37 = .ok (.ifCond .eq 11, 3) := by decide +kernel
theorem d_Mod_day_40 : decode b_Mod_day 40 = .ok (.iload_n 2, 1) := by decide +kernel
theorem d_Mod_day_41 : decode b_Mod_day 41 = .ok (.ifCond .eq 7, 3) := by decide +kernel
theorem d_Mod_day_44 : decode b_Mod_day 44 = .ok (.iconst 1, 1) := by decide +kernel
theorem d_Mod_day_45 : decode b_Mod_day 45 = .ok (.goto 4, 3) := by decide +kernel
theorem d_Mod_day_48 : decode b_Mod_day 48 = .ok (.iconst 0, 1) := by decide +kernel
theorem d_Mod_day_49 : decode b_Mod_day 49 = .ok (.aload_n 0, 1) := by decide +kernel
theorem d_Mod_day_50 : decode b_Mod_day 50 = .ok (.getfield 147, 3) := by decide +kernel
theorem d_Mod_day_53 : decode b_Mod_day 53 = .ok (.bipush 30, 2) := by decide +kernel
theorem d_Mod_day_55 : decode b_Mod_day 55 = .ok (.if_icmp .ge 7, 3) := by decide +kernel
theorem d_Mod_day_58 : decode b_Mod_day 58 = .ok (.iconst 1, 1) := by decide +kernel
theorem d_Mod_day_59 : decode b_Mod_day 59 = .ok (.goto 4, 3) := by decide +kernel
theorem d_Mod_day_62 : decode b_Mod_day 62 = .ok (.iconst 0, 1) := by decide +kernel
theorem d_Mod_day_63 : decode b_Mod_day 63 = .ok (.iconst 1, 1) := by decide +kernel
theorem d_Mod_day_64 : decode b_Mod_day 64 = .ok (.invokevirtual 59, 3) := by decide +kernel
theorem d_Mod_day_67 : decode b_Mod_day 67 = .ok (.ifCond .ne 5, 3) := by decide +kernel
theorem d_Mod_day_70 : decode b_Mod_day 70 = .ok (.iconst 0, 1) := by decide +kernel
theorem d_Mod_day_71 : decode b_Mod_day 71 = .ok (.ireturn, 1) := by decide +kernel
theorem d_Mod_day_72 : decode b_Mod_day 72 = .ok (.aload_n 0, 1) := by decide +kernel
theorem d_Mod_day_73 : decode b_Mod_day 73 = .ok (.getfield 36, 3) := by decide +kernel
theorem d_Mod_day_76 : decode b_Mod_day 76 = .ok (.aload_n 0, 1) := by decide +kernel
theorem d_Mod_day_77 : decode b_Mod_day 77 = .ok (.getfield 147, 3) := by decide +kernel
theorem d_Mod_day_80 : decode b_Mod_day 80 = .ok (.iload_n 1, 1) := by decide +kernel
theorem d_Mod_day_81 : decode b_Mod_day 81 = .ok (.iastore, 1) := by decide +kernel
theorem d_Mod_day_82 : decode b_Mod_day 82 = .ok (.aload_n 0, 1) := by decide +kernel
theorem d_Mod_day_83 : decode b_Mod_day 83 = .ok (.getfield 39, 3) := by decide +kernel
theorem d_Mod_day_86 : decode b_Mod_day 86 = .ok (.aload_n 0, 1) := by decide +kernel
theorem d_Mod_day_87 : decode b_Mod_day 87 = .ok (.getfield 147, 3) := by decide +kernel
theorem d_Mod_day_90 : decode b_Mod_day 90 = .ok (.aload_n 0, 1) := by decide +kernel
theorem d_Mod_day_91 : decode b_Mod_day 91 = .ok (.getfield 129, 3) := by decide +kernel
theorem d_Mod_day_94 : decode b_Mod_day 94 = .ok (.iastore, 1) := by decide +kernel
theorem d_Mod_day_95 : decode b_Mod_day 95 = .ok (.aload_n 0, 1) := by decide +kernel
theorem d_Mod_day_96 : decode b_Mod_day 96 = .ok (.dup, 1) := by decide +kernel
theorem d_Mod_day_97 : decode b_Mod_day 97 = .ok (.getfield 147, 3) := by decide +kernel
theorem d_Mod_day_100 : decode b_Mod_day 100 = .ok (.iconst 1, 1) := by decide +kernel
theorem d_Mod_day_101 : decode b_Mod_day 101 = .ok (.iadd, 1) := by decide +kernel
theorem d_Mod_day_102 : decode b_Mod_day 102 = .ok (.putfield 147, 3) := by decide +kernel
theorem d_Mod_day_105 : decode b_Mod_day 105 = .ok (.aload_n 0, 1) := by decide +kernel
theorem d_Mod_day_106 : decode b_Mod_day 106 = .ok (.getfield 147, 3) := by decide +kernel
theorem d_Mod_day_109 : decode b_Mod_day 109 = .ok (.ireturn, 1) := by decide +kernel
theorem d_Mod_growth_0 : decode b_Mod_growth 0 = .ok (.aload_n 0, 1) := by decide +kernel
theorem d_Mod_growth_1 : decode b_Mod_growth 1 = .ok (.iload_n 1, 1) := by decide +kernel
theorem d_Mod_growth_2 : decode b_Mod_growth 2 = .ok (.iconst 0, 1) := by decide +kernel
theorem d_Mod_growth_3 : decode b_Mod_growth 3 = .ok (.iconst 1, 1) := by decide +kernel

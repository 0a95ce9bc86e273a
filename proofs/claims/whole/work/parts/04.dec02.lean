theorem d_Spots_describe_200 : decode b_Spots_describe 200 = .ok (.goto 4, 3) := by decide +kernel
theorem d_Spots_describe_203 : decode b_Spots_describe 203 = .ok (.iconst (-1), 1) := by decide +kernel
theorem d_Spots_describe_204 : decode b_Spots_describe 204 = .ok (.iastore, 1) := by decide +kernel
theorem d_Spots_describe_205 : decode b_Spots_describe 205 = .ok (.return_, 1) := by decide +kernel
theorem d_Spots_join_0 : decode b_Spots_join 0 = .ok (.iconst 0, 1) := by decide +kernel
theorem d_Spots_join_1 : decode b_Spots_join 1 = .ok (.istore_n 1, 1) := by decide +kernel
theorem d_Spots_join_2 : decode b_Spots_join 2 = .ok (.iload_n 1, 1) := by decide +kernel
theorem d_Spots_join_3 : decode b_Spots_join 3 = .ok (.aload_n 0, 1) := by decide +kernel
theorem d_Spots_join_4 : decode b_Spots_join 4 = .ok (.getfield 15, 3) := by decide +kernel
theorem d_Spots_join_7 : decode b_Spots_join 7 = .ok (.if_icmp .ge 73, 3) := by decide +kernel
theorem d_Spots_join_10 : decode b_Spots_join 10 = .ok (.iconst 0, 1) := by decide +kernel
theorem d_Spots_join_11 : decode b_Spots_join 11 = .ok (.istore_n 2, 1) := by decide +kernel
theorem d_Spots_join_12 : decode b_Spots_join 12 = .ok (.iload_n 2, 1) := by decide +kernel
theorem d_Spots_join_13 : decode b_Spots_join 13 = .ok (.aload_n 0, 1) := by decide +kernel
theorem d_Spots_join_14 : decode b_Spots_join 14 = .ok (.getfield 9, 3) := by decide +kernel
theorem d_Spots_join_17 : decode b_Spots_join 17 = .ok (.if_icmp .ge 57, 3) := by decide +kernel
theorem d_Spots_join_20 : decode b_Spots_join 20 = .ok (.aload_n 0, 1) := by decide +kernel
theorem d_Spots_join_21 : decode b_Spots_join 21 = .ok (.iload_n 2, 1) := by decide +kernel
theorem d_Spots_join_22 : decode b_Spots_join 22 = .ok (.iload_n 1, 1) := by decide +kernel
theorem d_Spots_join_23 : decode b_Spots_join 23 = .ok (.invokevirtual 40, 3) := by decide +kernel
theorem d_Spots_join_26 : decode b_Spots_join 26 = .ok (.bipush (-2), 2) := by decide +kernel
theorem d_Spots_join_28 : decode b_Spots_join 28 = .ok (.if_icmp .ne 40, 3) := by decide +kernel
theorem d_Spots_join_31 : decode b_Spots_join 31 = .ok (.aload_n 0, 1) := by decide +kernel
theorem d_Spots_join_32 : decode b_Spots_join 32 = .ok (.getfield 34, 3) := by decide +kernel
theorem d_Spots_join_35 : decode b_Spots_join 35 = .ok (.iconst 1, 1) := by decide +kernel
theorem d_Spots_join_36 : decode b_Spots_join 36 = .ok (.iadd, 1) := by decide +kernel
theorem d_Spots_join_37 : decode b_Spots_join 37 = .ok (.bipush 7, 2) := by decide +kernel
theorem d_Spots_join_39 : decode b_Spots_join 39 = .ok (.imul, 1) := by decide +kernel
theorem d_Spots_join_40 : decode b_Spots_join 40 = .ok (.aload_n 0, 1) := by decide +kernel
theorem d_Spots_join_41 : decode b_Spots_join 41 = .ok (.getfield 31, 3) := by decide +kernel
theorem d_Spots_join_44 : decode b_Spots_join 44 = .ok (.arraylength, 1) := by decide +kernel
theorem d_Spots_join_45 : decode b_Spots_join 45 = .ok (.if_icmp .gt 23, 3) := by decide +kernel
theorem d_Spots_join_48 : decode b_Spots_join 48 = .ok (.aload_n 0, 1) := by decide +kernel
theorem d_Spots_join_49 : decode b_Spots_join 49 = .ok (.iload_n 2, 1) := by decide +kernel
theorem d_Spots_join_50 : decode b_Spots_join 50 = .ok (.iload_n 1, 1) := by decide +kernel
theorem d_Spots_join_51 : decode b_Spots_join 51 = .ok (.invokevirtual 44, 3) := by decide +kernel
theorem d_Spots_join_54 : decode b_Spots_join 54 = .ok (.aload_n 0, 1) := by decide +kernel
theorem d_Spots_join_55 : decode b_Spots_join 55 = .ok (.invokevirtual 48, 3) := by decide +kernel
theorem d_Spots_join_58 : decode b_Spots_join 58 = .ok (.aload_n 0, 1) := by decide +kernel
theorem d_Spots_join_59 : decode b_Spots_join 59 = .ok (.dup, 1) := by decide +kernel
theorem d_Spots_join_60 : decode b_Spots_join 60 = .ok (.getfield 34, 3) := by decide +kernel
theorem d_Spots_join_63 : decode b_Spots_join 63 = .ok (.iconst 1, 1) := by decide +kernel
theorem d_Spots_join_64 : decode b_Spots_join 64 = .ok (.iadd, 1) := by decide +kernel
theorem d_Spots_join_65 : decode b_Spots_join 65 = .ok (.putfield 34, 3) := by decide +kernel
theorem d_Spots_join_68 : decode b_Spots_join 68 = .ok (.iinc 2 1, 3) := by decide +kernel
theorem d_Spots_join_71 : decode b_Spots_join 71 = .ok (.goto (-59), 3) := by decide +kernel
theorem d_Spots_join_74 : decode b_Spots_join 74 = .ok (.iinc 1 1, 3) := by decide +kernel
theorem d_Spots_join_77 : decode b_Spots_join 77 = .ok (.goto (-75), 3) := by decide +kernel
theorem d_Spots_join_80 : decode b_Spots_join 80 = .ok (.return_, 1) := by decide +kernel
theorem d_Pic_run_0 : decode b_Pic_run 0 = .ok (.aload_n 0, 1) := by decide +kernel
theorem d_Pic_run_1 : decode b_Pic_run 1 = .ok (.invokevirtual 140, 3) := by decide +kernel
theorem d_Pic_run_4 : decode b_Pic_run 4 = .ok (.aload_n 0, 1) := by decide +kernel
theorem d_Pic_run_5 : decode b_Pic_run 5 = .ok (.getfield 65, 3) := by decide +kernel
theorem d_Pic_run_8 : decode b_Pic_run 8 = .ok (.invokevirtual 163, 3) := by decide +kernel
theorem d_Pic_run_11 : decode b_Pic_run 11 = .ok (.iconst 0, 1) := by decide +kernel
theorem d_Pic_run_12 : decode b_Pic_run 12 = .ok (.istore_n 1, 1) := by decide +kernel
theorem d_Pic_run_13 : decode b_Pic_run 13 = .ok (.iload_n 1, 1) := by decide +kernel
theorem d_Pic_run_14 : decode b_Pic_run 14 = .ok (.aload_n 0, 1) := by decide +kernel
theorem d_Pic_run_15 : decode b_Pic_run 15 = .ok (.getfield 17, 3) := by decide +kernel
theorem d_Pic_run_18 : decode b_Pic_run 18 = .ok (.if_icmp .ge 52, 3) := by decide +kernel
theorem d_Pic_run_21 : decode b_Pic_run 21 = .ok (.iconst 0, 1) := by decide +kernel
theorem d_Pic_run_22 : decode b_Pic_run 22 = .ok (.istore_n 2, 1) := by decide +kernel
theorem d_Pic_run_23 : decode b_Pic_run 23 = .ok (.iload_n 2, 1) := by decide +kernel
theorem d_Pic_run_24 : decode b_Pic_run 24 = .ok (.aload_n 0, 1) := by decide +kernel
theorem d_Pic_run_25 : decode b_Pic_run 25 = .ok (.getfield 13, 3) := by decide +kernel
theorem d_Pic_run_28 : decode b_Pic_run 28 = .ok (.if_icmp .ge 36, 3) := by decide +kernel
theorem d_Pic_run_31 : decode b_Pic_run 31 = .ok (.aload_n 0, 1) := by decide +kernel
theorem d_Pic_run_32 : decode b_Pic_run 32 = .ok (.iload_n 2, 1) := by decide +kernel
theorem d_Pic_run_33 : decode b_Pic_run 33 = .ok (.iload_n 1, 1) := by decide +kernel
theorem d_Pic_run_34 : decode b_Pic_run 34 = .ok (.invokevirtual 160, 3) := by decide +kernel
theorem d_Pic_run_37 : decode b_Pic_run 37 = .ok (.istore_n 3, 1) := by decide +kernel
theorem d_Pic_run_38 : decode b_Pic_run 38 = .ok (.iload_n 3, 1) := by decide +kernel
theorem d_Pic_run_39 : decode b_Pic_run 39 = .ok (.aload_n 0, 1) := by decide +kernel
theorem d_Pic_run_40 : decode b_Pic_run 40 = .ok (.iload_n 2, 1) := by decide +kernel
theorem d_Pic_run_41 : decode b_Pic_run 41 = .ok (.iload_n 1, 1) := by decide +kernel
theorem d_Pic_run_42 : decode b_Pic_run 42 = .ok (.invokevirtual 154, 3) := by decide +kernel
theorem d_Pic_run_45 : decode b_Pic_run 45 = .ok (.if_icmp .le 13, 3) := by decide +kernel
theorem d_Pic_run_48 : decode b_Pic_run 48 = .ok (.aload_n 0, 1) := by decide +kernel
theorem d_Pic_run_49 : decode b_Pic_run 49 = .ok (.getfield 65, 3) := by decide +kernel
theorem d_Pic_run_52 : decode b_Pic_run 52 = .ok (.iload_n 2, 1) := by decide +kernel
theorem d_Pic_run_53 : decode b_Pic_run 53 = .ok (.iload_n 1, 1) := by decide +kernel
theorem d_Pic_run_54 : decode b_Pic_run 54 = .ok (.iload_n 3, 1) := by decide +kernel
theorem d_Pic_run_55 : decode b_Pic_run 55 = .ok (.invokevirtual 166, 3) := by decide +kernel
theorem d_Pic_run_58 : decode b_Pic_run 58 = .ok (.iinc 2 1, 3) := by decide +kernel
theorem d_Pic_run_61 : decode b_Pic_run 61 = .ok (.goto (-38), 3) := by decide +kernel
theorem d_Pic_run_64 : decode b_Pic_run 64 = .ok (.iinc 1 1, 3) := by decide +kernel
theorem d_Pic_run_67 : decode b_Pic_run 67 = .ok (.goto (-54), 3) := by decide +kernel
theorem d_Pic_run_70 : decode b_Pic_run 70 = .ok (.aload_n 0, 1) := by decide +kernel
theorem d_Pic_run_71 : decode b_Pic_run 71 = .ok (.getfield 65, 3) := by decide +kernel
theorem d_Pic_run_74 : decode b_Pic_run 74 = .ok (.invokevirtual 169, 3) := by decide +kernel
theorem d_Pic_run_77 : decode b_Pic_run 77 = .ok (.aload_n 0, 1) := by decide +kernel
theorem d_Pic_run_78 : decode b_Pic_run 78 = .ok (.getfield 65, 3) := by decide +kernel
theorem d_Pic_run_81 : decode b_Pic_run 81 = .ok (.getfield 172, 3) := by decide +kernel
theorem d_Pic_run_84 : decode b_Pic_run 84 = .ok (.ireturn, 1) := by decide +kernel
theorem d_Spots_factOf_0 : decode b_Spots_factOf 0 = .ok (.aload_n 0, 1) := by decide +kernel
theorem d_Spots_factOf_1 : decode b_Spots_factOf 1 = .ok (.getfield 31, 3) := by decide +kernel
theorem d_Spots_factOf_4 : decode b_Spots_factOf 4 = .ok (.iload_n 1, 1) := by decide +kernel
theorem d_Spots_factOf_5 : decode b_Spots_factOf 5 = .ok (.bipush 7, 2) := by decide +kernel
theorem d_Spots_factOf_7 : decode b_Spots_factOf 7 = .ok (.imul, 1) := by decide +kernel
theorem d_Spots_factOf_8 : decode b_Spots_factOf 8 = .ok (.iload_n 2, 1) := by decide +kernel
theorem d_Spots_factOf_9 : decode b_Spots_factOf 9 = .ok (.iadd, 1) := by decide +kernel
theorem d_Spots_factOf_10 : decode b_Spots_factOf 10 = .ok (.iaload, 1) := by decide +kernel
theorem d_Spots_factOf_11 : decode b_Spots_factOf 11 = .ok (.ireturn, 1) := by decide +kernel
theorem d_Pic_spot_0 : decode b_Pic_spot 0 = .ok (.iload_n 1, 1) := by decide +kernel
theorem d_Pic_spot_1 : decode b_Pic_spot 1 = .ok (.ifCond .lt 14, 3) := by decide +kernel
theorem d_Pic_spot_4 : decode b_Pic_spot 4 = .ok (.iload_n 1, 1) := by decide +kernel
theorem d_Pic_spot_5 : decode b_Pic_spot 5 = .ok (.aload_n 0, 1) := by decide +kernel
theorem d_Pic_spot_6 : decode b_Pic_spot 6 = .ok (.getfield 65, 3) := by decide +kernel
theorem d_Pic_spot_9 : decode b_Pic_spot 9 = .ok (.getfield 172, 3) := by decide +kernel
theorem d_Pic_spot_12 : decode b_Pic_spot 12 = .ok (.if_icmp .lt 13, 3) := by decide +kernel
theorem d_Pic_spot_15 : decode b_Pic_spot 15 = .ok (.new 175, 3) := by decide +kernel
theorem d_Pic_spot_18 : decode b_Pic_spot 18 = .ok (.dup, 1) := by decide +kernel
theorem d_Pic_spot_19 : decode b_Pic_spot 19 = .ok (.ldc 177, 2) := by decide +kernel
theorem d_Pic_spot_21 : decode b_Pic_spot 21 = .ok (.invokespecial 179, 3) := by decide +kernel
theorem d_Pic_spot_24 : decode b_Pic_spot 24 = .ok (.athrow, 1) := by decide +kernel
theorem d_Pic_spot_25 : decode b_Pic_spot 25 = .ok (.iload_n 2, 1) := by decide +kernel
theorem d_Pic_spot_26 : decode b_Pic_spot 26 = .ok (.ifCond .lt 9, 3) := by decide +kernel
theorem d_Pic_spot_29 : decode b_Pic_spot 29 = .ok (.iload_n 2, 1) := by decide +kernel
theorem d_Pic_spot_30 : decode b_Pic_spot 30 = .ok (.bipush 7, 2) := by decide +kernel
theorem d_Pic_spot_32 : decode b_Pic_spot 32 = .ok (.if_icmp .lt 13, 3) := by decide +kernel
theorem d_Pic_spot_35 : decode b_Pic_spot 35 = .ok (.new 175, 3) := by decide +kernel
theorem d_Pic_spot_38 : decode b_Pic_spot 38 = .ok (.dup, 1) := by decide +kernel
theorem d_Pic_spot_39 : decode b_Pic_spot 39 = .ok (.ldc 180, 2) := by decide +kernel
theorem d_Pic_spot_41 : decode b_Pic_spot 41 = .ok (.invokespecial 179, 3) := by decide +kernel
theorem d_Pic_spot_44 : decode b_Pic_spot 44 = .ok (.athrow, 1) := by decide +kernel
theorem d_Pic_spot_45 : decode b_Pic_spot 45 = .ok (.aload_n 0, 1) := by decide +kernel
theorem d_Pic_spot_46 : decode b_Pic_spot 46 = .ok (.getfield 65, 3) := by decide +kernel
theorem d_Pic_spot_49 : decode b_Pic_spot 49 = .ok (.iload_n 1, 1) := by decide +kernel
theorem d_Pic_spot_50 : decode b_Pic_spot 50 = .ok (.iload_n 2, 1) := by decide +kernel
theorem d_Pic_spot_51 : decode b_Pic_spot 51 = .ok (.invokevirtual 182, 3) := by decide +kernel
theorem d_Pic_spot_54 : decode b_Pic_spot 54 = .ok (.ireturn, 1) := by decide +kernel
theorem d_Pic_map_0 : decode b_Pic_map 0 = .ok (.aload_n 0, 1) := by decide +kernel
theorem d_Pic_map_1 : decode b_Pic_map 1 = .ok (.iload_n 1, 1) := by decide +kernel
theorem d_Pic_map_2 : decode b_Pic_map 2 = .ok (.iload_n 2, 1) := by decide +kernel
theorem d_Pic_map_3 : decode b_Pic_map 3 = .ok (.invokevirtual 79, 3) := by decide +kernel
theorem d_Pic_map_6 : decode b_Pic_map 6 = .ok (.aload_n 0, 1) := by decide +kernel
theorem d_Pic_map_7 : decode b_Pic_map 7 = .ok (.getfield 65, 3) := by decide +kernel
theorem d_Pic_map_10 : decode b_Pic_map 10 = .ok (.iload_n 1, 1) := by decide +kernel
theorem d_Pic_map_11 : decode b_Pic_map 11 = .ok (.iload_n 2, 1) := by decide +kernel
theorem d_Pic_map_12 : decode b_Pic_map 12 = .ok (.invokevirtual 185, 3) := by decide +kernel
theorem d_Pic_map_15 : decode b_Pic_map 15 = .ok (.ireturn, 1) := by decide +kernel
theorem d_Spots_isAlarming_0 : decode b_Spots_isAlarming 0 = .ok (.aload_n 0, 1) := by decide +kernel
theorem d_Spots_isAlarming_1 : decode b_Spots_isAlarming 1 = .ok (.iload_n 1, 1) := by decide +kernel
theorem d_Spots_isAlarming_2 : decode b_Spots_isAlarming 2 = .ok (.bipush 6, 2) := by decide +kernel
theorem d_Spots_isAlarming_4 : decode b_Spots_isAlarming 4 = .ok (.invokevirtual 51, 3) := by decide +kernel
theorem d_Spots_isAlarming_7 : decode b_Spots_isAlarming 7 = .ok (.istore 4, 2) := by decide +kernel
theorem d_Spots_isAlarming_9 : decode b_Spots_isAlarming 9 = .ok (.aload_n 0, 1) := by decide +kernel
theorem d_Spots_isAlarming_10 : decode b_Spots_isAlarming 10 = .ok (.iload_n 1, 1) := by decide +kernel
theorem d_Spots_isAlarming_11 : decode b_Spots_isAlarming 11 = .ok (.iconst 1, 1) := by decide +kernel
theorem d_Spots_isAlarming_12 : decode b_Spots_isAlarming 12 = .ok (.invokevirtual 51, 3) := by decide +kernel
theorem d_Spots_isAlarming_15 : decode b_Spots_isAlarming 15 = .ok (.iload_n 2, 1) := by decide +kernel
theorem d_Spots_isAlarming_16 : decode b_Spots_isAlarming 16 = .ok (.if_icmp .gt 15, 3) := by decide +kernel
theorem d_Spots_isAlarming_19 : decode b_Spots_isAlarming 19 = .ok (.iload 4, 2) := by decide +kernel
theorem d_Spots_isAlarming_21 : decode b_Spots_isAlarming 21 = .ok (.iconst (-1), 1) := by decide +kernel
theorem d_Spots_isAlarming_22 : decode b_Spots_isAlarming 22 = .ok (.if_icmp .eq 13, 3) := by decide +kernel
theorem d_Spots_isAlarming_25 : decode b_Spots_isAlarming 25 = .ok (.iload 4, 2) := by decide +kernel
theorem d_Spots_isAlarming_27 : decode b_Spots_isAlarming 27 = .ok (.iload_n 3, 1) := by decide +kernel
theorem d_Spots_isAlarming_28 : decode b_Spots_isAlarming 28 = .ok (.if_icmp .lt 7, 3) := by decide +kernel
theorem d_Spots_isAlarming_31 : decode b_Spots_isAlarming 31 = .ok (.iconst 1, 1) := by decide +kernel
theorem d_Spots_isAlarming_32 : decode b_Spots_isAlarming 32 = .ok (.goto 4, 3) := by decide +kernel
theorem d_Spots_isAlarming_35 : decode b_Spots_isAlarming 35 = .ok (.iconst 0, 1) := by decide +kernel
theorem d_Spots_isAlarming_36 : decode b_Spots_isAlarming 36 = .ok (.ireturn, 1) := by decide +kernel
theorem d_Pic_alarm_0 : decode b_Pic_alarm 0 = .ok (.iload_n 1, 1) := by decide +kernel
theorem d_Pic_alarm_1 : decode b_Pic_alarm 1 = .ok (.iconst (-1), 1) := by decide +kernel
theorem d_Pic_alarm_2 : decode b_Pic_alarm 2 = .ok (.if_icmp .lt 14, 3) := by decide +kernel
theorem d_Pic_alarm_5 : decode b_Pic_alarm 5 = .ok (.iload_n 1, 1) := by decide +kernel
theorem d_Pic_alarm_6 : decode b_Pic_alarm 6 = .ok (.aload_n 0, 1) := by decide +kernel
theorem d_Pic_alarm_7 : decode b_Pic_alarm 7 = .ok (.getfield 65, 3) := by decide +kernel
theorem d_Pic_alarm_10 : decode b_Pic_alarm 10 = .ok (.getfield 172, 3) := by decide +kernel
theorem d_Pic_alarm_13 : decode b_Pic_alarm 13 = .ok (.if_icmp .lt 13, 3) := by decide +kernel
theorem d_Pic_alarm_16 : decode b_Pic_alarm 16 = .ok (.new 175, 3) := by decide +kernel
theorem d_Pic_alarm_19 : decode b_Pic_alarm 19 = .ok (.dup, 1) := by decide +kernel
theorem d_Pic_alarm_20 : decode b_Pic_alarm 20 = .ok (.ldc 177, 2) := by decide +kernel
theorem d_Pic_alarm_22 : decode b_Pic_alarm 22 = .ok (.invokespecial 179, 3) := by decide +kernel
theorem d_Pic_alarm_25 : decode b_Pic_alarm 25 = .ok (.athrow, 1) := by decide +kernel
theorem d_Pic_alarm_26 : decode b_Pic_alarm 26 = .ok (.iload_n 1, 1) := by decide +kernel
theorem d_Pic_alarm_27 : decode b_Pic_alarm 27 = .ok (.iconst 1, 1) := by decide +kernel
theorem d_Pic_alarm_28 : decode b_Pic_alarm 28 = .ok (.iadd, 1) := by decide +kernel
theorem d_Pic_alarm_29 : decode b_Pic_alarm 29 = .ok (.istore 4, 2) := by decide +kernel
theorem d_Pic_alarm_31 : decode b_Pic_alarm 31 = .ok (.iload 4, 2) := by decide +kernel
theorem d_Pic_alarm_33 : decode b_Pic_alarm 33 = .ok (.aload_n 0, 1) := by decide +kernel
theorem d_Pic_alarm_34 : decode b_Pic_alarm 34 = .ok (.getfield 65, 3) := by decide +kernel
theorem d_Pic_alarm_37 : decode b_Pic_alarm 37 = .ok (.getfield 172, 3) := by decide +kernel
theorem d_Pic_alarm_40 : decode b_Pic_alarm 40 = .ok (.if_icmp .ge 26, 3) := by decide +kernel
theorem d_Pic_alarm_43 : decode b_Pic_alarm 43 = .ok (.aload_n 0, 1) := by decide +kernel
theorem d_Pic_alarm_44 : decode b_Pic_alarm 44 = .ok (.getfield 65, 3) := by decide +kernel
theorem d_Pic_alarm_47 : decode b_Pic_alarm 47 = .ok (.iload 4, 2) := by decide +kernel
theorem d_Pic_alarm_49 : decode b_Pic_alarm 49 = .ok (.iload_n 2, 1) := by decide +kernel
theorem d_Pic_alarm_50 : decode b_Pic_alarm 50 = .ok (.iload_n 3, 1) := by decide +kernel
theorem d_Pic_alarm_51 : decode b_Pic_alarm 51 = .ok (.invokevirtual 188, 3) := by decide +kernel
theorem d_Pic_alarm_54 : decode b_Pic_alarm 54 = .ok (.ifCond .eq 6, 3) := by decide +kernel
theorem d_Pic_alarm_57 : decode b_Pic_alarm 57 = .ok (.iload 4, 2) := by decide +kernel
theorem d_Pic_alarm_59 : decode b_Pic_alarm 59 = .ok (.ireturn, 1) := by decide +kernel
theorem d_Pic_alarm_60 : decode b_Pic_alarm 60 = .ok (.iinc 4 1, 3) := by decide +kernel
theorem d_Pic_alarm_63 : decode b_Pic_alarm 63 = .ok (.goto (-32), 3) := by decide +kernel
theorem d_Pic_alarm_66 : decode b_Pic_alarm 66 = .ok (.iconst (-1), 1) := by decide +kernel
theorem d_Pic_alarm_67 : decode b_Pic_alarm 67 = .ok (.ireturn, 1) := by decide +kernel
theorem d_Pic_falseOnes_0 : decode b_Pic_falseOnes 0 = .ok (.aload_n 0, 1) := by decide +kernel
theorem d_Pic_falseOnes_1 : decode b_Pic_falseOnes 1 = .ok (.getfield 56, 3) := by decide +kernel
theorem d_Pic_falseOnes_4 : decode b_Pic_falseOnes 4 = .ok (.getfield 192, 3) := by decide +kernel
theorem d_Pic_falseOnes_7 : decode b_Pic_falseOnes 7 = .ok (.ireturn, 1) := by decide +kernel
theorem d_Days_canFollow_0 : decode b_Days_canFollow 0 = .ok (.aload_n 0, 1) := by decide +kernel
theorem d_Days_canFollow_1 : decode b_Days_canFollow 1 = .ok (.getfield 18, 3) := by decide +kernel
theorem d_Days_canFollow_4 : decode b_Days_canFollow 4 = .ok (.ifCond .le 26, 3) := by decide +kernel
theorem d_Days_canFollow_7 : decode b_Days_canFollow 7 = .ok (.aload_n 0, 1) := by decide +kernel
theorem d_Days_canFollow_8 : decode b_Days_canFollow 8 = .ok (.getfield 18, 3) := by decide +kernel
theorem d_Days_canFollow_11 : decode b_Days_canFollow 11 = .ok (.bipush 30, 2) := by decide +kernel
theorem d_Days_canFollow_13 : decode b_Days_canFollow 13 = .ok (.if_icmp .gt 17, 3) := by decide +kernel
theorem d_Days_canFollow_16 : decode b_Days_canFollow 16 = .ok (.aload_n 0, 1) := by decide +kernel
theorem d_Days_canFollow_17 : decode b_Days_canFollow 17 = .ok (.getfield 11, 3) := by decide +kernel
theorem d_Days_canFollow_20 : decode b_Days_canFollow 20 = .ok (.aload_n 0, 1) := by decide +kernel
theorem d_Days_canFollow_21 : decode b_Days_canFollow 21 = .ok (.getfield 18, 3) := by decide +kernel
theorem d_Days_canFollow_24 : decode b_Days_canFollow 24 = .ok (.iconst 1, 1) := by decide +kernel
theorem d_Days_canFollow_25 : decode b_Days_canFollow 25 = .ok (.isub, 1) := by decide +kernel
theorem d_Days_canFollow_26 : decode b_Days_canFollow 26 = .ok (.iaload, 1) := by decide +kernel
theorem d_Days_canFollow_27 : decode b_Days_canFollow 27 = .ok (.goto 4, 3) := by decide +kernel
theorem d_Days_canFollow_30 : decode b_Days_canFollow 30 = .ok (.iconst (-1), 1) := by decide +kernel
theorem d_Days_canFollow_31 : decode b_Days_canFollow 31 = .ok (.istore_n 2, 1) := by decide +kernel
theorem d_Days_canFollow_32 : decode b_Days_canFollow 32 = .ok (.iload_n 1, 1) := by decide +kernel
theorem d_Days_canFollow_33 : decode b_Days_canFollow 33 = .ok (.iload_n 2, 1) := by decide +kernel
theorem d_Days_canFollow_34 : decode b_Days_canFollow 34 = .ok (.if_icmp .le 14, 3) := by decide +kernel
theorem d_Days_canFollow_37 : decode b_Days_canFollow 37 = .ok (.iload_n 1, 1) := by decide +kernel
theorem d_Days_canFollow_38 : decode b_Days_canFollow 38 = .ok (.sipush 10000, 3) := by decide +kernel
theorem d_Days_canFollow_41 : decode b_Days_canFollow 41 = .ok (.if_icmp .gt 7, 3) := by decide +kernel
theorem d_Days_canFollow_44 : decode b_Days_canFollow 44 = .ok (.iconst 1, 1) := by decide +kernel
theorem d_Days_canFollow_45 : decode b_Days_canFollow 45 = .ok (.goto 4, 3) := by decide +kernel
theorem d_Days_canFollow_48 : decode b_Days_canFollow 48 = .ok (.iconst 0, 1) := by decide +kernel
theorem d_Days_canFollow_49 : decode b_Days_canFollow 49 = .ok (.ireturn, 1) := by decide +kernel
theorem d_Days_isFull_0 : decode b_Days_isFull 0 = .ok (.aload_n 0, 1) := by decide +kernel
theorem d_Days_isFull_1 : decode b_Days_isFull 1 = .ok (.getfield 18, 3) := by decide +kernel
theorem d_Days_isFull_4 : decode b_Days_isFull 4 = .ok (.bipush 30, 2) := by decide +kernel
theorem d_Days_isFull_6 : decode b_Days_isFull 6 = .ok (.if_icmp .lt 7, 3) := by decide +kernel
theorem d_Days_isFull_9 : decode b_Days_isFull 9 = .ok (.iconst 1, 1) := by decide +kernel
theorem d_Days_isFull_10 : decode b_Days_isFull 10 = .ok (.goto 4, 3) := by decide +kernel
theorem d_Days_isFull_13 : decode b_Days_isFull 13 = .ok (.iconst 0, 1) := by decide +kernel
theorem d_Days_isFull_14 : decode b_Days_isFull 14 = .ok (.ireturn, 1) := by decide +kernel
theorem d_Days_keep_0 : decode b_Days_keep 0 = .ok (.aload_n 0, 1) := by decide +kernel
theorem d_Days_keep_1 : decode b_Days_keep 1 = .ok (.getfield 18, 3) := by decide +kernel
theorem d_Days_keep_4 : decode b_Days_keep 4 = .ok (.bipush 30, 2) := by decide +kernel
theorem d_Days_keep_6 : decode b_Days_keep 6 = .ok (.if_icmp .ge 33, 3) := by decide +kernel
theorem d_Days_keep_9 : decode b_Days_keep 9 = .ok (.aload_n 0, 1) := by decide +kernel
theorem d_Days_keep_10 : decode b_Days_keep 10 = .ok (.getfield 11, 3) := by decide +kernel
theorem d_Days_keep_13 : decode b_Days_keep 13 = .ok (.aload_n 0, 1) := by decide +kernel
theorem d_Days_keep_14 : decode b_Days_keep 14 = .ok (.getfield 18, 3) := by decide +kernel
theorem d_Days_keep_17 : decode b_Days_keep 17 = .ok (.iload_n 1, 1) := by decide +kernel
theorem d_Days_keep_18 : decode b_Days_keep 18 = .ok (.iastore, 1) := by decide +kernel
theorem d_Days_keep_19 : decode b_Days_keep 19 = .ok (.aload_n 0, 1) := by decide +kernel
theorem d_Days_keep_20 : decode b_Days_keep 20 = .ok (.getfield 15, 3) := by decide +kernel
theorem d_Days_keep_23 : decode b_Days_keep 23 = .ok (.aload_n 0, 1) := by decide +kernel
theorem d_Days_keep_24 : decode b_Days_keep 24 = .ok (.getfield 18, 3) := by decide +kernel
theorem d_Days_keep_27 : decode b_Days_keep 27 = .ok (.iload_n 2, 1) := by decide +kernel
theorem d_Days_keep_28 : decode b_Days_keep 28 = .ok (.iastore, 1) := by decide +kernel
theorem d_Days_keep_29 : decode b_Days_keep 29 = .ok (.aload_n 0, 1) := by decide +kernel
theorem d_Days_keep_30 : decode b_Days_keep 30 = .ok (.dup, 1) := by decide +kernel
theorem d_Days_keep_31 : decode b_Days_keep 31 = .ok (.getfield 18, 3) := by decide +kernel
theorem d_Days_keep_34 : decode b_Days_keep 34 = .ok (.iconst 1, 1) := by decide +kernel
theorem d_Days_keep_35 : decode b_Days_keep 35 = .ok (.iadd, 1) := by decide +kernel
theorem d_Days_keep_36 : decode b_Days_keep 36 = .ok (.putfield 18, 3) := by decide +kernel
theorem d_Days_keep_39 : decode b_Days_keep 39 = .ok (.return_, 1) := by decide +kernel
theorem d_Pic_day_0 : decode b_Pic_day 0 = .ok (.aload_n 0, 1) := by decide +kernel
theorem d_Pic_day_1 : decode b_Pic_day 1 = .ok (.getfield 72, 3) := by decide +kernel
theorem d_Pic_day_4 : decode b_Pic_day 4 = .ok (.iload_n 1, 1) := by decide +kernel
theorem d_Pic_day_5 : decode b_Pic_day 5 = .ok (.invokevirtual 195, 3) := by decide +kernel
theorem d_Pic_day_8 : decode b_Pic_day 8 = .ok (.ifCond .ne 13, 3) := by decide +kernel
theorem d_Pic_day_11 : decode b_Pic_day 11 = .ok (.new 89, 3) := by decide +kernel
theorem d_Pic_day_14 : decode b_Pic_day 14 = .ok (.dup, 1) := by decide +kernel
theorem d_Pic_day_15 : decode b_Pic_day 15 = .ok (.ldc 199, 2) := by decide +kernel
theorem d_Pic_day_17 : decode b_Pic_day 17 = .ok (.invokespecial 93, 3) := by decide +kernel
theorem d_Pic_day_20 : decode b_Pic_day 20 = .ok (.athrow, 1) := by decide +kernel
theorem d_Pic_day_21 : decode b_Pic_day 21 = .ok (.aload_n 0, 1) := by decide +kernel
theorem d_Pic_day_22 : decode b_Pic_day 22 = .ok (.getfield 72, 3) := by decide +kernel
theorem d_Pic_day_25 : decode b_Pic_day 25 = .ok (.invokevirtual 201, 3) := by decide +kernel
theorem d_Pic_day_28 : decode b_Pic_day 28 = .ok (.ifCond .eq 13, 3) := by decide +kernel
theorem d_Pic_day_31 : decode b_Pic_day 31 = .ok (.new 132, 3) := by decide +kernel
theorem d_Pic_day_34 : decode b_Pic_day 34 = .ok (.dup, 1) := by decide +kernel
theorem d_Pic_day_35 : decode b_Pic_day 35 = .ok (.ldc 202, 2) := by decide +kernel
theorem d_Pic_day_37 : decode b_Pic_day 37 = .ok (.invokespecial 136, 3) := by decide +kernel
theorem d_Pic_day_40 : decode b_Pic_day 40 = .ok (.athrow, 1) := by decide +kernel
theorem d_Pic_day_41 : decode b_Pic_day 41 = .ok (.aload_n 0, 1) := by decide +kernel
theorem d_Pic_day_42 : decode b_Pic_day 42 = .ok (.getfield 72, 3) := by decide +kernel
theorem d_Pic_day_45 : decode b_Pic_day 45 = .ok (.iload_n 1, 1) := by decide +kernel
theorem d_Pic_day_46 : decode b_Pic_day 46 = .ok (.aload_n 0, 1) := by decide +kernel
theorem d_Pic_day_47 : decode b_Pic_day 47 = .ok (.getfield 65, 3) := by decide +kernel
theorem d_Pic_day_50 : decode b_Pic_day 50 = .ok (.getfield 204, 3) := by decide +kernel
theorem d_Pic_day_53 : decode b_Pic_day 53 = .ok (.invokevirtual 207, 3) := by decide +kernel
theorem d_Pic_day_56 : decode b_Pic_day 56 = .ok (.aload_n 0, 1) := by decide +kernel
theorem d_Pic_day_57 : decode b_Pic_day 57 = .ok (.getfield 72, 3) := by decide +kernel
theorem d_Pic_day_60 : decode b_Pic_day 60 = .ok (.getfield 210, 3) := by decide +kernel
theorem d_Pic_day_63 : decode b_Pic_day 63 = .ok (.ireturn, 1) := by decide +kernel
theorem d_Days_fit_0 : decode b_Days_fit 0 = .ok (.lconst 0, 1) := by decide +kernel
theorem d_Days_fit_1 : decode b_Days_fit 1 = .ok (.lstore_n 2, 1) := by decide +kernel
theorem d_Days_fit_2 : decode b_Days_fit 2 = .ok (.lconst 0, 1) := by decide +kernel
theorem d_Days_fit_3 : decode b_Days_fit 3 = .ok (.lstore 4, 2) := by decide +kernel
theorem d_Days_fit_5 : decode b_Days_fit 5 = .ok (.lconst 0, 1) := by decide +kernel
theorem d_Days_fit_6 : decode b_Days_fit 6 = .ok (.lstore 6, 2) := by decide +kernel
theorem d_Days_fit_8 : decode b_Days_fit 8 = .ok (.lconst 0, 1) := by decide +kernel
theorem d_Days_fit_9 : decode b_Days_fit 9 = .ok (.lstore 8, 2) := by decide +kernel
theorem d_Days_fit_11 : decode b_Days_fit 11 = .ok (.iconst 0, 1) := by decide +kernel
theorem d_Days_fit_12 : decode b_Days_fit 12 = .ok (.istore 10, 2) := by decide +kernel
theorem d_Days_fit_14 : decode b_Days_fit 14 = .ok (.iload 10, 2) := by decide +kernel
theorem d_Days_fit_16 : decode b_Days_fit 16 = .ok (.aload_n 0, 1) := by decide +kernel
theorem d_Days_fit_17 : decode b_Days_fit 17 = .ok (.getfield 18, 3) := by decide +kernel
theorem d_Days_fit_20 : decode b_Days_fit 20 = .ok (.if_icmp .ge 63, 3) := by decide +kernel
theorem d_Days_fit_23 : decode b_Days_fit 23 = .ok (.aload_n 0, 1) := by decide +kernel
theorem d_Days_fit_24 : decode b_Days_fit 24 = .ok (.getfield 11, 3) := by decide +kernel
theorem d_Days_fit_27 : decode b_Days_fit 27 = .ok (.iload 10, 2) := by decide +kernel
theorem d_Days_fit_29 : decode b_Days_fit 29 = .ok (.iaload, 1) := by decide +kernel
theorem d_Days_fit_30 : decode b_Days_fit 30 = .ok (.i2l, 1) := by decide +kernel
theorem d_Days_fit_31 : decode b_Days_fit 31 = .ok (.lstore 11, 2) := by decide +kernel
theorem d_Days_fit_33 : decode b_Days_fit 33 = .ok (.lload_n 2, 1) := by decide +kernel
theorem d_Days_fit_34 : decode b_Days_fit 34 = .ok (.lload 11, 2) := by decide +kernel
theorem d_Days_fit_36 : decode b_Days_fit 36 = .ok (.ladd, 1) := by decide +kernel
theorem d_Days_fit_37 : decode b_Days_fit 37 = .ok (.lstore_n 2, 1) := by decide +kernel
theorem d_Days_fit_38 : decode b_Days_fit 38 = .ok (.lload 4, 2) := by decide +kernel
theorem d_Days_fit_40 : decode b_Days_fit 40 = .ok (.aload_n 0, 1) := by decide +kernel
theorem d_Days_fit_41 : decode b_Days_fit 41 = .ok (.getfield 15, 3) := by decide +kernel
theorem d_Days_fit_44 : decode b_Days_fit 44 = .ok (.iload 10, 2) := by decide +kernel
theorem d_Days_fit_46 : decode b_Days_fit 46 = .ok (.iaload, 1) := by decide +kernel
theorem d_Days_fit_47 : decode b_Days_fit 47 = .ok (.i2l, 1) := by decide +kernel
theorem d_Days_fit_48 : decode b_Days_fit 48 = .ok (.ladd, 1) := by decide +kernel
theorem d_Days_fit_49 : decode b_Days_fit 49 = .ok (.lstore 4, 2) := by decide +kernel
theorem d_Days_fit_51 : decode b_Days_fit 51 = .ok (.lload 6, 2) := by decide +kernel
theorem d_Days_fit_53 : decode b_Days_fit 53 = .ok (.lload 11, 2) := by decide +kernel
theorem d_Days_fit_55 : decode b_Days_fit 55 = .ok (.aload_n 0, 1) := by decide +kernel
theorem d_Days_fit_56 : decode b_Days_fit 56 = .ok (.getfield 15, 3) := by decide +kernel
theorem d_Days_fit_59 : decode b_Days_fit 59 = .ok (.iload 10, 2) := by decide +kernel
theorem d_Days_fit_61 : decode b_Days_fit 61 = .ok (.iaload, 1) := by decide +kernel
theorem d_Days_fit_62 : decode b_Days_fit 62 = .ok (.i2l, 1) := by decide +kernel
theorem d_Days_fit_63 : decode b_Days_fit 63 = .ok (.lmul, 1) := by decide +kernel
theorem d_Days_fit_64 : decode b_Days_fit 64 = .ok (.ladd, 1) := by decide +kernel
theorem d_Days_fit_65 : decode b_Days_fit 65 = .ok (.lstore 6, 2) := by decide +kernel
theorem d_Days_fit_67 : decode b_Days_fit 67 = .ok (.lload 8, 2) := by decide +kernel
theorem d_Days_fit_69 : decode b_Days_fit 69 = .ok (.lload 11, 2) := by decide +kernel
theorem d_Days_fit_71 : decode b_Days_fit 71 = .ok (.lload 11, 2) := by decide +kernel
theorem d_Days_fit_73 : decode b_Days_fit 73 = .ok (.lmul, 1) := by decide +kernel
theorem d_Days_fit_74 : decode b_Days_fit 74 = .ok (.ladd, 1) := by decide +kernel
theorem d_Days_fit_75 : decode b_Days_fit 75 = .ok (.lstore 8, 2) := by decide +kernel
theorem d_Days_fit_77 : decode b_Days_fit 77 = .ok (.iinc 10 1, 3) := by decide +kernel
theorem d_Days_fit_80 : decode b_Days_fit 80 = .ok (.goto (-66), 3) := by decide +kernel
theorem d_Days_fit_83 : decode b_Days_fit 83 = .ok (.aload_n 0, 1) := by decide +kernel
theorem d_Days_fit_84 : decode b_Days_fit 84 = .ok (.getfield 18, 3) := by decide +kernel
theorem d_Days_fit_87 : decode b_Days_fit 87 = .ok (.i2l, 1) := by decide +kernel
theorem d_Days_fit_88 : decode b_Days_fit 88 = .ok (.lload 8, 2) := by decide +kernel
theorem d_Days_fit_90 : decode b_Days_fit 90 = .ok (.lmul, 1) := by decide +kernel
theorem d_Days_fit_91 : decode b_Days_fit 91 = .ok (.lload_n 2, 1) := by decide +kernel
theorem d_Days_fit_92 : decode b_Days_fit 92 = .ok (.lload_n 2, 1) := by decide +kernel
theorem d_Days_fit_93 : decode b_Days_fit 93 = .ok (.lmul, 1) := by decide +kernel
theorem d_Days_fit_94 : decode b_Days_fit 94 = .ok (.lsub, 1) := by decide +kernel
theorem d_Days_fit_95 : decode b_Days_fit 95 = .ok (.lstore 10, 2) := by decide +kernel
theorem d_Days_fit_97 : decode b_Days_fit 97 = .ok (.aload_n 0, 1) := by decide +kernel
theorem d_Days_fit_98 : decode b_Days_fit 98 = .ok (.getfield 18, 3) := by decide +kernel
theorem d_Days_fit_101 : decode b_Days_fit 101 = .ok (.iconst 2, 1) := by decide +kernel
theorem d_Days_fit_102 : decode b_Days_fit 102 = .ok (.if_icmp .lt 10, 3) := by decide +kernel
theorem d_Days_fit_105 : decode b_Days_fit 105 = .ok (.lload 10, 2) := by decide +kernel
theorem d_Days_fit_107 : decode b_Days_fit 107 = .ok (.lconst 0, 1) := by decide +kernel
theorem d_Days_fit_108 : decode b_Days_fit 108 = .ok (.lcmp, 1) := by decide +kernel
theorem d_Days_fit_109 : decode b_Days_fit 109 = .ok (.ifCond .gt 12, 3) := by decide +kernel
theorem d_Days_fit_112 : decode b_Days_fit 112 = .ok (.aload_n 1, 1) := by decide +kernel
theorem d_Days_fit_113 : decode b_Days_fit 113 = .ok (.lconst 0, 1) := by decide +kernel
theorem d_Days_fit_114 : decode b_Days_fit 114 = .ok (.lconst 1, 1) := by decide +kernel
theorem d_Days_fit_115 : decode b_Days_fit 115 = .ok (.invokevirtual 22, 3) := by decide +kernel
theorem d_Days_fit_118 : decode b_Days_fit 118 = .ok (.goto 22, 3) := by decide +kernel
theorem d_Days_fit_121 : decode b_Days_fit 121 = .ok (.aload_n 1, 1) := by decide +kernel
theorem d_Days_fit_122 : decode b_Days_fit 122 = .ok (.aload_n 0, 1) := by decide +kernel
theorem d_Days_fit_123 : decode b_Days_fit 123 = .ok (.getfield 18, 3) := by decide +kernel
theorem d_Days_fit_126 : decode b_Days_fit 126 = .ok (.i2l, 1) := by decide +kernel
theorem d_Days_fit_127 : decode b_Days_fit 127 = .ok (.lload 6, 2) := by decide +kernel
theorem d_Days_fit_129 : decode b_Days_fit 129 = .ok (.lmul, 1) := by decide +kernel
theorem d_Days_fit_130 : decode b_Days_fit 130 = .ok (.lload_n 2, 1) := by decide +kernel
theorem d_Days_fit_131 : decode b_Days_fit 131 = .ok (.lload 4, 2) := by decide +kernel
theorem d_Days_fit_133 : decode b_Days_fit 133 = .ok (.lmul, 1) := by decide +kernel
theorem d_Days_fit_134 : decode b_Days_fit 134 = .ok (.lsub, 1) := by decide +kernel
theorem d_Days_fit_135 : decode b_Days_fit 135 = .ok (.lload 10, 2) := by decide +kernel
theorem d_Days_fit_137 : decode b_Days_fit 137 = .ok (.invokevirtual 22, 3) := by decide +kernel
theorem d_Days_fit_140 : decode b_Days_fit 140 = .ok (.return_, 1) := by decide +kernel
theorem d_Pic_growth_0 : decode b_Pic_growth 0 = .ok (.iload_n 1, 1) := by decide +kernel
theorem d_Pic_growth_1 : decode b_Pic_growth 1 = .ok (.invokestatic 113, 3) := by decide +kernel
theorem d_Pic_growth_4 : decode b_Pic_growth 4 = .ok (.aload_n 0, 1) := by decide +kernel
theorem d_Pic_growth_5 : decode b_Pic_growth 5 = .ok (.getfield 72, 3) := by decide +kernel
theorem d_Pic_growth_8 : decode b_Pic_growth 8 = .ok (.aload_n 0, 1) := by decide +kernel
theorem d_Pic_growth_9 : decode b_Pic_growth 9 = .ok (.getfield 76, 3) := by decide +kernel
theorem d_Pic_growth_12 : decode b_Pic_growth 12 = .ok (.invokevirtual 213, 3) := by decide +kernel
theorem d_Pic_growth_15 : decode b_Pic_growth 15 = .ok (.iload_n 1, 1) := by decide +kernel
theorem d_Pic_growth_16 : decode b_Pic_growth 16 = .ok (.ifCond .ne 13, 3) := by decide +kernel
theorem d_Pic_growth_19 : decode b_Pic_growth 19 = .ok (.aload_n 0, 1) := by decide +kernel
theorem d_Pic_growth_20 : decode b_Pic_growth 20 = .ok (.getfield 76, 3) := by decide +kernel
theorem d_Pic_growth_23 : decode b_Pic_growth 23 = .ok (.getfield 143, 3) := by decide +kernel
theorem d_Pic_growth_26 : decode b_Pic_growth 26 = .ok (.goto 10, 3) := by decide +kernel
theorem d_Pic_growth_29 : decode b_Pic_growth 29 = .ok (.aload_n 0, 1) := by decide +kernel
theorem d_Pic_growth_30 : decode b_Pic_growth 30 = .ok (.getfield 76, 3) := by decide +kernel
theorem d_Pic_growth_33 : decode b_Pic_growth 33 = .ok (.getfield 147, 3) := by decide +kernel
theorem d_Pic_growth_36 : decode b_Pic_growth 36 = .ok (.lreturn, 1) := by decide +kernel
theorem d_Pic_count_0 : decode b_Pic_count 0 = .ok (.iload_n 1, 1) := by decide +kernel
theorem d_Pic_count_1 : decode b_Pic_count 1 = .ok (.tableswitch 93 0 6 #[43, 48, 53, 61, 69, 77, 85], 43) := by decide +kernel
theorem d_Pic_count_44 : decode b_Pic_count 44 = .ok (.aload_n 0, 1) := by decide +kernel
theorem d_Pic_count_45 : decode b_Pic_count 45 = .ok (.getfield 13, 3) := by decide +kernel
theorem d_Pic_count_48 : decode b_Pic_count 48 = .ok (.ireturn, 1) := by decide +kernel
theorem d_Pic_count_49 : decode b_Pic_count 49 = .ok (.aload_n 0, 1) := by decide +kernel
theorem d_Pic_count_50 : decode b_Pic_count 50 = .ok (.getfield 17, 3) := by decide +kernel
theorem d_Pic_count_53 : decode b_Pic_count 53 = .ok (.ireturn, 1) := by decide +kernel
theorem d_Pic_count_54 : decode b_Pic_count 54 = .ok (.aload_n 0, 1) := by decide +kernel
theorem d_Pic_count_55 : decode b_Pic_count 55 = .ok (.getfield 40, 3) := by decide +kernel
theorem d_Pic_count_58 : decode b_Pic_count 58 = .ok (.getfield 217, 3) := by decide +kernel
theorem d_Pic_count_61 : decode b_Pic_count 61 = .ok (.ireturn, 1) := by decide +kernel
theorem d_Pic_count_62 : decode b_Pic_count 62 = .ok (.aload_n 0, 1) := by decide +kernel
theorem d_Pic_count_63 : decode b_Pic_count 63 = .ok (.getfield 65, 3) := by decide +kernel
theorem d_Pic_count_66 : decode b_Pic_count 66 = .ok (.getfield 172, 3) := by decide +kernel
theorem d_Pic_count_69 : decode b_Pic_count 69 = .ok (.ireturn, 1) := by decide +kernel
theorem d_Pic_count_70 : decode b_Pic_count 70 = .ok (.aload_n 0, 1) := by decide +kernel
theorem d_Pic_count_71 : decode b_Pic_count 71 = .ok (.getfield 65, 3) := by decide +kernel
theorem d_Pic_count_74 : decode b_Pic_count 74 = .ok (.getfield 204, 3) := by decide +kernel
theorem d_Pic_count_77 : decode b_Pic_count 77 = .ok (.ireturn, 1) := by decide +kernel
theorem d_Pic_count_78 : decode b_Pic_count 78 = .ok (.aload_n 0, 1) := by decide +kernel
theorem d_Pic_count_79 : decode b_Pic_count 79 = .ok (.getfield 72, 3) := by decide +kernel
theorem d_Pic_count_82 : decode b_Pic_count 82 = .ok (.getfield 210, 3) := by decide +kernel
theorem d_Pic_count_85 : decode b_Pic_count 85 = .ok (.ireturn, 1) := by decide +kernel
theorem d_Pic_count_86 : decode b_Pic_count 86 = .ok (.aload_n 0, 1) := by decide +kernel
theorem d_Pic_count_87 : decode b_Pic_count 87 = .ok (.getfield 56, 3) := by decide +kernel
theorem d_Pic_count_90 : decode b_Pic_count 90 = .ok (.getfield 220, 3) := by decide +kernel
theorem d_Pic_count_93 : decode b_Pic_count 93 = .ok (.ireturn, 1) := by decide +kernel
theorem d_Pic_count_94 : decode b_Pic_count 94 = .ok (.new 175, 3) := by decide +kernel
theorem d_Pic_count_97 : decode b_Pic_count 97 = .ok (.dup, 1) := by decide +kernel
theorem d_Pic_count_98 : decode b_Pic_count 98 = .ok (.ldc 180, 2) := by decide +kernel
theorem d_Pic_count_100 : decode b_Pic_count 100 = .ok (.invokespecial 179, 3) := by decide +kernel
theorem d_Pic_count_103 : decode b_Pic_count 103 = .ok (.athrow, 1) := by decide +kernel
theorem d_Law_cell0_0 : decode b_Law_cell0 0 = .ok (.aload 5, 2) := by decide +kernel
theorem d_Law_cell0_2 : decode b_Law_cell0 2 = .ok (.iconst 0, 1) := by decide +kernel
theorem d_Law_cell0_3 : decode b_Law_cell0 3 = .ok (.aload_n 0, 1) := by decide +kernel
theorem d_Law_cell0_4 : decode b_Law_cell0 4 = .ok (.iload_n 1, 1) := by decide +kernel
theorem d_Law_cell0_5 : decode b_Law_cell0 5 = .ok (.iload_n 2, 1) := by decide +kernel
theorem d_Law_cell0_6 : decode b_Law_cell0 6 = .ok (.iload_n 3, 1) := by decide +kernel
theorem d_Law_cell0_7 : decode b_Law_cell0 7 = .ok (.iload 4, 2) := by decide +kernel
theorem d_Law_cell0_9 : decode b_Law_cell0 9 = .ok (.invokevirtual 7, 3) := by decide +kernel
theorem d_Law_cell0_12 : decode b_Law_cell0 12 = .ok (.i2l, 1) := by decide +kernel
theorem d_Law_cell0_13 : decode b_Law_cell0 13 = .ok (.lastore, 1) := by decide +kernel
theorem d_Law_cell0_14 : decode b_Law_cell0 14 = .ok (.goto 11, 3) := by decide +kernel
theorem d_Law_cell0_17 : decode b_Law_cell0 17 = .ok (.astore 6, 2) := by decide +kernel
theorem d_Law_cell0_19 : decode b_Law_cell0 19 = .ok (.iconst 1, 1) := by decide +kernel
theorem d_Law_cell0_20 : decode b_Law_cell0 20 = .ok (.ireturn, 1) := by decide +kernel
theorem d_Law_cell0_21 : decode b_Law_cell0 21 = .ok (.astore 6, 2) := by decide +kernel
theorem d_Law_cell0_23 : decode b_Law_cell0 23 = .ok (.iconst 2, 1) := by decide +kernel
theorem d_Law_cell0_24 : decode b_Law_cell0 24 = .ok (.ireturn, 1) := by decide +kernel
theorem d_Law_cell0_25 : decode b_Law_cell0 25 = .ok (.iconst 0, 1) := by decide +kernel
theorem d_Law_cell0_26 : decode b_Law_cell0 26 = .ok (.ireturn, 1) := by decide +kernel
theorem d_Law_register_0 : decode b_Law_register 0 = .ok (.aload_n 2, 1) := by decide +kernel
theorem d_Law_register_1 : decode b_Law_register 1 = .ok (.iconst 0, 1) := by decide +kernel
theorem d_Law_register_2 : decode b_Law_register 2 = .ok (.aload_n 0, 1) := by decide +kernel
theorem d_Law_register_3 : decode b_Law_register 3 = .ok (.iload_n 1, 1) := by decide +kernel
theorem d_Law_register_4 : decode b_Law_register 4 = .ok (.invokevirtual 17, 3) := by decide +kernel
theorem d_Law_register_7 : decode b_Law_register 7 = .ok (.i2l, 1) := by decide +kernel
theorem d_Law_register_8 : decode b_Law_register 8 = .ok (.lastore, 1) := by decide +kernel
theorem d_Law_register_9 : decode b_Law_register 9 = .ok (.goto 6, 3) := by decide +kernel
theorem d_Law_register_12 : decode b_Law_register 12 = .ok (.astore_n 3, 1) := by decide +kernel
theorem d_Law_register_13 : decode b_Law_register 13 = .ok (.iconst 1, 1) := by decide +kernel
theorem d_Law_register_14 : decode b_Law_register 14 = .ok (.ireturn, 1) := by decide +kernel
theorem d_Law_register_15 : decode b_Law_register 15 = .ok (.iconst 0, 1) := by decide +kernel
theorem d_Law_register_16 : decode b_Law_register 16 = .ok (.ireturn, 1) := by decide +kernel
theorem d_Law_shift_0 : decode b_Law_shift 0 = .ok (.aload_n 2, 1) := by decide +kernel
theorem d_Law_shift_1 : decode b_Law_shift 1 = .ok (.iconst 0, 1) := by decide +kernel
theorem d_Law_shift_2 : decode b_Law_shift 2 = .ok (.aload_n 0, 1) := by decide +kernel
theorem d_Law_shift_3 : decode b_Law_shift 3 = .ok (.iload_n 1, 1) := by decide +kernel
theorem d_Law_shift_4 : decode b_Law_shift 4 = .ok (.invokevirtual 21, 3) := by decide +kernel
theorem d_Law_shift_7 : decode b_Law_shift 7 = .ok (.i2l, 1) := by decide +kernel
theorem d_Law_shift_8 : decode b_Law_shift 8 = .ok (.lastore, 1) := by decide +kernel
theorem d_Law_shift_9 : decode b_Law_shift 9 = .ok (.goto 6, 3) := by decide +kernel
theorem d_Law_shift_12 : decode b_Law_shift 12 = .ok (.astore_n 3, 1) := by decide +kernel
theorem d_Law_shift_13 : decode b_Law_shift 13 = .ok (.iconst 1, 1) := by decide +kernel
theorem d_Law_shift_14 : decode b_Law_shift 14 = .ok (.ireturn, 1) := by decide +kernel
theorem d_Law_shift_15 : decode b_Law_shift 15 = .ok (.iconst 0, 1) := by decide +kernel
theorem d_Law_shift_16 : decode b_Law_shift 16 = .ok (.ireturn, 1) := by decide +kernel
theorem d_Law_chart_0 : decode b_Law_chart 0 = .ok (.aload 4, 2) := by decide +kernel
theorem d_Law_chart_2 : decode b_Law_chart 2 = .ok (.iconst 0, 1) := by decide +kernel
theorem d_Law_chart_3 : decode b_Law_chart 3 = .ok (.aload_n 0, 1) := by decide +kernel
theorem d_Law_chart_4 : decode b_Law_chart 4 = .ok (.iload_n 1, 1) := by decide +kernel
theorem d_Law_chart_5 : decode b_Law_chart 5 = .ok (.iload_n 2, 1) := by decide +kernel
theorem d_Law_chart_6 : decode b_Law_chart 6 = .ok (.iload_n 3, 1) := by decide +kernel
theorem d_Law_chart_7 : decode b_Law_chart 7 = .ok (.invokevirtual 24, 3) := by decide +kernel
theorem d_Law_chart_10 : decode b_Law_chart 10 = .ok (.ifCond .eq 7, 3) := by decide +kernel
theorem d_Law_chart_13 : decode b_Law_chart 13 = .ok (.lconst 1, 1) := by decide +kernel
theorem d_Law_chart_14 : decode b_Law_chart 14 = .ok (.goto 4, 3) := by decide +kernel
theorem d_Law_chart_17 : decode b_Law_chart 17 = .ok (.lconst 0, 1) := by decide +kernel
theorem d_Law_chart_18 : decode b_Law_chart 18 = .ok (.lastore, 1) := by decide +kernel
theorem d_Law_chart_19 : decode b_Law_chart 19 = .ok (.goto 11, 3) := by decide +kernel
theorem d_Law_chart_22 : decode b_Law_chart 22 = .ok (.astore 5, 2) := by decide +kernel
theorem d_Law_chart_24 : decode b_Law_chart 24 = .ok (.iconst 1, 1) := by decide +kernel
theorem d_Law_chart_25 : decode b_Law_chart 25 = .ok (.ireturn, 1) := by decide +kernel
theorem d_Law_chart_26 : decode b_Law_chart 26 = .ok (.astore 5, 2) := by decide +kernel
theorem d_Law_chart_28 : decode b_Law_chart 28 = .ok (.iconst 2, 1) := by decide +kernel
theorem d_Law_chart_29 : decode b_Law_chart 29 = .ok (.ireturn, 1) := by decide +kernel
theorem d_Law_chart_30 : decode b_Law_chart 30 = .ok (.iconst 0, 1) := by decide +kernel
theorem d_Law_chart_31 : decode b_Law_chart 31 = .ok (.ireturn, 1) := by decide +kernel
theorem d_Law_gain_0 : decode b_Law_gain 0 = .ok (.aload_n 2, 1) := by decide +kernel
theorem d_Law_gain_1 : decode b_Law_gain 1 = .ok (.iconst 0, 1) := by decide +kernel
theorem d_Law_gain_2 : decode b_Law_gain 2 = .ok (.aload_n 0, 1) := by decide +kernel
theorem d_Law_gain_3 : decode b_Law_gain 3 = .ok (.iload_n 1, 1) := by decide +kernel
theorem d_Law_gain_4 : decode b_Law_gain 4 = .ok (.invokevirtual 30, 3) := by decide +kernel
theorem d_Law_gain_7 : decode b_Law_gain 7 = .ok (.i2l, 1) := by decide +kernel
theorem d_Law_gain_8 : decode b_Law_gain 8 = .ok (.lastore, 1) := by decide +kernel
theorem d_Law_gain_9 : decode b_Law_gain 9 = .ok (.goto 6, 3) := by decide +kernel
theorem d_Law_gain_12 : decode b_Law_gain 12 = .ok (.astore_n 3, 1) := by decide +kernel
theorem d_Law_gain_13 : decode b_Law_gain 13 = .ok (.iconst 1, 1) := by decide +kernel
theorem d_Law_gain_14 : decode b_Law_gain 14 = .ok (.ireturn, 1) := by decide +kernel
theorem d_Law_gain_15 : decode b_Law_gain 15 = .ok (.iconst 0, 1) := by decide +kernel
theorem d_Law_gain_16 : decode b_Law_gain 16 = .ok (.ireturn, 1) := by decide +kernel
theorem d_Law_repeat_0 : decode b_Law_repeat 0 = .ok (.aload 4, 2) := by decide +kernel
theorem d_Law_repeat_2 : decode b_Law_repeat 2 = .ok (.iconst 0, 1) := by decide +kernel
theorem d_Law_repeat_3 : decode b_Law_repeat 3 = .ok (.aload_n 0, 1) := by decide +kernel
theorem d_Law_repeat_4 : decode b_Law_repeat 4 = .ok (.iload_n 1, 1) := by decide +kernel
theorem d_Law_repeat_5 : decode b_Law_repeat 5 = .ok (.iload_n 2, 1) := by decide +kernel
theorem d_Law_repeat_6 : decode b_Law_repeat 6 = .ok (.iload_n 3, 1) := by decide +kernel
theorem d_Law_repeat_7 : decode b_Law_repeat 7 = .ok (.invokevirtual 33, 3) := by decide +kernel
theorem d_Law_repeat_10 : decode b_Law_repeat 10 = .ok (.i2l, 1) := by decide +kernel
theorem d_Law_repeat_11 : decode b_Law_repeat 11 = .ok (.lastore, 1) := by decide +kernel
theorem d_Law_repeat_12 : decode b_Law_repeat 12 = .ok (.goto 11, 3) := by decide +kernel
theorem d_Law_repeat_15 : decode b_Law_repeat 15 = .ok (.astore 5, 2) := by decide +kernel
theorem d_Law_repeat_17 : decode b_Law_repeat 17 = .ok (.iconst 1, 1) := by decide +kernel
theorem d_Law_repeat_18 : decode b_Law_repeat 18 = .ok (.ireturn, 1) := by decide +kernel
theorem d_Law_repeat_19 : decode b_Law_repeat 19 = .ok (.astore 5, 2) := by decide +kernel
theorem d_Law_repeat_21 : decode b_Law_repeat 21 = .ok (.iconst 2, 1) := by decide +kernel
theorem d_Law_repeat_22 : decode b_Law_repeat 22 = .ok (.ireturn, 1) := by decide +kernel
theorem d_Law_repeat_23 : decode b_Law_repeat 23 = .ok (.iconst 0, 1) := by decide +kernel
theorem d_Law_repeat_24 : decode b_Law_repeat 24 = .ok (.ireturn, 1) := by decide +kernel
theorem d_Law_floor_0 : decode b_Law_floor 0 = .ok (.aload_n 2, 1) := by decide +kernel
theorem d_Law_floor_1 : decode b_Law_floor 1 = .ok (.iconst 0, 1) := by decide +kernel
theorem d_Law_floor_2 : decode b_Law_floor 2 = .ok (.aload_n 0, 1) := by decide +kernel
theorem d_Law_floor_3 : decode b_Law_floor 3 = .ok (.iload_n 1, 1) := by decide +kernel
theorem d_Law_floor_4 : decode b_Law_floor 4 = .ok (.invokevirtual 37, 3) := by decide +kernel
theorem d_Law_floor_7 : decode b_Law_floor 7 = .ok (.i2l, 1) := by decide +kernel
theorem d_Law_floor_8 : decode b_Law_floor 8 = .ok (.lastore, 1) := by decide +kernel
theorem d_Law_floor_9 : decode b_Law_floor 9 = .ok (.goto 6, 3) := by decide +kernel
theorem d_Law_floor_12 : decode b_Law_floor 12 = .ok (.astore_n 3, 1) := by decide +kernel
theorem d_Law_floor_13 : decode b_Law_floor 13 = .ok (.iconst 1, 1) := by decide +kernel
theorem d_Law_floor_14 : decode b_Law_floor 14 = .ok (.ireturn, 1) := by decide +kernel
theorem d_Law_floor_15 : decode b_Law_floor 15 = .ok (.iconst 0, 1) := by decide +kernel
theorem d_Law_floor_16 : decode b_Law_floor 16 = .ok (.ireturn, 1) := by decide +kernel
theorem d_Law_bound_0 : decode b_Law_bound 0 = .ok (.aload_n 3, 1) := by decide +kernel
theorem d_Law_bound_1 : decode b_Law_bound 1 = .ok (.iconst 0, 1) := by decide +kernel
theorem d_Law_bound_2 : decode b_Law_bound 2 = .ok (.aload_n 0, 1) := by decide +kernel
theorem d_Law_bound_3 : decode b_Law_bound 3 = .ok (.iload_n 1, 1) := by decide +kernel
theorem d_Law_bound_4 : decode b_Law_bound 4 = .ok (.iload_n 2, 1) := by decide +kernel
theorem d_Law_bound_5 : decode b_Law_bound 5 = .ok (.invokevirtual 40, 3) := by decide +kernel
theorem d_Law_bound_8 : decode b_Law_bound 8 = .ok (.i2l, 1) := by decide +kernel
theorem d_Law_bound_9 : decode b_Law_bound 9 = .ok (.lastore, 1) := by decide +kernel
theorem d_Law_bound_10 : decode b_Law_bound 10 = .ok (.goto 7, 3) := by decide +kernel
theorem d_Law_bound_13 : decode b_Law_bound 13 = .ok (.astore 4, 2) := by decide +kernel
theorem d_Law_bound_15 : decode b_Law_bound 15 = .ok (.iconst 1, 1) := by decide +kernel
theorem d_Law_bound_16 : decode b_Law_bound 16 = .ok (.ireturn, 1) := by decide +kernel
theorem d_Law_bound_17 : decode b_Law_bound 17 = .ok (.iconst 0, 1) := by decide +kernel
theorem d_Law_bound_18 : decode b_Law_bound 18 = .ok (.ireturn, 1) := by decide +kernel
theorem d_Law_change_0 : decode b_Law_change 0 = .ok (.aload_n 3, 1) := by decide +kernel
theorem d_Law_change_1 : decode b_Law_change 1 = .ok (.iconst 0, 1) := by decide +kernel
theorem d_Law_change_2 : decode b_Law_change 2 = .ok (.aload_n 0, 1) := by decide +kernel
theorem d_Law_change_3 : decode b_Law_change 3 = .ok (.iload_n 1, 1) := by decide +kernel
theorem d_Law_change_4 : decode b_Law_change 4 = .ok (.iload_n 2, 1) := by decide +kernel
theorem d_Law_change_5 : decode b_Law_change 5 = .ok (.invokevirtual 44, 3) := by decide +kernel
theorem d_Law_change_8 : decode b_Law_change 8 = .ok (.i2l, 1) := by decide +kernel
theorem d_Law_change_9 : decode b_Law_change 9 = .ok (.lastore, 1) := by decide +kernel
theorem d_Law_change_10 : decode b_Law_change 10 = .ok (.goto 7, 3) := by decide +kernel
theorem d_Law_change_13 : decode b_Law_change 13 = .ok (.astore 4, 2) := by decide +kernel
theorem d_Law_change_15 : decode b_Law_change 15 = .ok (.iconst 1, 1) := by decide +kernel
theorem d_Law_change_16 : decode b_Law_change 16 = .ok (.ireturn, 1) := by decide +kernel
theorem d_Law_change_17 : decode b_Law_change 17 = .ok (.iconst 0, 1) := by decide +kernel
theorem d_Law_change_18 : decode b_Law_change 18 = .ok (.ireturn, 1) := by decide +kernel
theorem d_Law_spot_0 : decode b_Law_spot 0 = .ok (.aload_n 3, 1) := by decide +kernel
theorem d_Law_spot_1 : decode b_Law_spot 1 = .ok (.iconst 0, 1) := by decide +kernel
theorem d_Law_spot_2 : decode b_Law_spot 2 = .ok (.aload_n 0, 1) := by decide +kernel
theorem d_Law_spot_3 : decode b_Law_spot 3 = .ok (.iload_n 1, 1) := by decide +kernel
theorem d_Law_spot_4 : decode b_Law_spot 4 = .ok (.iload_n 2, 1) := by decide +kernel
theorem d_Law_spot_5 : decode b_Law_spot 5 = .ok (.invokevirtual 47, 3) := by decide +kernel
theorem d_Law_spot_8 : decode b_Law_spot 8 = .ok (.i2l, 1) := by decide +kernel
theorem d_Law_spot_9 : decode b_Law_spot 9 = .ok (.lastore, 1) := by decide +kernel
theorem d_Law_spot_10 : decode b_Law_spot 10 = .ok (.goto 7, 3) := by decide +kernel
theorem d_Law_spot_13 : decode b_Law_spot 13 = .ok (.astore 4, 2) := by decide +kernel
theorem d_Law_spot_15 : decode b_Law_spot 15 = .ok (.iconst 1, 1) := by decide +kernel
theorem d_Law_spot_16 : decode b_Law_spot 16 = .ok (.ireturn, 1) := by decide +kernel
theorem d_Law_spot_17 : decode b_Law_spot 17 = .ok (.iconst 0, 1) := by decide +kernel
theorem d_Law_spot_18 : decode b_Law_spot 18 = .ok (.ireturn, 1) := by decide +kernel
theorem d_Law_map_0 : decode b_Law_map 0 = .ok (.aload_n 3, 1) := by decide +kernel
theorem d_Law_map_1 : decode b_Law_map 1 = .ok (.iconst 0, 1) := by decide +kernel
theorem d_Law_map_2 : decode b_Law_map 2 = .ok (.aload_n 0, 1) := by decide +kernel
theorem d_Law_map_3 : decode b_Law_map 3 = .ok (.iload_n 1, 1) := by decide +kernel
theorem d_Law_map_4 : decode b_Law_map 4 = .ok (.iload_n 2, 1) := by decide +kernel
theorem d_Law_map_5 : decode b_Law_map 5 = .ok (.invokevirtual 50, 3) := by decide +kernel
theorem d_Law_map_8 : decode b_Law_map 8 = .ok (.i2l, 1) := by decide +kernel
theorem d_Law_map_9 : decode b_Law_map 9 = .ok (.lastore, 1) := by decide +kernel
theorem d_Law_map_10 : decode b_Law_map 10 = .ok (.goto 7, 3) := by decide +kernel
theorem d_Law_map_13 : decode b_Law_map 13 = .ok (.astore 4, 2) := by decide +kernel
theorem d_Law_map_15 : decode b_Law_map 15 = .ok (.iconst 1, 1) := by decide +kernel
theorem d_Law_map_16 : decode b_Law_map 16 = .ok (.ireturn, 1) := by decide +kernel
theorem d_Law_map_17 : decode b_Law_map 17 = .ok (.iconst 0, 1) := by decide +kernel
theorem d_Law_map_18 : decode b_Law_map 18 = .ok (.ireturn, 1) := by decide +kernel
theorem d_Law_alarm_0 : decode b_Law_alarm 0 = .ok (.aload 4, 2) := by decide +kernel
theorem d_Law_alarm_2 : decode b_Law_alarm 2 = .ok (.iconst 0, 1) := by decide +kernel
theorem d_Law_alarm_3 : decode b_Law_alarm 3 = .ok (.aload_n 0, 1) := by decide +kernel
theorem d_Law_alarm_4 : decode b_Law_alarm 4 = .ok (.iload_n 1, 1) := by decide +kernel
theorem d_Law_alarm_5 : decode b_Law_alarm 5 = .ok (.iload_n 2, 1) := by decide +kernel
theorem d_Law_alarm_6 : decode b_Law_alarm 6 = .ok (.iload_n 3, 1) := by decide +kernel
theorem d_Law_alarm_7 : decode b_Law_alarm 7 = .ok (.invokevirtual 53, 3) := by decide +kernel
theorem d_Law_alarm_10 : decode b_Law_alarm 10 = .ok (.i2l, 1) := by decide +kernel
theorem d_Law_alarm_11 : decode b_Law_alarm 11 = .ok (.lastore, 1) := by decide +kernel
theorem d_Law_alarm_12 : decode b_Law_alarm 12 = .ok (.goto 7, 3) := by decide +kernel
theorem d_Law_alarm_15 : decode b_Law_alarm 15 = .ok (.astore 5, 2) := by decide +kernel
theorem d_Law_alarm_17 : decode b_Law_alarm 17 = .ok (.iconst 1, 1) := by decide +kernel
theorem d_Law_alarm_18 : decode b_Law_alarm 18 = .ok (.ireturn, 1) := by decide +kernel
theorem d_Law_alarm_19 : decode b_Law_alarm 19 = .ok (.iconst 0, 1) := by decide +kernel
theorem d_Law_alarm_20 : decode b_Law_alarm 20 = .ok (.ireturn, 1) := by decide +kernel
theorem d_Law_day_0 : decode b_Law_day 0 = .ok (.aload_n 2, 1) := by decide +kernel
theorem d_Law_day_1 : decode b_Law_day 1 = .ok (.iconst 0, 1) := by decide +kernel
theorem d_Law_day_2 : decode b_Law_day 2 = .ok (.aload_n 0, 1) := by decide +kernel
theorem d_Law_day_3 : decode b_Law_day 3 = .ok (.iload_n 1, 1) := by decide +kernel
theorem d_Law_day_4 : decode b_Law_day 4 = .ok (.invokevirtual 56, 3) := by decide +kernel
theorem d_Law_day_7 : decode b_Law_day 7 = .ok (.i2l, 1) := by decide +kernel
theorem d_Law_day_8 : decode b_Law_day 8 = .ok (.lastore, 1) := by decide +kernel
theorem d_Law_day_9 : decode b_Law_day 9 = .ok (.goto 9, 3) := by decide +kernel
theorem d_Law_day_12 : decode b_Law_day 12 = .ok (.astore_n 3, 1) := by decide +kernel
theorem d_Law_day_13 : decode b_Law_day 13 = .ok (.iconst 1, 1) := by decide +kernel
theorem d_Law_day_14 : decode b_Law_day 14 = .ok (.ireturn, 1) := by decide +kernel
theorem d_Law_day_15 : decode b_Law_day 15 = .ok (.astore_n 3, 1) := by decide +kernel
theorem d_Law_day_16 : decode b_Law_day 16 = .ok (.iconst 2, 1) := by decide +kernel
theorem d_Law_day_17 : decode b_Law_day 17 = .ok (.ireturn, 1) := by decide +kernel
theorem d_Law_day_18 : decode b_Law_day 18 = .ok (.iconst 0, 1) := by decide +kernel
theorem d_Law_day_19 : decode b_Law_day 19 = .ok (.ireturn, 1) := by decide +kernel
theorem d_Law_growth_0 : decode b_Law_growth 0 = .ok (.aload_n 2, 1) := by decide +kernel
theorem d_Law_growth_1 : decode b_Law_growth 1 = .ok (.iconst 0, 1) := by decide +kernel
theorem d_Law_growth_2 : decode b_Law_growth 2 = .ok (.aload_n 0, 1) := by decide +kernel
theorem d_Law_growth_3 : decode b_Law_growth 3 = .ok (.iload_n 1, 1) := by decide +kernel
theorem d_Law_growth_4 : decode b_Law_growth 4 = .ok (.invokevirtual 59, 3) := by decide +kernel
theorem d_Law_growth_7 : decode b_Law_growth 7 = .ok (.lastore, 1) := by decide +kernel
theorem d_Law_growth_8 : decode b_Law_growth 8 = .ok (.goto 6, 3) := by decide +kernel
theorem d_Law_growth_11 : decode b_Law_growth 11 = .ok (.astore_n 3, 1) := by decide +kernel
theorem d_Law_growth_12 : decode b_Law_growth 12 = .ok (.iconst 1, 1) := by decide +kernel
theorem d_Law_growth_13 : decode b_Law_growth 13 = .ok (.ireturn, 1) := by decide +kernel
theorem d_Law_growth_14 : decode b_Law_growth 14 = .ok (.iconst 0, 1) := by decide +kernel
theorem d_Law_growth_15 : decode b_Law_growth 15 = .ok (.ireturn, 1) := by decide +kernel
theorem d_Law_count_0 : decode b_Law_count 0 = .ok (.aload_n 2, 1) := by decide +kernel
theorem d_Law_count_1 : decode b_Law_count 1 = .ok (.iconst 0, 1) := by decide +kernel
theorem d_Law_count_2 : decode b_Law_count 2 = .ok (.aload_n 0, 1) := by decide +kernel
theorem d_Law_count_3 : decode b_Law_count 3 = .ok (.iload_n 1, 1) := by decide +kernel
theorem d_Law_count_4 : decode b_Law_count 4 = .ok (.invokevirtual 63, 3) := by decide +kernel
theorem d_Law_count_7 : decode b_Law_count 7 = .ok (.i2l, 1) := by decide +kernel
theorem d_Law_count_8 : decode b_Law_count 8 = .ok (.lastore, 1) := by decide +kernel
theorem d_Law_count_9 : decode b_Law_count 9 = .ok (.goto 6, 3) := by decide +kernel
theorem d_Law_count_12 : decode b_Law_count 12 = .ok (.astore_n 3, 1) := by decide +kernel
theorem d_Law_count_13 : decode b_Law_count 13 = .ok (.iconst 1, 1) := by decide +kernel
theorem d_Law_count_14 : decode b_Law_count 14 = .ok (.ireturn, 1) := by decide +kernel
theorem d_Law_count_15 : decode b_Law_count 15 = .ok (.iconst 0, 1) := by decide +kernel
theorem d_Law_count_16 : decode b_Law_count 16 = .ok (.ireturn, 1) := by decide +kernel
theorem d_Mod_init_0 : decode b_Mod_init 0 = .ok (.aload_n 0, 1) := by decide +kernel
theorem d_Mod_init_1 : decode b_Mod_init 1 = .ok (.invokespecial 1, 3) := by decide +kernel
theorem d_Mod_init_4 : decode b_Mod_init 4 = .ok (.aload_n 0, 1) := by decide +kernel
theorem d_Mod_init_5 : decode b_Mod_init 5 = .ok (.sipush 576, 3) := by decide +kernel
theorem d_Mod_init_8 : decode b_Mod_init 8 = .ok (.newarray .int, 2) := by decide +kernel
theorem d_Mod_init_10 : decode b_Mod_init 10 = .ok (.putfield 7, 3) := by decide +kernel
theorem d_Mod_init_13 : decode b_Mod_init 13 = .ok (.aload_n 0, 1) := by decide +kernel
theorem d_Mod_init_14 : decode b_Mod_init 14 = .ok (.sipush 576, 3) := by decide +kernel
theorem d_Mod_init_17 : decode b_Mod_init 17 = .ok (.newarray .int, 2) := by decide +kernel
theorem d_Mod_init_19 : decode b_Mod_init 19 = .ok (.putfield 13, 3) := by decide +kernel
theorem d_Mod_init_22 : decode b_Mod_init 22 = .ok (.aload_n 0, 1) := by decide +kernel
theorem d_Mod_init_23 : decode b_Mod_init 23 = .ok (.sipush 576, 3) := by decide +kernel
theorem d_Mod_init_26 : decode b_Mod_init 26 = .ok (.newarray .boolean, 2) := by decide +kernel
theorem d_Mod_init_28 : decode b_Mod_init 28 = .ok (.putfield 16, 3) := by decide +kernel
theorem d_Mod_init_31 : decode b_Mod_init 31 = .ok (.aload_n 0, 1) := by decide +kernel
theorem d_Mod_init_32 : decode b_Mod_init 32 = .ok (.sipush 576, 3) := by decide +kernel
theorem d_Mod_init_35 : decode b_Mod_init 35 = .ok (.newarray .int, 2) := by decide +kernel
theorem d_Mod_init_37 : decode b_Mod_init 37 = .ok (.putfield 20, 3) := by decide +kernel
theorem d_Mod_init_40 : decode b_Mod_init 40 = .ok (.aload_n 0, 1) := by decide +kernel
theorem d_Mod_init_41 : decode b_Mod_init 41 = .ok (.sipush 576, 3) := by decide +kernel
theorem d_Mod_init_44 : decode b_Mod_init 44 = .ok (.newarray .int, 2) := by decide +kernel
theorem d_Mod_init_46 : decode b_Mod_init 46 = .ok (.putfield 23, 3) := by decide +kernel
theorem d_Mod_init_49 : decode b_Mod_init 49 = .ok (.aload_n 0, 1) := by decide +kernel
theorem d_Mod_init_50 : decode b_Mod_init 50 = .ok (.bipush 10, 2) := by decide +kernel
theorem d_Mod_init_52 : decode b_Mod_init 52 = .ok (.putfield 26, 3) := by decide +kernel
theorem d_Mod_init_55 : decode b_Mod_init 55 = .ok (.aload_n 0, 1) := by decide +kernel
theorem d_Mod_init_56 : decode b_Mod_init 56 = .ok (.sipush 576, 3) := by decide +kernel
theorem d_Mod_init_59 : decode b_Mod_init 59 = .ok (.newarray .int, 2) := by decide +kernel
theorem d_Mod_init_61 : decode b_Mod_init 61 = .ok (.putfield 30, 3) := by decide +kernel
theorem d_Mod_init_64 : decode b_Mod_init 64 = .ok (.aload_n 0, 1) := by decide +kernel
theorem d_Mod_init_65 : decode b_Mod_init 65 = .ok (.sipush 576, 3) := by decide +kernel
theorem d_Mod_init_68 : decode b_Mod_init 68 = .ok (.newarray .int, 2) := by decide +kernel
theorem d_Mod_init_70 : decode b_Mod_init 70 = .ok (.putfield 33, 3) := by decide +kernel
theorem d_Mod_init_73 : decode b_Mod_init 73 = .ok (.aload_n 0, 1) := by decide +kernel
theorem d_Mod_init_74 : decode b_Mod_init 74 = .ok (.bipush 30, 2) := by decide +kernel
theorem d_Mod_init_76 : decode b_Mod_init 76 = .ok (.newarray .int, 2) := by decide +kernel
theorem d_Mod_init_78 : decode b_Mod_init 78 = .ok (.putfield 36, 3) := by decide +kernel
theorem d_Mod_init_81 : decode b_Mod_init 81 = .ok (.aload_n 0, 1) := by decide +kernel
theorem d_Mod_init_82 : decode b_Mod_init 82 = .ok (.bipush 30, 2) := by decide +kernel
theorem d_Mod_init_84 : decode b_Mod_init 84 = .ok (.newarray .int, 2) := by decide +kernel
theorem d_Mod_init_86 : decode b_Mod_init 86 = .ok (.putfield 39, 3) := by decide +kernel
theorem d_Mod_init_89 : decode b_Mod_init 89 = .ok (.aload_n 0, 1) := by decide +kernel
theorem d_Mod_init_90 : decode b_Mod_init 90 = .ok (.iload_n 1, 1) := by decide +kernel
theorem d_Mod_init_91 : decode b_Mod_init 91 = .ok (.iconst 4, 1) := by decide +kernel
theorem d_Mod_init_92 : decode b_Mod_init 92 = .ok (.if_icmp .ge 7, 3) := by decide +kernel
theorem d_Mod_init_95 : decode b_Mod_init 95 = .ok (.iconst 4, 1) := by decide +kernel
theorem d_Mod_init_96 : decode b_Mod_init 96 = .ok (.goto 15, 3) := by decide +kernel
theorem d_Mod_init_99 : decode b_Mod_init 99 = .ok (.iload_n 1, 1) := by decide +kernel
theorem d_Mod_init_100 : decode b_Mod_init 100 = .ok (.bipush 24, 2) := by decide +kernel
theorem d_Mod_init_102 : decode b_Mod_init 102 = .ok (.if_icmp .le 8, 3) := by decide +kernel
theorem d_Mod_init_105 : decode b_Mod_init 105 = .ok (.bipush 24, 2) := by decide +kernel
theorem d_Mod_init_107 : decode b_Mod_init 107 = .ok (.goto 4, 3) := by decide +kernel
theorem d_Mod_init_110 : decode b_Mod_init 110 = .ok (.iload_n 1, 1) := by decide +kernel
